section
-- ===== PART A: goes FIRST, ahead of the names: the tables' words, and 'selects' of the private methods out of them =====
/-- a private method of a class that the tables say can be made, by its rows of tables_1 -/
def lw_okq (q : MethodName × Nat) : Prop := (q.1.cls ≠ "java/lang/invoke/MethodHandle" ∧ q.1.cls ≠ "java/lang/invoke/VarHandle") ∧ Cond.instantiable q.1.cls q.2 ∈ tables_1 ∧ Cond.privateMethod q.1 ∈ tables_1 ∧ Cond.instanceMethod q.1 ∈ tables_1
theorem lw_p0 : lw_okq (⟨"FlossRumours", "answerFinding", "(I)I"⟩, 15) := ⟨⟨by decide +kernel, by decide +kernel⟩, List.mem_of_getElem? (i := 17) (by decide +kernel), List.mem_of_getElem? (i := 224) (by decide +kernel), List.mem_of_getElem? (i := 225) (by decide +kernel)⟩
theorem lw_p1 : lw_okq (⟨"FlossRumours", "refusedPlace", "(II)I"⟩, 15) := ⟨⟨by decide +kernel, by decide +kernel⟩, List.mem_of_getElem? (i := 17) (by decide +kernel), List.mem_of_getElem? (i := 232) (by decide +kernel), List.mem_of_getElem? (i := 233) (by decide +kernel)⟩
theorem lw_p2 : lw_okq (⟨"FlossRumours", "refusedRow", "(I)I"⟩, 15) := ⟨⟨by decide +kernel, by decide +kernel⟩, List.mem_of_getElem? (i := 17) (by decide +kernel), List.mem_of_getElem? (i := 236) (by decide +kernel), List.mem_of_getElem? (i := 237) (by decide +kernel)⟩
theorem lw_p3 : lw_okq (⟨"FlossRumours", "hasPlaces", "(III)Z"⟩, 15) := ⟨⟨by decide +kernel, by decide +kernel⟩, List.mem_of_getElem? (i := 17) (by decide +kernel), List.mem_of_getElem? (i := 240) (by decide +kernel), List.mem_of_getElem? (i := 241) (by decide +kernel)⟩
theorem lw_p4 : lw_okq (⟨"FlossRumours", "refusedText", "(I)I"⟩, 15) := ⟨⟨by decide +kernel, by decide +kernel⟩, List.mem_of_getElem? (i := 17) (by decide +kernel), List.mem_of_getElem? (i := 277) (by decide +kernel), List.mem_of_getElem? (i := 278) (by decide +kernel)⟩
theorem lw_p5 : lw_okq (⟨"FlossRumours", "readFront", "(I)I"⟩, 15) := ⟨⟨by decide +kernel, by decide +kernel⟩, List.mem_of_getElem? (i := 17) (by decide +kernel), List.mem_of_getElem? (i := 285) (by decide +kernel), List.mem_of_getElem? (i := 286) (by decide +kernel)⟩
theorem lw_p6 : lw_okq (⟨"FlossRumours", "readOne", "([BII)I"⟩, 15) := ⟨⟨by decide +kernel, by decide +kernel⟩, List.mem_of_getElem? (i := 17) (by decide +kernel), List.mem_of_getElem? (i := 302) (by decide +kernel), List.mem_of_getElem? (i := 303) (by decide +kernel)⟩
theorem lw_p7 : lw_okq (⟨"FlossRumours", "valueOfOne", "(II)I"⟩, 15) := ⟨⟨by decide +kernel, by decide +kernel⟩, List.mem_of_getElem? (i := 17) (by decide +kernel), List.mem_of_getElem? (i := 331) (by decide +kernel), List.mem_of_getElem? (i := 332) (by decide +kernel)⟩
theorem lw_p8 : lw_okq (⟨"FlossRumours", "leastCloudAlike", "(LFlossRumours$Person;)I"⟩, 15) := ⟨⟨by decide +kernel, by decide +kernel⟩, List.mem_of_getElem? (i := 17) (by decide +kernel), List.mem_of_getElem? (i := 388) (by decide +kernel), List.mem_of_getElem? (i := 389) (by decide +kernel)⟩
theorem lw_p9 : lw_okq (⟨"FlossRumours", "doDeed", "(II)I"⟩, 15) := ⟨⟨by decide +kernel, by decide +kernel⟩, List.mem_of_getElem? (i := 17) (by decide +kernel), List.mem_of_getElem? (i := 406) (by decide +kernel), List.mem_of_getElem? (i := 407) (by decide +kernel)⟩
theorem lw_p10 : lw_okq (⟨"FlossRumours$Front", "drift", "()V"⟩, 12) := ⟨⟨by decide +kernel, by decide +kernel⟩, List.mem_of_getElem? (i := 114) (by decide +kernel), List.mem_of_getElem? (i := 423) (by decide +kernel), List.mem_of_getElem? (i := 424) (by decide +kernel)⟩
theorem lw_p11 : lw_okq (⟨"FlossRumours$Front", "gatherFor", "(I)Z"⟩, 12) := ⟨⟨by decide +kernel, by decide +kernel⟩, List.mem_of_getElem? (i := 114) (by decide +kernel), List.mem_of_getElem? (i := 430) (by decide +kernel), List.mem_of_getElem? (i := 431) (by decide +kernel)⟩
theorem lw_p12 : lw_okq (⟨"FlossRumours$Front", "loseInRain", "()V"⟩, 12) := ⟨⟨by decide +kernel, by decide +kernel⟩, List.mem_of_getElem? (i := 114) (by decide +kernel), List.mem_of_getElem? (i := 446) (by decide +kernel), List.mem_of_getElem? (i := 447) (by decide +kernel)⟩
theorem lw_p13 : lw_okq (⟨"FlossRumours$Front", "moveTo", "(II)V"⟩, 12) := ⟨⟨by decide +kernel, by decide +kernel⟩, List.mem_of_getElem? (i := 114) (by decide +kernel), List.mem_of_getElem? (i := 466) (by decide +kernel), List.mem_of_getElem? (i := 467) (by decide +kernel)⟩
theorem lw_p14 : lw_okq (⟨"FlossRumours", "doAllAgain", "()V"⟩, 15) := ⟨⟨by decide +kernel, by decide +kernel⟩, List.mem_of_getElem? (i := 17) (by decide +kernel), List.mem_of_getElem? (i := 491) (by decide +kernel), List.mem_of_getElem? (i := 492) (by decide +kernel)⟩
theorem lw_p15 : lw_okq (⟨"FlossRumours", "shareWithout", "(III)I"⟩, 15) := ⟨⟨by decide +kernel, by decide +kernel⟩, List.mem_of_getElem? (i := 17) (by decide +kernel), List.mem_of_getElem? (i := 545) (by decide +kernel), List.mem_of_getElem? (i := 546) (by decide +kernel)⟩
def lw_privs_1 : List (MethodName × Nat) := [(⟨"FlossRumours", "answerFinding", "(I)I"⟩, 15), (⟨"FlossRumours", "refusedPlace", "(II)I"⟩, 15), (⟨"FlossRumours", "refusedRow", "(I)I"⟩, 15), (⟨"FlossRumours", "hasPlaces", "(III)Z"⟩, 15), (⟨"FlossRumours", "refusedText", "(I)I"⟩, 15), (⟨"FlossRumours", "readFront", "(I)I"⟩, 15), (⟨"FlossRumours", "readOne", "([BII)I"⟩, 15), (⟨"FlossRumours", "valueOfOne", "(II)I"⟩, 15), (⟨"FlossRumours", "leastCloudAlike", "(LFlossRumours$Person;)I"⟩, 15), (⟨"FlossRumours", "doDeed", "(II)I"⟩, 15), (⟨"FlossRumours$Front", "drift", "()V"⟩, 12), (⟨"FlossRumours$Front", "gatherFor", "(I)Z"⟩, 12), (⟨"FlossRumours$Front", "loseInRain", "()V"⟩, 12), (⟨"FlossRumours$Front", "moveTo", "(II)V"⟩, 12), (⟨"FlossRumours", "doAllAgain", "()V"⟩, 15), (⟨"FlossRumours", "shareWithout", "(III)I"⟩, 15)]
theorem lw_r1 : ∀ q ∈ lw_privs_1, lw_okq q := List.forall_mem_cons.mpr ⟨lw_p0, List.forall_mem_cons.mpr ⟨lw_p1, List.forall_mem_cons.mpr ⟨lw_p2, List.forall_mem_cons.mpr ⟨lw_p3, List.forall_mem_cons.mpr ⟨lw_p4, List.forall_mem_cons.mpr ⟨lw_p5, List.forall_mem_cons.mpr ⟨lw_p6, List.forall_mem_cons.mpr ⟨lw_p7, List.forall_mem_cons.mpr ⟨lw_p8, List.forall_mem_cons.mpr ⟨lw_p9, List.forall_mem_cons.mpr ⟨lw_p10, List.forall_mem_cons.mpr ⟨lw_p11, List.forall_mem_cons.mpr ⟨lw_p12, List.forall_mem_cons.mpr ⟨lw_p13, List.forall_mem_cons.mpr ⟨lw_p14, List.forall_mem_cons.mpr ⟨lw_p15, fun _ h => absurd h List.not_mem_nil⟩⟩⟩⟩⟩⟩⟩⟩⟩⟩⟩⟩⟩⟩⟩⟩
theorem lw_p16 : lw_okq (⟨"FlossRumours", "gatherersBy", "(II)I"⟩, 15) := ⟨⟨by decide +kernel, by decide +kernel⟩, List.mem_of_getElem? (i := 17) (by decide +kernel), List.mem_of_getElem? (i := 557) (by decide +kernel), List.mem_of_getElem? (i := 558) (by decide +kernel)⟩
theorem lw_p17 : lw_okq (⟨"FlossRumours", "refusedHad", "(II)I"⟩, 15) := ⟨⟨by decide +kernel, by decide +kernel⟩, List.mem_of_getElem? (i := 17) (by decide +kernel), List.mem_of_getElem? (i := 566) (by decide +kernel), List.mem_of_getElem? (i := 567) (by decide +kernel)⟩
theorem lw_p18 : lw_okq (⟨"FlossRumours", "fittingSizes", "(II)I"⟩, 15) := ⟨⟨by decide +kernel, by decide +kernel⟩, List.mem_of_getElem? (i := 17) (by decide +kernel), List.mem_of_getElem? (i := 570) (by decide +kernel), List.mem_of_getElem? (i := 571) (by decide +kernel)⟩
theorem lw_p19 : lw_okq (⟨"FlossRumours", "asideFits", "(II)Z"⟩, 15) := ⟨⟨by decide +kernel, by decide +kernel⟩, List.mem_of_getElem? (i := 17) (by decide +kernel), List.mem_of_getElem? (i := 578) (by decide +kernel), List.mem_of_getElem? (i := 579) (by decide +kernel)⟩
theorem lw_p20 : lw_okq (⟨"FlossRumours", "tallyShares", "(II)V"⟩, 15) := ⟨⟨by decide +kernel, by decide +kernel⟩, List.mem_of_getElem? (i := 17) (by decide +kernel), List.mem_of_getElem? (i := 594) (by decide +kernel), List.mem_of_getElem? (i := 595) (by decide +kernel)⟩
theorem lw_p21 : lw_okq (⟨"FlossRumours", "tellParts", "(JJ)V"⟩, 15) := ⟨⟨by decide +kernel, by decide +kernel⟩, List.mem_of_getElem? (i := 17) (by decide +kernel), List.mem_of_getElem? (i := 609) (by decide +kernel), List.mem_of_getElem? (i := 610) (by decide +kernel)⟩
theorem lw_p22 : lw_okq (⟨"FlossRumours", "firstGoes", "(IIIII)I"⟩, 15) := ⟨⟨by decide +kernel, by decide +kernel⟩, List.mem_of_getElem? (i := 17) (by decide +kernel), List.mem_of_getElem? (i := 624) (by decide +kernel), List.mem_of_getElem? (i := 625) (by decide +kernel)⟩
theorem lw_p23 : lw_okq (⟨"FlossRumours", "duelEnd", "(IIII)I"⟩, 15) := ⟨⟨by decide +kernel, by decide +kernel⟩, List.mem_of_getElem? (i := 17) (by decide +kernel), List.mem_of_getElem? (i := 628) (by decide +kernel), List.mem_of_getElem? (i := 629) (by decide +kernel)⟩
theorem lw_p24 : lw_okq (⟨"FlossRumours", "secondGoes", "(IIIII)I"⟩, 15) := ⟨⟨by decide +kernel, by decide +kernel⟩, List.mem_of_getElem? (i := 17) (by decide +kernel), List.mem_of_getElem? (i := 633) (by decide +kernel), List.mem_of_getElem? (i := 634) (by decide +kernel)⟩
theorem lw_p25 : lw_okq (⟨"FlossRumours", "weightOf", "(II)J"⟩, 15) := ⟨⟨by decide +kernel, by decide +kernel⟩, List.mem_of_getElem? (i := 17) (by decide +kernel), List.mem_of_getElem? (i := 642) (by decide +kernel), List.mem_of_getElem? (i := 643) (by decide +kernel)⟩
theorem lw_p26 : lw_okq (⟨"FlossRumours", "doLot", "(I)V"⟩, 15) := ⟨⟨by decide +kernel, by decide +kernel⟩, List.mem_of_getElem? (i := 17) (by decide +kernel), List.mem_of_getElem? (i := 660) (by decide +kernel), List.mem_of_getElem? (i := 661) (by decide +kernel)⟩
theorem lw_p27 : lw_okq (⟨"FlossRumours", "oneOfLot", "(I)I"⟩, 15) := ⟨⟨by decide +kernel, by decide +kernel⟩, List.mem_of_getElem? (i := 17) (by decide +kernel), List.mem_of_getElem? (i := 664) (by decide +kernel), List.mem_of_getElem? (i := 665) (by decide +kernel)⟩
theorem lw_p28 : lw_okq (⟨"FlossRumours", "beards", "()I"⟩, 15) := ⟨⟨by decide +kernel, by decide +kernel⟩, List.mem_of_getElem? (i := 17) (by decide +kernel), List.mem_of_getElem? (i := 684) (by decide +kernel), List.mem_of_getElem? (i := 685) (by decide +kernel)⟩
theorem lw_p29 : lw_okq (⟨"FlossRumours", "wasps", "()I"⟩, 15) := ⟨⟨by decide +kernel, by decide +kernel⟩, List.mem_of_getElem? (i := 17) (by decide +kernel), List.mem_of_getElem? (i := 688) (by decide +kernel), List.mem_of_getElem? (i := 689) (by decide +kernel)⟩
theorem lw_p30 : lw_okq (⟨"FlossRumours", "howManyKept", "()I"⟩, 15) := ⟨⟨by decide +kernel, by decide +kernel⟩, List.mem_of_getElem? (i := 17) (by decide +kernel), List.mem_of_getElem? (i := 695) (by decide +kernel), List.mem_of_getElem? (i := 696) (by decide +kernel)⟩
theorem lw_p31 : lw_okq (⟨"FlossRumoursModel", "forgetKept", "()V"⟩, 25) := ⟨⟨by decide +kernel, by decide +kernel⟩, List.mem_of_getElem? (i := 714) (by decide +kernel), List.mem_of_getElem? (i := 720) (by decide +kernel), List.mem_of_getElem? (i := 721) (by decide +kernel)⟩
def lw_privs_2 : List (MethodName × Nat) := [(⟨"FlossRumours", "gatherersBy", "(II)I"⟩, 15), (⟨"FlossRumours", "refusedHad", "(II)I"⟩, 15), (⟨"FlossRumours", "fittingSizes", "(II)I"⟩, 15), (⟨"FlossRumours", "asideFits", "(II)Z"⟩, 15), (⟨"FlossRumours", "tallyShares", "(II)V"⟩, 15), (⟨"FlossRumours", "tellParts", "(JJ)V"⟩, 15), (⟨"FlossRumours", "firstGoes", "(IIIII)I"⟩, 15), (⟨"FlossRumours", "duelEnd", "(IIII)I"⟩, 15), (⟨"FlossRumours", "secondGoes", "(IIIII)I"⟩, 15), (⟨"FlossRumours", "weightOf", "(II)J"⟩, 15), (⟨"FlossRumours", "doLot", "(I)V"⟩, 15), (⟨"FlossRumours", "oneOfLot", "(I)I"⟩, 15), (⟨"FlossRumours", "beards", "()I"⟩, 15), (⟨"FlossRumours", "wasps", "()I"⟩, 15), (⟨"FlossRumours", "howManyKept", "()I"⟩, 15), (⟨"FlossRumoursModel", "forgetKept", "()V"⟩, 25)]
theorem lw_r2 : ∀ q ∈ lw_privs_2, lw_okq q := List.forall_mem_cons.mpr ⟨lw_p16, List.forall_mem_cons.mpr ⟨lw_p17, List.forall_mem_cons.mpr ⟨lw_p18, List.forall_mem_cons.mpr ⟨lw_p19, List.forall_mem_cons.mpr ⟨lw_p20, List.forall_mem_cons.mpr ⟨lw_p21, List.forall_mem_cons.mpr ⟨lw_p22, List.forall_mem_cons.mpr ⟨lw_p23, List.forall_mem_cons.mpr ⟨lw_p24, List.forall_mem_cons.mpr ⟨lw_p25, List.forall_mem_cons.mpr ⟨lw_p26, List.forall_mem_cons.mpr ⟨lw_p27, List.forall_mem_cons.mpr ⟨lw_p28, List.forall_mem_cons.mpr ⟨lw_p29, List.forall_mem_cons.mpr ⟨lw_p30, List.forall_mem_cons.mpr ⟨lw_p31, fun _ h => absurd h List.not_mem_nil⟩⟩⟩⟩⟩⟩⟩⟩⟩⟩⟩⟩⟩⟩⟩⟩
theorem lw_p32 : lw_okq (⟨"FlossRumoursModel", "find", "(I)I"⟩, 25) := ⟨⟨by decide +kernel, by decide +kernel⟩, List.mem_of_getElem? (i := 714) (by decide +kernel), List.mem_of_getElem? (i := 810) (by decide +kernel), List.mem_of_getElem? (i := 811) (by decide +kernel)⟩
theorem lw_p33 : lw_okq (⟨"FlossRumoursModel", "wrongPlace", "(II)I"⟩, 25) := ⟨⟨by decide +kernel, by decide +kernel⟩, List.mem_of_getElem? (i := 714) (by decide +kernel), List.mem_of_getElem? (i := 818) (by decide +kernel), List.mem_of_getElem? (i := 819) (by decide +kernel)⟩
theorem lw_p34 : lw_okq (⟨"FlossRumoursModel", "tell", "(I)I"⟩, 25) := ⟨⟨by decide +kernel, by decide +kernel⟩, List.mem_of_getElem? (i := 714) (by decide +kernel), List.mem_of_getElem? (i := 822) (by decide +kernel), List.mem_of_getElem? (i := 823) (by decide +kernel)⟩
theorem lw_p35 : lw_okq (⟨"FlossRumoursModel", "faultOf", "(I)I"⟩, 25) := ⟨⟨by decide +kernel, by decide +kernel⟩, List.mem_of_getElem? (i := 714) (by decide +kernel), List.mem_of_getElem? (i := 857) (by decide +kernel), List.mem_of_getElem? (i := 858) (by decide +kernel)⟩
theorem lw_p36 : lw_okq (⟨"FlossRumoursModel", "skipBlanks", "(I)V"⟩, 25) := ⟨⟨by decide +kernel, by decide +kernel⟩, List.mem_of_getElem? (i := 714) (by decide +kernel), List.mem_of_getElem? (i := 861) (by decide +kernel), List.mem_of_getElem? (i := 862) (by decide +kernel)⟩
theorem lw_p37 : lw_okq (⟨"FlossRumoursModel", "letterAt", "(II)I"⟩, 25) := ⟨⟨by decide +kernel, by decide +kernel⟩, List.mem_of_getElem? (i := 714) (by decide +kernel), List.mem_of_getElem? (i := 865) (by decide +kernel), List.mem_of_getElem? (i := 866) (by decide +kernel)⟩
theorem lw_p38 : lw_okq (⟨"FlossRumoursModel", "isFigure", "(II)Z"⟩, 25) := ⟨⟨by decide +kernel, by decide +kernel⟩, List.mem_of_getElem? (i := 714) (by decide +kernel), List.mem_of_getElem? (i := 869) (by decide +kernel), List.mem_of_getElem? (i := 870) (by decide +kernel)⟩
theorem lw_p39 : lw_okq (⟨"FlossRumoursModel", "figure", "(II)I"⟩, 25) := ⟨⟨by decide +kernel, by decide +kernel⟩, List.mem_of_getElem? (i := 714) (by decide +kernel), List.mem_of_getElem? (i := 873) (by decide +kernel), List.mem_of_getElem? (i := 874) (by decide +kernel)⟩
theorem lw_p40 : lw_okq (⟨"FlossRumoursModel", "readOne", "(I)I"⟩, 25) := ⟨⟨by decide +kernel, by decide +kernel⟩, List.mem_of_getElem? (i := 714) (by decide +kernel), List.mem_of_getElem? (i := 877) (by decide +kernel), List.mem_of_getElem? (i := 878) (by decide +kernel)⟩
theorem lw_p41 : lw_okq (⟨"FlossRumoursModel", "isOne", "(I)Z"⟩, 25) := ⟨⟨by decide +kernel, by decide +kernel⟩, List.mem_of_getElem? (i := 714) (by decide +kernel), List.mem_of_getElem? (i := 892) (by decide +kernel), List.mem_of_getElem? (i := 893) (by decide +kernel)⟩
theorem lw_p42 : lw_okq (⟨"FlossRumoursModel", "ofOne", "(II)I"⟩, 25) := ⟨⟨by decide +kernel, by decide +kernel⟩, List.mem_of_getElem? (i := 714) (by decide +kernel), List.mem_of_getElem? (i := 896) (by decide +kernel), List.mem_of_getElem? (i := 897) (by decide +kernel)⟩
theorem lw_p43 : lw_okq (⟨"FlossRumoursModel", "now", "()I"⟩, 25) := ⟨⟨by decide +kernel, by decide +kernel⟩, List.mem_of_getElem? (i := 714) (by decide +kernel), List.mem_of_getElem? (i := 900) (by decide +kernel), List.mem_of_getElem? (i := 901) (by decide +kernel)⟩
theorem lw_p44 : lw_okq (⟨"FlossRumoursModel", "distance", "(I)I"⟩, 25) := ⟨⟨by decide +kernel, by decide +kernel⟩, List.mem_of_getElem? (i := 714) (by decide +kernel), List.mem_of_getElem? (i := 910) (by decide +kernel), List.mem_of_getElem? (i := 911) (by decide +kernel)⟩
theorem lw_p45 : lw_okq (⟨"FlossRumoursModel", "allHave", "(I)I"⟩, 25) := ⟨⟨by decide +kernel, by decide +kernel⟩, List.mem_of_getElem? (i := 714) (by decide +kernel), List.mem_of_getElem? (i := 921) (by decide +kernel), List.mem_of_getElem? (i := 922) (by decide +kernel)⟩
theorem lw_p46 : lw_okq (⟨"FlossRumoursModel", "leastAlike", "(I)I"⟩, 25) := ⟨⟨by decide +kernel, by decide +kernel⟩, List.mem_of_getElem? (i := 714) (by decide +kernel), List.mem_of_getElem? (i := 925) (by decide +kernel), List.mem_of_getElem? (i := 926) (by decide +kernel)⟩
theorem lw_p47 : lw_okq (⟨"FlossRumoursModel", "begin", "()I"⟩, 25) := ⟨⟨by decide +kernel, by decide +kernel⟩, List.mem_of_getElem? (i := 714) (by decide +kernel), List.mem_of_getElem? (i := 933) (by decide +kernel), List.mem_of_getElem? (i := 934) (by decide +kernel)⟩
def lw_privs_3 : List (MethodName × Nat) := [(⟨"FlossRumoursModel", "find", "(I)I"⟩, 25), (⟨"FlossRumoursModel", "wrongPlace", "(II)I"⟩, 25), (⟨"FlossRumoursModel", "tell", "(I)I"⟩, 25), (⟨"FlossRumoursModel", "faultOf", "(I)I"⟩, 25), (⟨"FlossRumoursModel", "skipBlanks", "(I)V"⟩, 25), (⟨"FlossRumoursModel", "letterAt", "(II)I"⟩, 25), (⟨"FlossRumoursModel", "isFigure", "(II)Z"⟩, 25), (⟨"FlossRumoursModel", "figure", "(II)I"⟩, 25), (⟨"FlossRumoursModel", "readOne", "(I)I"⟩, 25), (⟨"FlossRumoursModel", "isOne", "(I)Z"⟩, 25), (⟨"FlossRumoursModel", "ofOne", "(II)I"⟩, 25), (⟨"FlossRumoursModel", "now", "()I"⟩, 25), (⟨"FlossRumoursModel", "distance", "(I)I"⟩, 25), (⟨"FlossRumoursModel", "allHave", "(I)I"⟩, 25), (⟨"FlossRumoursModel", "leastAlike", "(I)I"⟩, 25), (⟨"FlossRumoursModel", "begin", "()I"⟩, 25)]
theorem lw_r3 : ∀ q ∈ lw_privs_3, lw_okq q := List.forall_mem_cons.mpr ⟨lw_p32, List.forall_mem_cons.mpr ⟨lw_p33, List.forall_mem_cons.mpr ⟨lw_p34, List.forall_mem_cons.mpr ⟨lw_p35, List.forall_mem_cons.mpr ⟨lw_p36, List.forall_mem_cons.mpr ⟨lw_p37, List.forall_mem_cons.mpr ⟨lw_p38, List.forall_mem_cons.mpr ⟨lw_p39, List.forall_mem_cons.mpr ⟨lw_p40, List.forall_mem_cons.mpr ⟨lw_p41, List.forall_mem_cons.mpr ⟨lw_p42, List.forall_mem_cons.mpr ⟨lw_p43, List.forall_mem_cons.mpr ⟨lw_p44, List.forall_mem_cons.mpr ⟨lw_p45, List.forall_mem_cons.mpr ⟨lw_p46, List.forall_mem_cons.mpr ⟨lw_p47, fun _ h => absurd h List.not_mem_nil⟩⟩⟩⟩⟩⟩⟩⟩⟩⟩⟩⟩⟩⟩⟩⟩
theorem lw_p48 : lw_okq (⟨"FlossRumoursModel", "copyRow", "(II)V"⟩, 25) := ⟨⟨by decide +kernel, by decide +kernel⟩, List.mem_of_getElem? (i := 714) (by decide +kernel), List.mem_of_getElem? (i := 937) (by decide +kernel), List.mem_of_getElem? (i := 938) (by decide +kernel)⟩
theorem lw_p49 : lw_okq (⟨"FlossRumoursModel", "plainTurn", "(I)I"⟩, 25) := ⟨⟨by decide +kernel, by decide +kernel⟩, List.mem_of_getElem? (i := 714) (by decide +kernel), List.mem_of_getElem? (i := 941) (by decide +kernel), List.mem_of_getElem? (i := 942) (by decide +kernel)⟩
theorem lw_p50 : lw_okq (⟨"FlossRumoursModel", "turnIn", "(IIII)I"⟩, 25) := ⟨⟨by decide +kernel, by decide +kernel⟩, List.mem_of_getElem? (i := 714) (by decide +kernel), List.mem_of_getElem? (i := 945) (by decide +kernel), List.mem_of_getElem? (i := 946) (by decide +kernel)⟩
theorem lw_p51 : lw_okq (⟨"FlossRumoursModel", "spoonIn", "(II)V"⟩, 25) := ⟨⟨by decide +kernel, by decide +kernel⟩, List.mem_of_getElem? (i := 714) (by decide +kernel), List.mem_of_getElem? (i := 956) (by decide +kernel), List.mem_of_getElem? (i := 957) (by decide +kernel)⟩
theorem lw_p52 : lw_okq (⟨"FlossRumoursModel", "goOn", "(II)V"⟩, 25) := ⟨⟨by decide +kernel, by decide +kernel⟩, List.mem_of_getElem? (i := 714) (by decide +kernel), List.mem_of_getElem? (i := 992) (by decide +kernel), List.mem_of_getElem? (i := 993) (by decide +kernel)⟩
theorem lw_p53 : lw_okq (⟨"FlossRumoursModel", "without", "(III)I"⟩, 25) := ⟨⟨by decide +kernel, by decide +kernel⟩, List.mem_of_getElem? (i := 714) (by decide +kernel), List.mem_of_getElem? (i := 1019) (by decide +kernel), List.mem_of_getElem? (i := 1020) (by decide +kernel)⟩
theorem lw_p54 : lw_okq (⟨"FlossRumoursModel", "wrongRow", "(I)I"⟩, 25) := ⟨⟨by decide +kernel, by decide +kernel⟩, List.mem_of_getElem? (i := 714) (by decide +kernel), List.mem_of_getElem? (i := 1027) (by decide +kernel), List.mem_of_getElem? (i := 1028) (by decide +kernel)⟩
theorem lw_p55 : lw_okq (⟨"FlossRumoursModel", "sizesOf", "(II)I"⟩, 25) := ⟨⟨by decide +kernel, by decide +kernel⟩, List.mem_of_getElem? (i := 714) (by decide +kernel), List.mem_of_getElem? (i := 1031) (by decide +kernel), List.mem_of_getElem? (i := 1032) (by decide +kernel)⟩
theorem lw_p56 : lw_okq (⟨"FlossRumoursModel", "laySize", "(I)V"⟩, 25) := ⟨⟨by decide +kernel, by decide +kernel⟩, List.mem_of_getElem? (i := 714) (by decide +kernel), List.mem_of_getElem? (i := 1035) (by decide +kernel), List.mem_of_getElem? (i := 1036) (by decide +kernel)⟩
theorem lw_p57 : lw_okq (⟨"FlossRumoursModel", "isSo", "(III)Z"⟩, 25) := ⟨⟨by decide +kernel, by decide +kernel⟩, List.mem_of_getElem? (i := 714) (by decide +kernel), List.mem_of_getElem? (i := 1039) (by decide +kernel), List.mem_of_getElem? (i := 1040) (by decide +kernel)⟩
theorem lw_p58 : lw_okq (⟨"FlossRumoursModel", "greatestPart", "(III)I"⟩, 25) := ⟨⟨by decide +kernel, by decide +kernel⟩, List.mem_of_getElem? (i := 714) (by decide +kernel), List.mem_of_getElem? (i := 1055) (by decide +kernel), List.mem_of_getElem? (i := 1056) (by decide +kernel)⟩
theorem lw_p59 : lw_okq (⟨"FlossRumoursModel", "haveOf", "(I)I"⟩, 25) := ⟨⟨by decide +kernel, by decide +kernel⟩, List.mem_of_getElem? (i := 714) (by decide +kernel), List.mem_of_getElem? (i := 1063) (by decide +kernel), List.mem_of_getElem? (i := 1064) (by decide +kernel)⟩
theorem lw_p60 : lw_okq (⟨"FlossRumoursModel", "endOf", "(IIII)I"⟩, 25) := ⟨⟨by decide +kernel, by decide +kernel⟩, List.mem_of_getElem? (i := 714) (by decide +kernel), List.mem_of_getElem? (i := 1075) (by decide +kernel), List.mem_of_getElem? (i := 1076) (by decide +kernel)⟩
theorem lw_p61 : lw_okq (⟨"FlossRumoursModel", "weighed", "(II)J"⟩, 25) := ⟨⟨by decide +kernel, by decide +kernel⟩, List.mem_of_getElem? (i := 714) (by decide +kernel), List.mem_of_getElem? (i := 1083) (by decide +kernel), List.mem_of_getElem? (i := 1084) (by decide +kernel)⟩
theorem lw_p62 : lw_okq (⟨"FlossRumoursModel", "twelves", "()J"⟩, 25) := ⟨⟨by decide +kernel, by decide +kernel⟩, List.mem_of_getElem? (i := 714) (by decide +kernel), List.mem_of_getElem? (i := 1087) (by decide +kernel), List.mem_of_getElem? (i := 1088) (by decide +kernel)⟩
theorem lw_p63 : lw_okq (⟨"FlossRumoursModel", "tellPart", "(JJ)V"⟩, 25) := ⟨⟨by decide +kernel, by decide +kernel⟩, List.mem_of_getElem? (i := 714) (by decide +kernel), List.mem_of_getElem? (i := 1092) (by decide +kernel), List.mem_of_getElem? (i := 1093) (by decide +kernel)⟩
def lw_privs_4 : List (MethodName × Nat) := [(⟨"FlossRumoursModel", "copyRow", "(II)V"⟩, 25), (⟨"FlossRumoursModel", "plainTurn", "(I)I"⟩, 25), (⟨"FlossRumoursModel", "turnIn", "(IIII)I"⟩, 25), (⟨"FlossRumoursModel", "spoonIn", "(II)V"⟩, 25), (⟨"FlossRumoursModel", "goOn", "(II)V"⟩, 25), (⟨"FlossRumoursModel", "without", "(III)I"⟩, 25), (⟨"FlossRumoursModel", "wrongRow", "(I)I"⟩, 25), (⟨"FlossRumoursModel", "sizesOf", "(II)I"⟩, 25), (⟨"FlossRumoursModel", "laySize", "(I)V"⟩, 25), (⟨"FlossRumoursModel", "isSo", "(III)Z"⟩, 25), (⟨"FlossRumoursModel", "greatestPart", "(III)I"⟩, 25), (⟨"FlossRumoursModel", "haveOf", "(I)I"⟩, 25), (⟨"FlossRumoursModel", "endOf", "(IIII)I"⟩, 25), (⟨"FlossRumoursModel", "weighed", "(II)J"⟩, 25), (⟨"FlossRumoursModel", "twelves", "()J"⟩, 25), (⟨"FlossRumoursModel", "tellPart", "(JJ)V"⟩, 25)]
theorem lw_r4 : ∀ q ∈ lw_privs_4, lw_okq q := List.forall_mem_cons.mpr ⟨lw_p48, List.forall_mem_cons.mpr ⟨lw_p49, List.forall_mem_cons.mpr ⟨lw_p50, List.forall_mem_cons.mpr ⟨lw_p51, List.forall_mem_cons.mpr ⟨lw_p52, List.forall_mem_cons.mpr ⟨lw_p53, List.forall_mem_cons.mpr ⟨lw_p54, List.forall_mem_cons.mpr ⟨lw_p55, List.forall_mem_cons.mpr ⟨lw_p56, List.forall_mem_cons.mpr ⟨lw_p57, List.forall_mem_cons.mpr ⟨lw_p58, List.forall_mem_cons.mpr ⟨lw_p59, List.forall_mem_cons.mpr ⟨lw_p60, List.forall_mem_cons.mpr ⟨lw_p61, List.forall_mem_cons.mpr ⟨lw_p62, List.forall_mem_cons.mpr ⟨lw_p63, fun _ h => absurd h List.not_mem_nil⟩⟩⟩⟩⟩⟩⟩⟩⟩⟩⟩⟩⟩⟩⟩⟩
theorem lw_p64 : lw_okq (⟨"FlossRumoursModel", "deedBy", "(II)V"⟩, 25) := ⟨⟨by decide +kernel, by decide +kernel⟩, List.mem_of_getElem? (i := 714) (by decide +kernel), List.mem_of_getElem? (i := 1107) (by decide +kernel), List.mem_of_getElem? (i := 1108) (by decide +kernel)⟩
theorem lw_p65 : lw_okq (⟨"FlossRumoursModel", "manyOf", "(I)I"⟩, 25) := ⟨⟨by decide +kernel, by decide +kernel⟩, List.mem_of_getElem? (i := 714) (by decide +kernel), List.mem_of_getElem? (i := 1127) (by decide +kernel), List.mem_of_getElem? (i := 1128) (by decide +kernel)⟩
theorem lw_p66 : lw_okq (⟨"FlossRumoursModel", "rowsThere", "()I"⟩, 25) := ⟨⟨by decide +kernel, by decide +kernel⟩, List.mem_of_getElem? (i := 714) (by decide +kernel), List.mem_of_getElem? (i := 1131) (by decide +kernel), List.mem_of_getElem? (i := 1132) (by decide +kernel)⟩
theorem lw_p67 : lw_okq (⟨"FlossRumoursModel", "textsThere", "()I"⟩, 25) := ⟨⟨by decide +kernel, by decide +kernel⟩, List.mem_of_getElem? (i := 714) (by decide +kernel), List.mem_of_getElem? (i := 1135) (by decide +kernel), List.mem_of_getElem? (i := 1136) (by decide +kernel)⟩
theorem lw_p68 : lw_okq (⟨"FlossRumoursModel", "frontsThere", "()I"⟩, 25) := ⟨⟨by decide +kernel, by decide +kernel⟩, List.mem_of_getElem? (i := 714) (by decide +kernel), List.mem_of_getElem? (i := 1139) (by decide +kernel), List.mem_of_getElem? (i := 1140) (by decide +kernel)⟩
def lw_privs_5 : List (MethodName × Nat) := [(⟨"FlossRumoursModel", "deedBy", "(II)V"⟩, 25), (⟨"FlossRumoursModel", "manyOf", "(I)I"⟩, 25), (⟨"FlossRumoursModel", "rowsThere", "()I"⟩, 25), (⟨"FlossRumoursModel", "textsThere", "()I"⟩, 25), (⟨"FlossRumoursModel", "frontsThere", "()I"⟩, 25)]
theorem lw_r5 : ∀ q ∈ lw_privs_5, lw_okq q := List.forall_mem_cons.mpr ⟨lw_p64, List.forall_mem_cons.mpr ⟨lw_p65, List.forall_mem_cons.mpr ⟨lw_p66, List.forall_mem_cons.mpr ⟨lw_p67, List.forall_mem_cons.mpr ⟨lw_p68, fun _ h => absurd h List.not_mem_nil⟩⟩⟩⟩⟩
def lw_privs : List (MethodName × Nat) := lw_privs_1 ++ (lw_privs_2 ++ (lw_privs_3 ++ (lw_privs_4 ++ (lw_privs_5))))
def lw_tbl : List Cond := k2_sels lw_privs ++ tables_1
theorem lw_privs_ok : ∀ q ∈ lw_privs, lw_okq q := by
  show ∀ q ∈ lw_privs_1 ++ (lw_privs_2 ++ (lw_privs_3 ++ (lw_privs_4 ++ (lw_privs_5)))), lw_okq q
  exact List.forall_mem_append.mpr ⟨lw_r1, List.forall_mem_append.mpr ⟨lw_r2, List.forall_mem_append.mpr ⟨lw_r3, List.forall_mem_append.mpr ⟨lw_r4, lw_r5⟩⟩⟩⟩
end
section
def RX0 : String := "FlossRumours$Bag"
def TX0 : u_T := fun k => match k with
  | _ => ("", "", "", false)
def tyX0 : Nat → FieldType := fun k => match k with
  | _ => .int
abbrev wsX00 : List Cond := u_ws RX0 TX0 0
theorem nmX0 : ∀ a, a < 0 → ∀ b, b < 0 → a ≠ b → (TX0 a).2.1 ≠ (TX0 b).2.1 := by decide +kernel
theorem tyX0_ok : ∀ k, k < 0 → parseFieldDescriptor (TX0 k).2.2.1 = some (tyX0 k) := by decide +kernel
abbrev cX0_init : ByteArray := prog_2_method_1_code
def yX0_init : MethodName := ⟨RX0, "<init>", "()V"⟩
abbrev cX0_partOf : ByteArray := prog_2_method_2_code
def yX0_partOf : MethodName := ⟨RX0, "partOf", "(I)I"⟩
def RX1 : String := "FlossRumours$Beard"
def TX1 : u_T := fun k => match k with
  | _ => ("", "", "", false)
def tyX1 : Nat → FieldType := fun k => match k with
  | _ => .int
abbrev wsX10 : List Cond := u_ws RX1 TX1 0
theorem nmX1 : ∀ a, a < 0 → ∀ b, b < 0 → a ≠ b → (TX1 a).2.1 ≠ (TX1 b).2.1 := by decide +kernel
theorem tyX1_ok : ∀ k, k < 0 → parseFieldDescriptor (TX1 k).2.2.1 = some (tyX1 k) := by decide +kernel
abbrev cX1_init : ByteArray := prog_3_method_1_code
def yX1_init : MethodName := ⟨RX1, "<init>", "()V"⟩
abbrev cX1_leftByRain : ByteArray := prog_3_method_2_code
def yX1_leftByRain : MethodName := ⟨RX1, "leftByRain", "(I)I"⟩
def RX2 : String := "FlossRumours$Bishop"
def TX2 : u_T := fun k => match k with
  | _ => ("", "", "", false)
def tyX2 : Nat → FieldType := fun k => match k with
  | _ => .int
abbrev wsX20 : List Cond := u_ws RX2 TX2 0
theorem nmX2 : ∀ a, a < 0 → ∀ b, b < 0 → a ≠ b → (TX2 a).2.1 ≠ (TX2 b).2.1 := by decide +kernel
theorem tyX2_ok : ∀ k, k < 0 → parseFieldDescriptor (TX2 k).2.2.1 = some (tyX2 k) := by decide +kernel
abbrev cX2_init : ByteArray := prog_4_method_1_code
def yX2_init : MethodName := ⟨RX2, "<init>", "()V"⟩
abbrev cX2_breath : ByteArray := prog_4_method_2_code
def yX2_breath : MethodName := ⟨RX2, "breath", "()I"⟩
def RX3 : String := "FlossRumours$Deeds"
def TX3 : u_T := fun k => match k with
  | 0 => ("FlossRumours$Deeds", "deed", "[I", true)
  | _ => ("FlossRumours$Deeds", "size", "I", false)
def tyX3 : Nat → FieldType := fun k => match k with
  | 0 => .array .int
  | _ => .int
abbrev wsX30 : List Cond := u_ws RX3 TX3 2
theorem nmX3 : ∀ a, a < 2 → ∀ b, b < 2 → a ≠ b → (TX3 a).2.1 ≠ (TX3 b).2.1 := by decide +kernel
theorem tyX3_ok : ∀ k, k < 2 → parseFieldDescriptor (TX3 k).2.2.1 = some (tyX3 k) := by decide +kernel
abbrev cX3_init : ByteArray := prog_5_method_1_code
def yX3_init : MethodName := ⟨RX3, "<init>", "(I)V"⟩
abbrev cX3_isFull : ByteArray := prog_5_method_2_code
def yX3_isFull : MethodName := ⟨RX3, "isFull", "()Z"⟩
abbrev cX3_add : ByteArray := prog_5_method_3_code
def yX3_add : MethodName := ⟨RX3, "add", "(I)V"⟩
abbrev cX3_become : ByteArray := prog_5_method_4_code
def yX3_become : MethodName := ⟨RX3, "become", "(LFlossRumours$Deeds;)V"⟩
def RX4 : String := "FlossRumours$Front"
def TX4 : u_T := fun k => match k with
  | 0 => ("FlossRumours$Front", "kinds", "LFlossRumours$Kinds;", true)
  | 1 => ("FlossRumours$Front", "kind", "[I", true)
  | 2 => ("FlossRumours$Front", "place", "[I", true)
  | 3 => ("FlossRumours$Front", "has", "[I", true)
  | 4 => ("FlossRumours$Front", "drum", "I", false)
  | 5 => ("FlossRumours$Front", "growth", "I", false)
  | 6 => ("FlossRumours$Front", "people", "I", false)
  | 7 => ("FlossRumours$Front", "cloud", "I", false)
  | 8 => ("FlossRumours$Front", "where", "I", false)
  | 9 => ("FlossRumours$Front", "wind", "I", false)
  | 10 => ("FlossRumours$Front", "rain", "I", false)
  | _ => ("FlossRumours$Front", "turns", "I", false)
def tyX4 : Nat → FieldType := fun k => match k with
  | 0 => .object "FlossRumours$Kinds"
  | 1 => .array .int
  | 2 => .array .int
  | 3 => .array .int
  | 4 => .int
  | 5 => .int
  | 6 => .int
  | 7 => .int
  | 8 => .int
  | 9 => .int
  | 10 => .int
  | _ => .int
abbrev wsX40 : List Cond := u_ws RX4 TX4 12
theorem nmX4 : ∀ a, a < 12 → ∀ b, b < 12 → a ≠ b → (TX4 a).2.1 ≠ (TX4 b).2.1 := by decide +kernel
theorem tyX4_ok : ∀ k, k < 12 → parseFieldDescriptor (TX4 k).2.2.1 = some (tyX4 k) := by decide +kernel
abbrev cX4_init : ByteArray := prog_6_method_1_code
def yX4_init : MethodName := ⟨RX4, "<init>", "(LFlossRumours$Kinds;)V"⟩
abbrev cX4_become : ByteArray := prog_6_method_2_code
def yX4_become : MethodName := ⟨RX4, "become", "(LFlossRumours$Front;)V"⟩
abbrev cX4_begin : ByteArray := prog_6_method_3_code
def yX4_begin : MethodName := ⟨RX4, "begin", "(II)V"⟩
abbrev cX4_join : ByteArray := prog_6_method_4_code
def yX4_join : MethodName := ⟨RX4, "join", "(III)V"⟩
abbrev cX4_isOne : ByteArray := prog_6_method_5_code
def yX4_isOne : MethodName := ⟨RX4, "isOne", "(I)Z"⟩
abbrev cX4_personOf : ByteArray := prog_6_method_6_code
def yX4_personOf : MethodName := ⟨RX4, "personOf", "(I)LFlossRumours$Person;"⟩
abbrev cX4_partFor : ByteArray := prog_6_method_7_code
def yX4_partFor : MethodName := ⟨RX4, "partFor", "(II)I"⟩
abbrev cX4_farFromCloud : ByteArray := prog_6_method_8_code
def yX4_farFromCloud : MethodName := ⟨RX4, "farFromCloud", "(I)I"⟩
abbrev cX4_inAll : ByteArray := prog_6_method_9_code
def yX4_inAll : MethodName := ⟨RX4, "inAll", "()I"⟩
abbrev cX4_inSet : ByteArray := prog_6_method_10_code
def yX4_inSet : MethodName := ⟨RX4, "inSet", "(I)I"⟩
abbrev cX4_putIn : ByteArray := prog_6_method_11_code
def yX4_putIn : MethodName := ⟨RX4, "putIn", "(I)V"⟩
abbrev cX4_beOfSize : ByteArray := prog_6_method_12_code
def yX4_beOfSize : MethodName := ⟨RX4, "beOfSize", "(I)V"⟩
abbrev cX4_pass : ByteArray := prog_6_method_13_code
def yX4_pass : MethodName := ⟨RX4, "pass", "(I)I"⟩
abbrev cX4_passAll : ByteArray := prog_6_method_14_code
def yX4_passAll : MethodName := ⟨RX4, "passAll", "(I)V"⟩
abbrev cX4_drift : ByteArray := prog_6_method_15_code
def yX4_drift : MethodName := ⟨RX4, "drift", "()V"⟩
abbrev cX4_gatherFor : ByteArray := prog_6_method_16_code
def yX4_gatherFor : MethodName := ⟨RX4, "gatherFor", "(I)Z"⟩
abbrev cX4_loseInRain : ByteArray := prog_6_method_17_code
def yX4_loseInRain : MethodName := ⟨RX4, "loseInRain", "()V"⟩
abbrev cX4_undergo : ByteArray := prog_6_method_18_code
def yX4_undergo : MethodName := ⟨RX4, "undergo", "(I)I"⟩
abbrev cX4_moveTo : ByteArray := prog_6_method_19_code
def yX4_moveTo : MethodName := ⟨RX4, "moveTo", "(II)V"⟩
def RX5 : String := "FlossRumours$Girl"
def TX5 : u_T := fun k => match k with
  | _ => ("", "", "", false)
def tyX5 : Nat → FieldType := fun k => match k with
  | _ => .int
abbrev wsX50 : List Cond := u_ws RX5 TX5 0
theorem nmX5 : ∀ a, a < 0 → ∀ b, b < 0 → a ≠ b → (TX5 a).2.1 ≠ (TX5 b).2.1 := by decide +kernel
theorem tyX5_ok : ∀ k, k < 0 → parseFieldDescriptor (TX5 k).2.2.1 = some (tyX5 k) := by decide +kernel
abbrev cX5_init : ByteArray := prog_7_method_1_code
def yX5_init : MethodName := ⟨RX5, "<init>", "()V"⟩
abbrev cX5_partOf : ByteArray := prog_7_method_2_code
def yX5_partOf : MethodName := ⟨RX5, "partOf", "(I)I"⟩
def RX6 : String := "FlossRumours$Kinds"
def TX6 : u_T := fun k => match k with
  | 0 => ("FlossRumours$Kinds", "person", "LFlossRumours$Person;", true)
  | 1 => ("FlossRumours$Kinds", "beard", "LFlossRumours$Beard;", true)
  | 2 => ("FlossRumours$Kinds", "bag", "LFlossRumours$Bag;", true)
  | 3 => ("FlossRumours$Kinds", "wasp", "LFlossRumours$Wasp;", true)
  | 4 => ("FlossRumours$Kinds", "bishop", "LFlossRumours$Bishop;", true)
  | _ => ("FlossRumours$Kinds", "girl", "LFlossRumours$Girl;", true)
def tyX6 : Nat → FieldType := fun k => match k with
  | 0 => .object "FlossRumours$Person"
  | 1 => .object "FlossRumours$Beard"
  | 2 => .object "FlossRumours$Bag"
  | 3 => .object "FlossRumours$Wasp"
  | 4 => .object "FlossRumours$Bishop"
  | _ => .object "FlossRumours$Girl"
abbrev wsX60 : List Cond := u_ws RX6 TX6 6
theorem nmX6 : ∀ a, a < 6 → ∀ b, b < 6 → a ≠ b → (TX6 a).2.1 ≠ (TX6 b).2.1 := by decide +kernel
theorem tyX6_ok : ∀ k, k < 6 → parseFieldDescriptor (TX6 k).2.2.1 = some (tyX6 k) := by decide +kernel
abbrev cX6_init : ByteArray := prog_8_method_1_code
def yX6_init : MethodName := ⟨RX6, "<init>", "()V"⟩
abbrev cX6_ofNumber : ByteArray := prog_8_method_2_code
def yX6_ofNumber : MethodName := ⟨RX6, "ofNumber", "(I)LFlossRumours$Person;"⟩
def RX7 : String := "FlossRumours$Person"
def TX7 : u_T := fun k => match k with
  | _ => ("", "", "", false)
def tyX7 : Nat → FieldType := fun k => match k with
  | _ => .int
abbrev wsX70 : List Cond := u_ws RX7 TX7 0
theorem nmX7 : ∀ a, a < 0 → ∀ b, b < 0 → a ≠ b → (TX7 a).2.1 ≠ (TX7 b).2.1 := by decide +kernel
theorem tyX7_ok : ∀ k, k < 0 → parseFieldDescriptor (TX7 k).2.2.1 = some (tyX7 k) := by decide +kernel
abbrev cX7_init : ByteArray := prog_9_method_1_code
def yX7_init : MethodName := ⟨RX7, "<init>", "()V"⟩
abbrev cX7_partOf : ByteArray := prog_9_method_2_code
def yX7_partOf : MethodName := ⟨RX7, "partOf", "(I)I"⟩
abbrev cX7_leftByRain : ByteArray := prog_9_method_3_code
def yX7_leftByRain : MethodName := ⟨RX7, "leftByRain", "(I)I"⟩
abbrev cX7_breath : ByteArray := prog_9_method_4_code
def yX7_breath : MethodName := ⟨RX7, "breath", "()I"⟩
def RX8 : String := "FlossRumours$Wasp"
def TX8 : u_T := fun k => match k with
  | _ => ("", "", "", false)
def tyX8 : Nat → FieldType := fun k => match k with
  | _ => .int
abbrev wsX80 : List Cond := u_ws RX8 TX8 0
theorem nmX8 : ∀ a, a < 0 → ∀ b, b < 0 → a ≠ b → (TX8 a).2.1 ≠ (TX8 b).2.1 := by decide +kernel
theorem tyX8_ok : ∀ k, k < 0 → parseFieldDescriptor (TX8 k).2.2.1 = some (tyX8 k) := by decide +kernel
abbrev cX8_init : ByteArray := prog_10_method_1_code
def yX8_init : MethodName := ⟨RX8, "<init>", "()V"⟩
abbrev cX8_partOf : ByteArray := prog_10_method_2_code
def yX8_partOf : MethodName := ⟨RX8, "partOf", "(I)I"⟩
def RX9 : String := "FlossRumours"
def TX9 : u_T := fun k => match k with
  | 0 => ("FlossRumours", "rows", "[[I", true)
  | 1 => ("FlossRumours", "rowSize", "[I", true)
  | 2 => ("FlossRumours", "texts", "[[B", true)
  | 3 => ("FlossRumours", "textSize", "[I", true)
  | 4 => ("FlossRumours", "start", "LFlossRumours$Front;", true)
  | 5 => ("FlossRumours", "now", "LFlossRumours$Front;", true)
  | 6 => ("FlossRumours", "aside", "LFlossRumours$Front;", true)
  | 7 => ("FlossRumours", "deeds", "LFlossRumours$Deeds;", true)
  | 8 => ("FlossRumours", "kept", "[LFlossRumours$Deeds;", true)
  | 9 => ("FlossRumours", "tally", "[[I", true)
  | 10 => ("FlossRumours", "foundOften", "[I", true)
  | 11 => ("FlossRumours", "found", "I", false)
  | 12 => ("FlossRumours", "told", "I", false)
  | 13 => ("FlossRumours", "above", "J", false)
  | _ => ("FlossRumours", "below", "J", false)
def tyX9 : Nat → FieldType := fun k => match k with
  | 0 => .array (.array .int)
  | 1 => .array .int
  | 2 => .array (.array .byte)
  | 3 => .array .int
  | 4 => .object "FlossRumours$Front"
  | 5 => .object "FlossRumours$Front"
  | 6 => .object "FlossRumours$Front"
  | 7 => .object "FlossRumours$Deeds"
  | 8 => .array (.object "FlossRumours$Deeds")
  | 9 => .array (.array .int)
  | 10 => .array .int
  | 11 => .int
  | 12 => .int
  | 13 => .long
  | _ => .long
abbrev wsX90 : List Cond := u_ws RX9 TX9 15
theorem nmX9 : ∀ a, a < 15 → ∀ b, b < 15 → a ≠ b → (TX9 a).2.1 ≠ (TX9 b).2.1 := by decide +kernel
theorem tyX9_ok : ∀ k, k < 15 → parseFieldDescriptor (TX9 k).2.2.1 = some (tyX9 k) := by decide +kernel
abbrev cX9_init : ByteArray := prog_1_method_1_code
def yX9_init : MethodName := ⟨RX9, "<init>", "()V"⟩
abbrev cX9_row : ByteArray := prog_1_method_2_code
def yX9_row : MethodName := ⟨RX9, "row", "(II)I"⟩
abbrev cX9_lay : ByteArray := prog_1_method_3_code
def yX9_lay : MethodName := ⟨RX9, "lay", "(III)I"⟩
abbrev cX9_at : ByteArray := prog_1_method_4_code
def yX9_at : MethodName := ⟨RX9, "at", "(II)I"⟩
abbrev cX9_tear : ByteArray := prog_1_method_5_code
def yX9_tear : MethodName := ⟨RX9, "tear", "(I)I"⟩
abbrev cX9_copy : ByteArray := prog_1_method_6_code
def yX9_copy : MethodName := ⟨RX9, "copy", "(IIIII)I"⟩
abbrev cX9_mean : ByteArray := prog_1_method_7_code
def yX9_mean : MethodName := ⟨RX9, "mean", "(I)I"⟩
abbrev cX9_text : ByteArray := prog_1_method_8_code
def yX9_text : MethodName := ⟨RX9, "text", "(II)I"⟩
abbrev cX9_put : ByteArray := prog_1_method_9_code
def yX9_put : MethodName := ⟨RX9, "put", "(III)I"⟩
abbrev cX9_fault : ByteArray := prog_1_method_10_code
def yX9_fault : MethodName := ⟨RX9, "fault", "(I)I"⟩
abbrev cX9_front : ByteArray := prog_1_method_11_code
def yX9_front : MethodName := ⟨RX9, "front", "(I)I"⟩
abbrev cX9_one : ByteArray := prog_1_method_12_code
def yX9_one : MethodName := ⟨RX9, "one", "(II)I"⟩
abbrev cX9_mark : ByteArray := prog_1_method_13_code
def yX9_mark : MethodName := ⟨RX9, "mark", "(II)I"⟩
abbrev cX9_turn : ByteArray := prog_1_method_14_code
def yX9_turn : MethodName := ⟨RX9, "turn", "()I"⟩
abbrev cX9_spoon : ByteArray := prog_1_method_15_code
def yX9_spoon : MethodName := ⟨RX9, "spoon", "(I)I"⟩
abbrev cX9_wind : ByteArray := prog_1_method_16_code
def yX9_wind : MethodName := ⟨RX9, "wind", "(I)I"⟩
abbrev cX9_rain : ByteArray := prog_1_method_17_code
def yX9_rain : MethodName := ⟨RX9, "rain", "(I)I"⟩
abbrev cX9_stand : ByteArray := prog_1_method_18_code
def yX9_stand : MethodName := ⟨RX9, "stand", "(II)I"⟩
abbrev cX9_undo : ByteArray := prog_1_method_19_code
def yX9_undo : MethodName := ⟨RX9, "undo", "(I)I"⟩
abbrev cX9_keep : ByteArray := prog_1_method_20_code
def yX9_keep : MethodName := ⟨RX9, "keep", "(I)I"⟩
abbrev cX9_on : ByteArray := prog_1_method_21_code
def yX9_on : MethodName := ⟨RX9, "on", "(I)I"⟩
abbrev cX9_gathers : ByteArray := prog_1_method_22_code
def yX9_gathers : MethodName := ⟨RX9, "gathers", "(II)I"⟩
abbrev cX9_cloud : ByteArray := prog_1_method_23_code
def yX9_cloud : MethodName := ⟨RX9, "cloud", "(I)I"⟩
abbrev cX9_share : ByteArray := prog_1_method_24_code
def yX9_share : MethodName := ⟨RX9, "share", "(II)I"⟩
abbrev cX9_first : ByteArray := prog_1_method_25_code
def yX9_first : MethodName := ⟨RX9, "first", "(I)I"⟩
abbrev cX9_away : ByteArray := prog_1_method_26_code
def yX9_away : MethodName := ⟨RX9, "away", "(III)I"⟩
abbrev cX9_best : ByteArray := prog_1_method_27_code
def yX9_best : MethodName := ⟨RX9, "best", "(II)I"⟩
abbrev cX9_least : ByteArray := prog_1_method_28_code
def yX9_least : MethodName := ⟨RX9, "least", "(II)I"⟩
abbrev cX9_sizes : ByteArray := prog_1_method_29_code
def yX9_sizes : MethodName := ⟨RX9, "sizes", "(II)I"⟩
abbrev cX9_winds : ByteArray := prog_1_method_30_code
def yX9_winds : MethodName := ⟨RX9, "winds", "(II)I"⟩
abbrev cX9_kinds : ByteArray := prog_1_method_31_code
def yX9_kinds : MethodName := ⟨RX9, "kinds", "(II)I"⟩
abbrev cX9_next : ByteArray := prog_1_method_32_code
def yX9_next : MethodName := ⟨RX9, "next", "(II)I"⟩
abbrev cX9_sets : ByteArray := prog_1_method_33_code
def yX9_sets : MethodName := ⟨RX9, "sets", "(I)I"⟩
abbrev cX9_sure : ByteArray := prog_1_method_34_code
def yX9_sure : MethodName := ⟨RX9, "sure", "(I)I"⟩
abbrev cX9_duel : ByteArray := prog_1_method_35_code
def yX9_duel : MethodName := ⟨RX9, "duel", "(III)I"⟩
abbrev cX9_odds : ByteArray := prog_1_method_36_code
def yX9_odds : MethodName := ⟨RX9, "odds", "(II)I"⟩
abbrev cX9_mid : ByteArray := prog_1_method_37_code
def yX9_mid : MethodName := ⟨RX9, "mid", "(I)I"⟩
abbrev cX9_lots : ByteArray := prog_1_method_38_code
def yX9_lots : MethodName := ⟨RX9, "lots", "(II)I"⟩
abbrev cX9_asked : ByteArray := prog_1_method_39_code
def yX9_asked : MethodName := ⟨RX9, "asked", "()I"⟩
abbrev cX9_upper : ByteArray := prog_1_method_40_code
def yX9_upper : MethodName := ⟨RX9, "upper", "()J"⟩
abbrev cX9_lower : ByteArray := prog_1_method_41_code
def yX9_lower : MethodName := ⟨RX9, "lower", "()J"⟩
abbrev cX9_count : ByteArray := prog_1_method_42_code
def yX9_count : MethodName := ⟨RX9, "count", "(I)I"⟩
abbrev cX9_finding : ByteArray := prog_1_method_43_code
def yX9_finding : MethodName := ⟨RX9, "finding", "()I"⟩
abbrev cX9_findings : ByteArray := prog_1_method_44_code
def yX9_findings : MethodName := ⟨RX9, "findings", "(I)I"⟩
abbrev cX9_digest : ByteArray := prog_1_method_45_code
def yX9_digest : MethodName := ⟨RX9, "digest", "()J"⟩
abbrev cX9_answerFinding : ByteArray := prog_1_method_46_code
def yX9_answerFinding : MethodName := ⟨RX9, "answerFinding", "(I)I"⟩
abbrev cX9_isRow : ByteArray := prog_1_method_47_code
def yX9_isRow : MethodName := ⟨RX9, "isRow", "(I)Z"⟩
abbrev cX9_isText : ByteArray := prog_1_method_48_code
def yX9_isText : MethodName := ⟨RX9, "isText", "(I)Z"⟩
abbrev cX9_isKeepingPlace : ByteArray := prog_1_method_49_code
def yX9_isKeepingPlace : MethodName := ⟨RX9, "isKeepingPlace", "(I)Z"⟩
abbrev cX9_isPlan : ByteArray := prog_1_method_50_code
def yX9_isPlan : MethodName := ⟨RX9, "isPlan", "(I)Z"⟩
abbrev cX9_hasPlaces : ByteArray := prog_1_method_51_code
def yX9_hasPlaces : MethodName := ⟨RX9, "hasPlaces", "(III)Z"⟩
abbrev cX9_refusedRow : ByteArray := prog_1_method_52_code
def yX9_refusedRow : MethodName := ⟨RX9, "refusedRow", "(I)I"⟩
abbrev cX9_refusedPlace : ByteArray := prog_1_method_53_code
def yX9_refusedPlace : MethodName := ⟨RX9, "refusedPlace", "(II)I"⟩
abbrev cX9_refusedText : ByteArray := prog_1_method_54_code
def yX9_refusedText : MethodName := ⟨RX9, "refusedText", "(I)I"⟩
abbrev cX9_refusedHad : ByteArray := prog_1_method_55_code
def yX9_refusedHad : MethodName := ⟨RX9, "refusedHad", "(II)I"⟩
abbrev cX9_readFront : ByteArray := prog_1_method_56_code
def yX9_readFront : MethodName := ⟨RX9, "readFront", "(I)I"⟩
abbrev cX9_readOne : ByteArray := prog_1_method_57_code
def yX9_readOne : MethodName := ⟨RX9, "readOne", "([BII)I"⟩
abbrev cX9_pastBlanks : ByteArray := prog_1_method_58_code
def yX9_pastBlanks : MethodName := ⟨RX9, "pastBlanks", "([BII)I"⟩
abbrev cX9_pastFigures : ByteArray := prog_1_method_59_code
def yX9_pastFigures : MethodName := ⟨RX9, "pastFigures", "([BIII)I"⟩
abbrev cX9_figure : ByteArray := prog_1_method_60_code
def yX9_figure : MethodName := ⟨RX9, "figure", "(B)I"⟩
abbrev cX9_kindOfLetter : ByteArray := prog_1_method_61_code
def yX9_kindOfLetter : MethodName := ⟨RX9, "kindOfLetter", "(B)I"⟩
abbrev cX9_doDeed : ByteArray := prog_1_method_62_code
def yX9_doDeed : MethodName := ⟨RX9, "doDeed", "(II)I"⟩
abbrev cX9_doAllAgain : ByteArray := prog_1_method_63_code
def yX9_doAllAgain : MethodName := ⟨RX9, "doAllAgain", "()V"⟩
abbrev cX9_doLot : ByteArray := prog_1_method_64_code
def yX9_doLot : MethodName := ⟨RX9, "doLot", "(I)V"⟩
abbrev cX9_oneOfLot : ByteArray := prog_1_method_65_code
def yX9_oneOfLot : MethodName := ⟨RX9, "oneOfLot", "(I)I"⟩
abbrev cX9_shareWithout : ByteArray := prog_1_method_66_code
def yX9_shareWithout : MethodName := ⟨RX9, "shareWithout", "(III)I"⟩
abbrev cX9_gatherersBy : ByteArray := prog_1_method_67_code
def yX9_gatherersBy : MethodName := ⟨RX9, "gatherersBy", "(II)I"⟩
abbrev cX9_asideFits : ByteArray := prog_1_method_68_code
def yX9_asideFits : MethodName := ⟨RX9, "asideFits", "(II)Z"⟩
abbrev cX9_fittingSizes : ByteArray := prog_1_method_69_code
def yX9_fittingSizes : MethodName := ⟨RX9, "fittingSizes", "(II)I"⟩
abbrev cX9_tallyShares : ByteArray := prog_1_method_70_code
def yX9_tallyShares : MethodName := ⟨RX9, "tallyShares", "(II)V"⟩
abbrev cX9_greatestOf : ByteArray := prog_1_method_71_code
def yX9_greatestOf : MethodName := ⟨RX9, "greatestOf", "([I)I"⟩
abbrev cX9_firstGoes : ByteArray := prog_1_method_72_code
def yX9_firstGoes : MethodName := ⟨RX9, "firstGoes", "(IIIII)I"⟩
abbrev cX9_secondGoes : ByteArray := prog_1_method_73_code
def yX9_secondGoes : MethodName := ⟨RX9, "secondGoes", "(IIIII)I"⟩
abbrev cX9_duelEnd : ByteArray := prog_1_method_74_code
def yX9_duelEnd : MethodName := ⟨RX9, "duelEnd", "(IIII)I"⟩
abbrev cX9_weightOf : ByteArray := prog_1_method_75_code
def yX9_weightOf : MethodName := ⟨RX9, "weightOf", "(II)J"⟩
abbrev cX9_power : ByteArray := prog_1_method_76_code
def yX9_power : MethodName := ⟨RX9, "power", "(JI)J"⟩
abbrev cX9_tellParts : ByteArray := prog_1_method_77_code
def yX9_tellParts : MethodName := ⟨RX9, "tellParts", "(JJ)V"⟩
abbrev cX9_commonDivisor : ByteArray := prog_1_method_78_code
def yX9_commonDivisor : MethodName := ⟨RX9, "commonDivisor", "(JJ)J"⟩
abbrev cX9_valueOfOne : ByteArray := prog_1_method_79_code
def yX9_valueOfOne : MethodName := ⟨RX9, "valueOfOne", "(II)I"⟩
abbrev cX9_leastCloudAlike : ByteArray := prog_1_method_80_code
def yX9_leastCloudAlike : MethodName := ⟨RX9, "leastCloudAlike", "(LFlossRumours$Person;)I"⟩
abbrev cX9_beards : ByteArray := prog_1_method_81_code
def yX9_beards : MethodName := ⟨RX9, "beards", "()I"⟩
abbrev cX9_wasps : ByteArray := prog_1_method_82_code
def yX9_wasps : MethodName := ⟨RX9, "wasps", "()I"⟩
abbrev cX9_howManyThere : ByteArray := prog_1_method_83_code
def yX9_howManyThere : MethodName := ⟨RX9, "howManyThere", "([I)I"⟩
abbrev cX9_howManyKept : ByteArray := prog_1_method_84_code
def yX9_howManyKept : MethodName := ⟨RX9, "howManyKept", "()I"⟩
def RX10 : String := "FlossRumoursModel"
def TX10 : u_T := fun k => match k with
  | 0 => ("FlossRumoursModel", "w", "[I", true)
  | 1 => ("FlossRumoursModel", "kind", "[I", true)
  | 2 => ("FlossRumoursModel", "people", "I", false)
  | 3 => ("FlossRumoursModel", "drum", "I", false)
  | 4 => ("FlossRumoursModel", "growth", "I", false)
  | 5 => ("FlossRumoursModel", "deeds", "I", false)
  | 6 => ("FlossRumoursModel", "keptDeeds", "[I", true)
  | 7 => ("FlossRumoursModel", "cells", "[I", true)
  | 8 => ("FlossRumoursModel", "size", "[I", true)
  | 9 => ("FlossRumoursModel", "letters", "[I", true)
  | 10 => ("FlossRumoursModel", "length", "[I", true)
  | 11 => ("FlossRumoursModel", "found", "[I", true)
  | 12 => ("FlossRumoursModel", "finding", "I", false)
  | 13 => ("FlossRumoursModel", "asked", "I", false)
  | 14 => ("FlossRumoursModel", "upper", "J", false)
  | 15 => ("FlossRumoursModel", "lower", "J", false)
  | 16 => ("FlossRumoursModel", "at", "I", false)
  | 17 => ("FlossRumoursModel", "newDrum", "I", false)
  | 18 => ("FlossRumoursModel", "newGrowth", "I", false)
  | 19 => ("FlossRumoursModel", "newPeople", "I", false)
  | 20 => ("FlossRumoursModel", "newKind", "[I", true)
  | 21 => ("FlossRumoursModel", "newPlace", "[I", true)
  | 22 => ("FlossRumoursModel", "newHas", "[I", true)
  | 23 => ("FlossRumoursModel", "parts", "[I", true)
  | _ => ("FlossRumoursModel", "worth", "[I", true)
def tyX10 : Nat → FieldType := fun k => match k with
  | 0 => .array .int
  | 1 => .array .int
  | 2 => .int
  | 3 => .int
  | 4 => .int
  | 5 => .int
  | 6 => .array .int
  | 7 => .array .int
  | 8 => .array .int
  | 9 => .array .int
  | 10 => .array .int
  | 11 => .array .int
  | 12 => .int
  | 13 => .int
  | 14 => .long
  | 15 => .long
  | 16 => .int
  | 17 => .int
  | 18 => .int
  | 19 => .int
  | 20 => .array .int
  | 21 => .array .int
  | 22 => .array .int
  | 23 => .array .int
  | _ => .array .int
abbrev wsX100 : List Cond := u_ws RX10 TX10 25
theorem nmX10 : ∀ a, a < 25 → ∀ b, b < 25 → a ≠ b → (TX10 a).2.1 ≠ (TX10 b).2.1 := by decide +kernel
theorem tyX10_ok : ∀ k, k < 25 → parseFieldDescriptor (TX10 k).2.2.1 = some (tyX10 k) := by decide +kernel
abbrev cX10_init : ByteArray := prog_12_method_1_code
def yX10_init : MethodName := ⟨RX10, "<init>", "()V"⟩
abbrev cX10_in : ByteArray := prog_12_method_3_code
def yX10_in : MethodName := ⟨RX10, "in", "(III)Z"⟩
abbrev cX10_has : ByteArray := prog_12_method_4_code
def yX10_has : MethodName := ⟨RX10, "has", "(II)Z"⟩
abbrev cX10_find : ByteArray := prog_12_method_5_code
def yX10_find : MethodName := ⟨RX10, "find", "(I)I"⟩
abbrev cX10_tell : ByteArray := prog_12_method_6_code
def yX10_tell : MethodName := ⟨RX10, "tell", "(I)I"⟩
abbrev cX10_forgetKept : ByteArray := prog_12_method_7_code
def yX10_forgetKept : MethodName := ⟨RX10, "forgetKept", "()V"⟩
abbrev cX10_isRow : ByteArray := prog_12_method_8_code
def yX10_isRow : MethodName := ⟨RX10, "isRow", "(I)Z"⟩
abbrev cX10_row : ByteArray := prog_12_method_9_code
def yX10_row : MethodName := ⟨RX10, "row", "(II)I"⟩
abbrev cX10_wrongPlace : ByteArray := prog_12_method_10_code
def yX10_wrongPlace : MethodName := ⟨RX10, "wrongPlace", "(II)I"⟩
abbrev cX10_lay : ByteArray := prog_12_method_11_code
def yX10_lay : MethodName := ⟨RX10, "lay", "(III)I"⟩
abbrev cX10_at : ByteArray := prog_12_method_12_code
def yX10_at : MethodName := ⟨RX10, "at", "(II)I"⟩
abbrev cX10_tear : ByteArray := prog_12_method_13_code
def yX10_tear : MethodName := ⟨RX10, "tear", "(I)I"⟩
abbrev cX10_copy : ByteArray := prog_12_method_14_code
def yX10_copy : MethodName := ⟨RX10, "copy", "(IIIII)I"⟩
abbrev cX10_mean : ByteArray := prog_12_method_15_code
def yX10_mean : MethodName := ⟨RX10, "mean", "(I)I"⟩
abbrev cX10_isText : ByteArray := prog_12_method_16_code
def yX10_isText : MethodName := ⟨RX10, "isText", "(I)Z"⟩
abbrev cX10_text : ByteArray := prog_12_method_17_code
def yX10_text : MethodName := ⟨RX10, "text", "(II)I"⟩
abbrev cX10_put : ByteArray := prog_12_method_18_code
def yX10_put : MethodName := ⟨RX10, "put", "(III)I"⟩
abbrev cX10_letterAt : ByteArray := prog_12_method_19_code
def yX10_letterAt : MethodName := ⟨RX10, "letterAt", "(II)I"⟩
abbrev cX10_isFigure : ByteArray := prog_12_method_20_code
def yX10_isFigure : MethodName := ⟨RX10, "isFigure", "(II)Z"⟩
abbrev cX10_figure : ByteArray := prog_12_method_21_code
def yX10_figure : MethodName := ⟨RX10, "figure", "(II)I"⟩
abbrev cX10_skipBlanks : ByteArray := prog_12_method_22_code
def yX10_skipBlanks : MethodName := ⟨RX10, "skipBlanks", "(I)V"⟩
abbrev cX10_kindOf : ByteArray := prog_12_method_23_code
def yX10_kindOf : MethodName := ⟨RX10, "kindOf", "(I)I"⟩
abbrev cX10_readOne : ByteArray := prog_12_method_24_code
def yX10_readOne : MethodName := ⟨RX10, "readOne", "(I)I"⟩
abbrev cX10_faultOf : ByteArray := prog_12_method_25_code
def yX10_faultOf : MethodName := ⟨RX10, "faultOf", "(I)I"⟩
abbrev cX10_fault : ByteArray := prog_12_method_26_code
def yX10_fault : MethodName := ⟨RX10, "fault", "(I)I"⟩
abbrev cX10_front : ByteArray := prog_12_method_27_code
def yX10_front : MethodName := ⟨RX10, "front", "(I)I"⟩
abbrev cX10_now : ByteArray := prog_12_method_28_code
def yX10_now : MethodName := ⟨RX10, "now", "()I"⟩
abbrev cX10_copyRow : ByteArray := prog_12_method_29_code
def yX10_copyRow : MethodName := ⟨RX10, "copyRow", "(II)V"⟩
abbrev cX10_lesser : ByteArray := prog_12_method_30_code
def yX10_lesser : MethodName := ⟨RX10, "lesser", "(II)I"⟩
abbrev cX10_gatheredBy : ByteArray := prog_12_method_31_code
def yX10_gatheredBy : MethodName := ⟨RX10, "gatheredBy", "(II)I"⟩
abbrev cX10_turnIn : ByteArray := prog_12_method_32_code
def yX10_turnIn : MethodName := ⟨RX10, "turnIn", "(IIII)I"⟩
abbrev cX10_plainTurn : ByteArray := prog_12_method_33_code
def yX10_plainTurn : MethodName := ⟨RX10, "plainTurn", "(I)I"⟩
abbrev cX10_isOne : ByteArray := prog_12_method_34_code
def yX10_isOne : MethodName := ⟨RX10, "isOne", "(I)Z"⟩
abbrev cX10_distance : ByteArray := prog_12_method_35_code
def yX10_distance : MethodName := ⟨RX10, "distance", "(I)I"⟩
abbrev cX10_ofOne : ByteArray := prog_12_method_36_code
def yX10_ofOne : MethodName := ⟨RX10, "ofOne", "(II)I"⟩
abbrev cX10_one : ByteArray := prog_12_method_37_code
def yX10_one : MethodName := ⟨RX10, "one", "(II)I"⟩
abbrev cX10_allHave : ByteArray := prog_12_method_38_code
def yX10_allHave : MethodName := ⟨RX10, "allHave", "(I)I"⟩
abbrev cX10_isOf : ByteArray := prog_12_method_39_code
def yX10_isOf : MethodName := ⟨RX10, "isOf", "(II)Z"⟩
abbrev cX10_leastAlike : ByteArray := prog_12_method_40_code
def yX10_leastAlike : MethodName := ⟨RX10, "leastAlike", "(I)I"⟩
abbrev cX10_mark : ByteArray := prog_12_method_41_code
def yX10_mark : MethodName := ⟨RX10, "mark", "(II)I"⟩
abbrev cX10_begin : ByteArray := prog_12_method_42_code
def yX10_begin : MethodName := ⟨RX10, "begin", "()I"⟩
abbrev cX10_turn : ByteArray := prog_12_method_43_code
def yX10_turn : MethodName := ⟨RX10, "turn", "()I"⟩
abbrev cX10_spoonIn : ByteArray := prog_12_method_44_code
def yX10_spoonIn : MethodName := ⟨RX10, "spoonIn", "(II)V"⟩
abbrev cX10_spoon : ByteArray := prog_12_method_45_code
def yX10_spoon : MethodName := ⟨RX10, "spoon", "(I)I"⟩
abbrev cX10_wind : ByteArray := prog_12_method_46_code
def yX10_wind : MethodName := ⟨RX10, "wind", "(I)I"⟩
abbrev cX10_rain : ByteArray := prog_12_method_47_code
def yX10_rain : MethodName := ⟨RX10, "rain", "(I)I"⟩
abbrev cX10_stand : ByteArray := prog_12_method_48_code
def yX10_stand : MethodName := ⟨RX10, "stand", "(II)I"⟩
abbrev cX10_undo : ByteArray := prog_12_method_49_code
def yX10_undo : MethodName := ⟨RX10, "undo", "(I)I"⟩
abbrev cX10_keep : ByteArray := prog_12_method_50_code
def yX10_keep : MethodName := ⟨RX10, "keep", "(I)I"⟩
abbrev cX10_on : ByteArray := prog_12_method_51_code
def yX10_on : MethodName := ⟨RX10, "on", "(I)I"⟩
abbrev cX10_gathers : ByteArray := prog_12_method_52_code
def yX10_gathers : MethodName := ⟨RX10, "gathers", "(II)I"⟩
abbrev cX10_goOn : ByteArray := prog_12_method_53_code
def yX10_goOn : MethodName := ⟨RX10, "goOn", "(II)V"⟩
abbrev cX10_cloud : ByteArray := prog_12_method_54_code
def yX10_cloud : MethodName := ⟨RX10, "cloud", "(I)I"⟩
abbrev cX10_share : ByteArray := prog_12_method_55_code
def yX10_share : MethodName := ⟨RX10, "share", "(II)I"⟩
abbrev cX10_first : ByteArray := prog_12_method_56_code
def yX10_first : MethodName := ⟨RX10, "first", "(I)I"⟩
abbrev cX10_bits : ByteArray := prog_12_method_57_code
def yX10_bits : MethodName := ⟨RX10, "bits", "(I)I"⟩
abbrev cX10_away : ByteArray := prog_12_method_58_code
def yX10_away : MethodName := ⟨RX10, "away", "(III)I"⟩
abbrev cX10_best : ByteArray := prog_12_method_59_code
def yX10_best : MethodName := ⟨RX10, "best", "(II)I"⟩
abbrev cX10_without : ByteArray := prog_12_method_60_code
def yX10_without : MethodName := ⟨RX10, "without", "(III)I"⟩
abbrev cX10_least : ByteArray := prog_12_method_61_code
def yX10_least : MethodName := ⟨RX10, "least", "(II)I"⟩
abbrev cX10_wrongRow : ByteArray := prog_12_method_62_code
def yX10_wrongRow : MethodName := ⟨RX10, "wrongRow", "(I)I"⟩
abbrev cX10_isSo : ByteArray := prog_12_method_63_code
def yX10_isSo : MethodName := ⟨RX10, "isSo", "(III)Z"⟩
abbrev cX10_laySize : ByteArray := prog_12_method_64_code
def yX10_laySize : MethodName := ⟨RX10, "laySize", "(I)V"⟩
abbrev cX10_sizesOf : ByteArray := prog_12_method_65_code
def yX10_sizesOf : MethodName := ⟨RX10, "sizesOf", "(II)I"⟩
abbrev cX10_sizes : ByteArray := prog_12_method_66_code
def yX10_sizes : MethodName := ⟨RX10, "sizes", "(II)I"⟩
abbrev cX10_winds : ByteArray := prog_12_method_67_code
def yX10_winds : MethodName := ⟨RX10, "winds", "(II)I"⟩
abbrev cX10_kinds : ByteArray := prog_12_method_68_code
def yX10_kinds : MethodName := ⟨RX10, "kinds", "(II)I"⟩
abbrev cX10_greatestPart : ByteArray := prog_12_method_69_code
def yX10_greatestPart : MethodName := ⟨RX10, "greatestPart", "(III)I"⟩
abbrev cX10_next : ByteArray := prog_12_method_70_code
def yX10_next : MethodName := ⟨RX10, "next", "(II)I"⟩
abbrev cX10_haveOf : ByteArray := prog_12_method_71_code
def yX10_haveOf : MethodName := ⟨RX10, "haveOf", "(I)I"⟩
abbrev cX10_sets : ByteArray := prog_12_method_72_code
def yX10_sets : MethodName := ⟨RX10, "sets", "(I)I"⟩
abbrev cX10_sure : ByteArray := prog_12_method_73_code
def yX10_sure : MethodName := ⟨RX10, "sure", "(I)I"⟩
abbrev cX10_endOf : ByteArray := prog_12_method_74_code
def yX10_endOf : MethodName := ⟨RX10, "endOf", "(IIII)I"⟩
abbrev cX10_duel : ByteArray := prog_12_method_75_code
def yX10_duel : MethodName := ⟨RX10, "duel", "(III)I"⟩
abbrev cX10_tellPart : ByteArray := prog_12_method_76_code
def yX10_tellPart : MethodName := ⟨RX10, "tellPart", "(JJ)V"⟩
abbrev cX10_weighed : ByteArray := prog_12_method_77_code
def yX10_weighed : MethodName := ⟨RX10, "weighed", "(II)J"⟩
abbrev cX10_twelves : ByteArray := prog_12_method_78_code
def yX10_twelves : MethodName := ⟨RX10, "twelves", "()J"⟩
abbrev cX10_odds : ByteArray := prog_12_method_79_code
def yX10_odds : MethodName := ⟨RX10, "odds", "(II)I"⟩
abbrev cX10_mid : ByteArray := prog_12_method_80_code
def yX10_mid : MethodName := ⟨RX10, "mid", "(I)I"⟩
abbrev cX10_deedBy : ByteArray := prog_12_method_81_code
def yX10_deedBy : MethodName := ⟨RX10, "deedBy", "(II)V"⟩
abbrev cX10_lots : ByteArray := prog_12_method_82_code
def yX10_lots : MethodName := ⟨RX10, "lots", "(II)I"⟩
abbrev cX10_asked : ByteArray := prog_12_method_83_code
def yX10_asked : MethodName := ⟨RX10, "asked", "()I"⟩
abbrev cX10_upper : ByteArray := prog_12_method_84_code
def yX10_upper : MethodName := ⟨RX10, "upper", "()J"⟩
abbrev cX10_lower : ByteArray := prog_12_method_85_code
def yX10_lower : MethodName := ⟨RX10, "lower", "()J"⟩
abbrev cX10_manyOf : ByteArray := prog_12_method_86_code
def yX10_manyOf : MethodName := ⟨RX10, "manyOf", "(I)I"⟩
abbrev cX10_rowsThere : ByteArray := prog_12_method_87_code
def yX10_rowsThere : MethodName := ⟨RX10, "rowsThere", "()I"⟩
abbrev cX10_textsThere : ByteArray := prog_12_method_88_code
def yX10_textsThere : MethodName := ⟨RX10, "textsThere", "()I"⟩
abbrev cX10_frontsThere : ByteArray := prog_12_method_89_code
def yX10_frontsThere : MethodName := ⟨RX10, "frontsThere", "()I"⟩
abbrev cX10_count : ByteArray := prog_12_method_90_code
def yX10_count : MethodName := ⟨RX10, "count", "(I)I"⟩
abbrev cX10_finding : ByteArray := prog_12_method_91_code
def yX10_finding : MethodName := ⟨RX10, "finding", "()I"⟩
abbrev cX10_findings : ByteArray := prog_12_method_92_code
def yX10_findings : MethodName := ⟨RX10, "findings", "(I)I"⟩
abbrev cX10_more : ByteArray := prog_12_method_93_code
def yX10_more : MethodName := ⟨RX10, "more", "(JI)J"⟩
abbrev cX10_digest : ByteArray := prog_12_method_94_code
def yX10_digest : MethodName := ⟨RX10, "digest", "()J"⟩
def RJ6 : String := "java/lang/Integer"
def TJ6 : u_T := fun k => match k with
  | _ => ("", "", "", false)
def tyJ6 : Nat → FieldType := fun k => match k with
  | _ => .int
abbrev wsJ60 : List Cond := u_ws RJ6 TJ6 0
theorem nmJ6 : ∀ a, a < 0 → ∀ b, b < 0 → a ≠ b → (TJ6 a).2.1 ≠ (TJ6 b).2.1 := by decide +kernel
theorem tyJ6_ok : ∀ k, k < 0 → parseFieldDescriptor (TJ6 k).2.2.1 = some (tyJ6 k) := by decide +kernel
abbrev cJ6_bitCount_0f7a4 : ByteArray := prog_13_method_49_code
def yJ6_bitCount_0f7a4 : MethodName := ⟨RJ6, "bitCount", "(I)I"⟩
def RJ9 : String := "java/lang/Math"
def TJ9 : u_T := fun k => match k with
  | _ => ("", "", "", false)
def tyJ9 : Nat → FieldType := fun k => match k with
  | _ => .int
abbrev wsJ90 : List Cond := u_ws RJ9 TJ9 0
theorem nmJ9 : ∀ a, a < 0 → ∀ b, b < 0 → a ≠ b → (TJ9 a).2.1 ≠ (TJ9 b).2.1 := by decide +kernel
theorem tyJ9_ok : ∀ k, k < 0 → parseFieldDescriptor (TJ9 k).2.2.1 = some (tyJ9 k) := by decide +kernel
abbrev cJ9_floorMod_7cf53 : ByteArray := prog_14_method_50_code
def yJ9_floorMod_7cf53 : MethodName := ⟨RJ9, "floorMod", "(II)I"⟩
abbrev cJ9_abs_0f7a4 : ByteArray := prog_14_method_59_code
def yJ9_abs_0f7a4 : MethodName := ⟨RJ9, "abs", "(I)I"⟩
abbrev cJ9_max_7cf53 : ByteArray := prog_14_method_65_code
def yJ9_max_7cf53 : MethodName := ⟨RJ9, "max", "(II)I"⟩
abbrev cJ9_min_7cf53 : ByteArray := prog_14_method_69_code
def yJ9_min_7cf53 : MethodName := ⟨RJ9, "min", "(II)I"⟩
def RJ10 : String := "java/lang/System"
def TJ10 : u_T := fun k => match k with
  | _ => ("", "", "", false)
def tyJ10 : Nat → FieldType := fun k => match k with
  | _ => .int
abbrev wsJ100 : List Cond := u_ws RJ10 TJ10 0
theorem nmJ10 : ∀ a, a < 0 → ∀ b, b < 0 → a ≠ b → (TJ10 a).2.1 ≠ (TJ10 b).2.1 := by decide +kernel
theorem tyJ10_ok : ∀ k, k < 0 → parseFieldDescriptor (TJ10 k).2.2.1 = some (tyJ10 k) := by decide +kernel
def RJ7 : String := "java/util/Arrays"
def TJ7 : u_T := fun k => match k with
  | _ => ("", "", "", false)
def tyJ7 : Nat → FieldType := fun k => match k with
  | _ => .int
abbrev wsJ70 : List Cond := u_ws RJ7 TJ7 0
theorem nmJ7 : ∀ a, a < 0 → ∀ b, b < 0 → a ≠ b → (TJ7 a).2.1 ≠ (TJ7 b).2.1 := by decide +kernel
theorem tyJ7_ok : ∀ k, k < 0 → parseFieldDescriptor (TJ7 k).2.2.1 = some (tyJ7 k) := by decide +kernel
abbrev cJ7_fill_53178 : ByteArray := prog_16_method_103_code
def yJ7_fill_53178 : MethodName := ⟨RJ7, "fill", "([II)V"⟩
abbrev cJ7_fill_031fb : ByteArray := prog_16_method_109_code
def yJ7_fill_031fb : MethodName := ⟨RJ7, "fill", "([BB)V"⟩
def RL : String := "FlossRumoursLaw"
abbrev cL_law : ByteArray := code
def yL_law : MethodName := ⟨RL, "law", "([I)Z"⟩
abbrev vwCl : List vw_C := [(RX0, TX0, 0), (RX1, TX1, 0), (RX2, TX2, 0), (RX3, TX3, 2), (RX4, TX4, 12), (RX5, TX5, 0), (RX6, TX6, 6), (RX7, TX7, 0), (RX8, TX8, 0), (RX9, TX9, 15), (RX10, TX10, 25)]
end
section
theorem dX0_init_0 : decode cX0_init 0 = .ok (.aload_n 0, 1) := by decide +kernel
theorem dX0_init_1 : decode cX0_init 1 = .ok (.invokespecial 1, 3) := by decide +kernel
theorem dX0_init_4 : decode cX0_init 4 = .ok (.return_, 1) := by decide +kernel
theorem dX0_partOf_0 : decode cX0_partOf 0 = .ok (.bipush 9, 2) := by decide +kernel
theorem dX0_partOf_2 : decode cX0_partOf 2 = .ok (.iload_n 1, 1) := by decide +kernel
theorem dX0_partOf_3 : decode cX0_partOf 3 = .ok (.invokestatic 7, 3) := by decide +kernel
theorem dX0_partOf_6 : decode cX0_partOf 6 = .ok (.ireturn, 1) := by decide +kernel
theorem dX1_init_0 : decode cX1_init 0 = .ok (.aload_n 0, 1) := by decide +kernel
theorem dX1_init_1 : decode cX1_init 1 = .ok (.invokespecial 1, 3) := by decide +kernel
theorem dX1_init_4 : decode cX1_init 4 = .ok (.return_, 1) := by decide +kernel
theorem dX1_leftByRain_0 : decode cX1_leftByRain 0 = .ok (.iload_n 1, 1) := by decide +kernel
theorem dX1_leftByRain_1 : decode cX1_leftByRain 1 = .ok (.ireturn, 1) := by decide +kernel
theorem dX2_init_0 : decode cX2_init 0 = .ok (.aload_n 0, 1) := by decide +kernel
theorem dX2_init_1 : decode cX2_init 1 = .ok (.invokespecial 1, 3) := by decide +kernel
theorem dX2_init_4 : decode cX2_init 4 = .ok (.return_, 1) := by decide +kernel
theorem dX2_breath_0 : decode cX2_breath 0 = .ok (.iconst 3, 1) := by decide +kernel
theorem dX2_breath_1 : decode cX2_breath 1 = .ok (.ireturn, 1) := by decide +kernel
theorem dX3_init_0 : decode cX3_init 0 = .ok (.aload_n 0, 1) := by decide +kernel
theorem dX3_init_1 : decode cX3_init 1 = .ok (.invokespecial 3, 3) := by decide +kernel
theorem dX3_init_4 : decode cX3_init 4 = .ok (.aload_n 0, 1) := by decide +kernel
theorem dX3_init_5 : decode cX3_init 5 = .ok (.bipush 40, 2) := by decide +kernel
theorem dX3_init_7 : decode cX3_init 7 = .ok (.newarray .int, 2) := by decide +kernel
theorem dX3_init_9 : decode cX3_init 9 = .ok (.putfield 9, 3) := by decide +kernel
theorem dX3_init_12 : decode cX3_init 12 = .ok (.aload_n 0, 1) := by decide +kernel
theorem dX3_init_13 : decode cX3_init 13 = .ok (.iload_n 1, 1) := by decide +kernel
theorem dX3_init_14 : decode cX3_init 14 = .ok (.putfield 15, 3) := by decide +kernel
theorem dX3_init_17 : decode cX3_init 17 = .ok (.return_, 1) := by decide +kernel
theorem dX3_isFull_0 : decode cX3_isFull 0 = .ok (.aload_n 0, 1) := by decide +kernel
theorem dX3_isFull_1 : decode cX3_isFull 1 = .ok (.getfield 15, 3) := by decide +kernel
theorem dX3_isFull_4 : decode cX3_isFull 4 = .ok (.bipush 40, 2) := by decide +kernel
theorem dX3_isFull_6 : decode cX3_isFull 6 = .ok (.if_icmp .lt 7, 3) := by decide +kernel
theorem dX3_isFull_9 : decode cX3_isFull 9 = .ok (.iconst 1, 1) := by decide +kernel
theorem dX3_isFull_10 : decode cX3_isFull 10 = .ok (.goto 4, 3) := by decide +kernel
theorem dX3_isFull_13 : decode cX3_isFull 13 = .ok (.iconst 0, 1) := by decide +kernel
theorem dX3_isFull_14 : decode cX3_isFull 14 = .ok (.ireturn, 1) := by decide +kernel
theorem dX3_add_0 : decode cX3_add 0 = .ok (.aload_n 0, 1) := by decide +kernel
theorem dX3_add_1 : decode cX3_add 1 = .ok (.invokevirtual 19, 3) := by decide +kernel
theorem dX3_add_4 : decode cX3_add 4 = .ok (.ifCond .eq 4, 3) := by decide +kernel
theorem dX3_add_7 : decode cX3_add 7 = .ok (.return_, 1) := by decide +kernel
theorem dX3_add_8 : decode cX3_add 8 = .ok (.aload_n 0, 1) := by decide +kernel
theorem dX3_add_9 : decode cX3_add 9 = .ok (.getfield 9, 3) := by decide +kernel
theorem dX3_add_12 : decode cX3_add 12 = .ok (.aload_n 0, 1) := by decide +kernel
theorem dX3_add_13 : decode cX3_add 13 = .ok (.getfield 15, 3) := by decide +kernel
theorem dX3_add_16 : decode cX3_add 16 = .ok (.iload_n 1, 1) := by decide +kernel
theorem dX3_add_17 : decode cX3_add 17 = .ok (.iastore, 1) := by decide +kernel
theorem dX3_add_18 : decode cX3_add 18 = .ok (.aload_n 0, 1) := by decide +kernel
theorem dX3_add_19 : decode cX3_add 19 = .ok (.dup, 1) := by decide +kernel
theorem dX3_add_20 : decode cX3_add 20 = .ok (.getfield 15, 3) := by decide +kernel
theorem dX3_add_23 : decode cX3_add 23 = .ok (.iconst 1, 1) := by decide +kernel
theorem dX3_add_24 : decode cX3_add 24 = .ok (.iadd, 1) := by decide +kernel
theorem dX3_add_25 : decode cX3_add 25 = .ok (.putfield 15, 3) := by decide +kernel
theorem dX3_add_28 : decode cX3_add 28 = .ok (.return_, 1) := by decide +kernel
theorem dX3_become_0 : decode cX3_become 0 = .ok (.aload_n 1, 1) := by decide +kernel
theorem dX3_become_1 : decode cX3_become 1 = .ok (.getfield 9, 3) := by decide +kernel
theorem dX3_become_4 : decode cX3_become 4 = .ok (.iconst 0, 1) := by decide +kernel
theorem dX3_become_5 : decode cX3_become 5 = .ok (.aload_n 0, 1) := by decide +kernel
theorem dX3_become_6 : decode cX3_become 6 = .ok (.getfield 9, 3) := by decide +kernel
theorem dX3_become_9 : decode cX3_become 9 = .ok (.iconst 0, 1) := by decide +kernel
theorem dX3_become_10 : decode cX3_become 10 = .ok (.bipush 40, 2) := by decide +kernel
theorem dX3_become_12 : decode cX3_become 12 = .ok (.invokestatic 23, 3) := by decide +kernel
theorem dX3_become_15 : decode cX3_become 15 = .ok (.aload_n 0, 1) := by decide +kernel
theorem dX3_become_16 : decode cX3_become 16 = .ok (.aload_n 1, 1) := by decide +kernel
theorem dX3_become_17 : decode cX3_become 17 = .ok (.getfield 15, 3) := by decide +kernel
theorem dX3_become_20 : decode cX3_become 20 = .ok (.putfield 15, 3) := by decide +kernel
theorem dX3_become_23 : decode cX3_become 23 = .ok (.return_, 1) := by decide +kernel
theorem dX4_init_0 : decode cX4_init 0 = .ok (.aload_n 0, 1) := by decide +kernel
theorem dX4_init_1 : decode cX4_init 1 = .ok (.invokespecial 3, 3) := by decide +kernel
theorem dX4_init_4 : decode cX4_init 4 = .ok (.aload_n 0, 1) := by decide +kernel
theorem dX4_init_5 : decode cX4_init 5 = .ok (.bipush 6, 2) := by decide +kernel
theorem dX4_init_7 : decode cX4_init 7 = .ok (.newarray .int, 2) := by decide +kernel
theorem dX4_init_9 : decode cX4_init 9 = .ok (.putfield 9, 3) := by decide +kernel
theorem dX4_init_12 : decode cX4_init 12 = .ok (.aload_n 0, 1) := by decide +kernel
theorem dX4_init_13 : decode cX4_init 13 = .ok (.bipush 6, 2) := by decide +kernel
theorem dX4_init_15 : decode cX4_init 15 = .ok (.newarray .int, 2) := by decide +kernel
theorem dX4_init_17 : decode cX4_init 17 = .ok (.putfield 15, 3) := by decide +kernel
theorem dX4_init_20 : decode cX4_init 20 = .ok (.aload_n 0, 1) := by decide +kernel
theorem dX4_init_21 : decode cX4_init 21 = .ok (.bipush 6, 2) := by decide +kernel
theorem dX4_init_23 : decode cX4_init 23 = .ok (.newarray .int, 2) := by decide +kernel
theorem dX4_init_25 : decode cX4_init 25 = .ok (.putfield 18, 3) := by decide +kernel
theorem dX4_init_28 : decode cX4_init 28 = .ok (.aload_n 0, 1) := by decide +kernel
theorem dX4_init_29 : decode cX4_init 29 = .ok (.iconst 0, 1) := by decide +kernel
theorem dX4_init_30 : decode cX4_init 30 = .ok (.putfield 21, 3) := by decide +kernel
theorem dX4_init_33 : decode cX4_init 33 = .ok (.aload_n 0, 1) := by decide +kernel
theorem dX4_init_34 : decode cX4_init 34 = .ok (.iconst 0, 1) := by decide +kernel
theorem dX4_init_35 : decode cX4_init 35 = .ok (.putfield 25, 3) := by decide +kernel
theorem dX4_init_38 : decode cX4_init 38 = .ok (.aload_n 0, 1) := by decide +kernel
theorem dX4_init_39 : decode cX4_init 39 = .ok (.iconst 0, 1) := by decide +kernel
theorem dX4_init_40 : decode cX4_init 40 = .ok (.putfield 28, 3) := by decide +kernel
theorem dX4_init_43 : decode cX4_init 43 = .ok (.aload_n 0, 1) := by decide +kernel
theorem dX4_init_44 : decode cX4_init 44 = .ok (.iconst 0, 1) := by decide +kernel
theorem dX4_init_45 : decode cX4_init 45 = .ok (.putfield 31, 3) := by decide +kernel
theorem dX4_init_48 : decode cX4_init 48 = .ok (.aload_n 0, 1) := by decide +kernel
theorem dX4_init_49 : decode cX4_init 49 = .ok (.iconst 0, 1) := by decide +kernel
theorem dX4_init_50 : decode cX4_init 50 = .ok (.putfield 34, 3) := by decide +kernel
theorem dX4_init_53 : decode cX4_init 53 = .ok (.aload_n 0, 1) := by decide +kernel
theorem dX4_init_54 : decode cX4_init 54 = .ok (.iconst 1, 1) := by decide +kernel
theorem dX4_init_55 : decode cX4_init 55 = .ok (.putfield 37, 3) := by decide +kernel
theorem dX4_init_58 : decode cX4_init 58 = .ok (.aload_n 0, 1) := by decide +kernel
theorem dX4_init_59 : decode cX4_init 59 = .ok (.iconst 0, 1) := by decide +kernel
theorem dX4_init_60 : decode cX4_init 60 = .ok (.putfield 40, 3) := by decide +kernel
theorem dX4_init_63 : decode cX4_init 63 = .ok (.aload_n 0, 1) := by decide +kernel
theorem dX4_init_64 : decode cX4_init 64 = .ok (.iconst 0, 1) := by decide +kernel
theorem dX4_init_65 : decode cX4_init 65 = .ok (.putfield 43, 3) := by decide +kernel
theorem dX4_init_68 : decode cX4_init 68 = .ok (.aload_n 0, 1) := by decide +kernel
theorem dX4_init_69 : decode cX4_init 69 = .ok (.aload_n 1, 1) := by decide +kernel
theorem dX4_init_70 : decode cX4_init 70 = .ok (.putfield 46, 3) := by decide +kernel
theorem dX4_init_73 : decode cX4_init 73 = .ok (.return_, 1) := by decide +kernel
theorem dX4_become_0 : decode cX4_become 0 = .ok (.iconst 0, 1) := by decide +kernel
theorem dX4_become_1 : decode cX4_become 1 = .ok (.istore_n 2, 1) := by decide +kernel
theorem dX4_become_2 : decode cX4_become 2 = .ok (.iload_n 2, 1) := by decide +kernel
theorem dX4_become_3 : decode cX4_become 3 = .ok (.bipush 6, 2) := by decide +kernel
theorem dX4_become_5 : decode cX4_become 5 = .ok (.if_icmp .ge 45, 3) := by decide +kernel
theorem dX4_become_8 : decode cX4_become 8 = .ok (.aload_n 0, 1) := by decide +kernel
theorem dX4_become_9 : decode cX4_become 9 = .ok (.getfield 9, 3) := by decide +kernel
theorem dX4_become_12 : decode cX4_become 12 = .ok (.iload_n 2, 1) := by decide +kernel
theorem dX4_become_13 : decode cX4_become 13 = .ok (.aload_n 1, 1) := by decide +kernel
theorem dX4_become_14 : decode cX4_become 14 = .ok (.getfield 9, 3) := by decide +kernel
theorem dX4_become_17 : decode cX4_become 17 = .ok (.iload_n 2, 1) := by decide +kernel
theorem dX4_become_18 : decode cX4_become 18 = .ok (.iaload, 1) := by decide +kernel
theorem dX4_become_19 : decode cX4_become 19 = .ok (.iastore, 1) := by decide +kernel
theorem dX4_become_20 : decode cX4_become 20 = .ok (.aload_n 0, 1) := by decide +kernel
theorem dX4_become_21 : decode cX4_become 21 = .ok (.getfield 15, 3) := by decide +kernel
theorem dX4_become_24 : decode cX4_become 24 = .ok (.iload_n 2, 1) := by decide +kernel
theorem dX4_become_25 : decode cX4_become 25 = .ok (.aload_n 1, 1) := by decide +kernel
theorem dX4_become_26 : decode cX4_become 26 = .ok (.getfield 15, 3) := by decide +kernel
theorem dX4_become_29 : decode cX4_become 29 = .ok (.iload_n 2, 1) := by decide +kernel
theorem dX4_become_30 : decode cX4_become 30 = .ok (.iaload, 1) := by decide +kernel
theorem dX4_become_31 : decode cX4_become 31 = .ok (.iastore, 1) := by decide +kernel
theorem dX4_become_32 : decode cX4_become 32 = .ok (.aload_n 0, 1) := by decide +kernel
theorem dX4_become_33 : decode cX4_become 33 = .ok (.getfield 18, 3) := by decide +kernel
theorem dX4_become_36 : decode cX4_become 36 = .ok (.iload_n 2, 1) := by decide +kernel
theorem dX4_become_37 : decode cX4_become 37 = .ok (.aload_n 1, 1) := by decide +kernel
theorem dX4_become_38 : decode cX4_become 38 = .ok (.getfield 18, 3) := by decide +kernel
theorem dX4_become_41 : decode cX4_become 41 = .ok (.iload_n 2, 1) := by decide +kernel
theorem dX4_become_42 : decode cX4_become 42 = .ok (.iaload, 1) := by decide +kernel
theorem dX4_become_43 : decode cX4_become 43 = .ok (.iastore, 1) := by decide +kernel
theorem dX4_become_44 : decode cX4_become 44 = .ok (.iinc 2 1, 3) := by decide +kernel
theorem dX4_become_47 : decode cX4_become 47 = .ok (.goto (-45), 3) := by decide +kernel
theorem dX4_become_50 : decode cX4_become 50 = .ok (.aload_n 0, 1) := by decide +kernel
theorem dX4_become_51 : decode cX4_become 51 = .ok (.aload_n 1, 1) := by decide +kernel
theorem dX4_become_52 : decode cX4_become 52 = .ok (.getfield 21, 3) := by decide +kernel
theorem dX4_become_55 : decode cX4_become 55 = .ok (.putfield 21, 3) := by decide +kernel
theorem dX4_become_58 : decode cX4_become 58 = .ok (.aload_n 0, 1) := by decide +kernel
theorem dX4_become_59 : decode cX4_become 59 = .ok (.aload_n 1, 1) := by decide +kernel
theorem dX4_become_60 : decode cX4_become 60 = .ok (.getfield 25, 3) := by decide +kernel
theorem dX4_become_63 : decode cX4_become 63 = .ok (.putfield 25, 3) := by decide +kernel
theorem dX4_become_66 : decode cX4_become 66 = .ok (.aload_n 0, 1) := by decide +kernel
theorem dX4_become_67 : decode cX4_become 67 = .ok (.aload_n 1, 1) := by decide +kernel
theorem dX4_become_68 : decode cX4_become 68 = .ok (.getfield 28, 3) := by decide +kernel
theorem dX4_become_71 : decode cX4_become 71 = .ok (.putfield 28, 3) := by decide +kernel
theorem dX4_become_74 : decode cX4_become 74 = .ok (.aload_n 0, 1) := by decide +kernel
theorem dX4_become_75 : decode cX4_become 75 = .ok (.aload_n 1, 1) := by decide +kernel
theorem dX4_become_76 : decode cX4_become 76 = .ok (.getfield 31, 3) := by decide +kernel
theorem dX4_become_79 : decode cX4_become 79 = .ok (.putfield 31, 3) := by decide +kernel
theorem dX4_become_82 : decode cX4_become 82 = .ok (.aload_n 0, 1) := by decide +kernel
theorem dX4_become_83 : decode cX4_become 83 = .ok (.aload_n 1, 1) := by decide +kernel
theorem dX4_become_84 : decode cX4_become 84 = .ok (.getfield 34, 3) := by decide +kernel
theorem dX4_become_87 : decode cX4_become 87 = .ok (.putfield 34, 3) := by decide +kernel
theorem dX4_become_90 : decode cX4_become 90 = .ok (.aload_n 0, 1) := by decide +kernel
theorem dX4_become_91 : decode cX4_become 91 = .ok (.aload_n 1, 1) := by decide +kernel
theorem dX4_become_92 : decode cX4_become 92 = .ok (.getfield 37, 3) := by decide +kernel
theorem dX4_become_95 : decode cX4_become 95 = .ok (.putfield 37, 3) := by decide +kernel
theorem dX4_become_98 : decode cX4_become 98 = .ok (.aload_n 0, 1) := by decide +kernel
theorem dX4_become_99 : decode cX4_become 99 = .ok (.aload_n 1, 1) := by decide +kernel
theorem dX4_become_100 : decode cX4_become 100 = .ok (.getfield 40, 3) := by decide +kernel
theorem dX4_become_103 : decode cX4_become 103 = .ok (.putfield 40, 3) := by decide +kernel
theorem dX4_become_106 : decode cX4_become 106 = .ok (.aload_n 0, 1) := by decide +kernel
theorem dX4_become_107 : decode cX4_become 107 = .ok (.aload_n 1, 1) := by decide +kernel
theorem dX4_become_108 : decode cX4_become 108 = .ok (.getfield 43, 3) := by decide +kernel
theorem dX4_become_111 : decode cX4_become 111 = .ok (.putfield 43, 3) := by decide +kernel
theorem dX4_become_114 : decode cX4_become 114 = .ok (.return_, 1) := by decide +kernel
theorem dX4_begin_0 : decode cX4_begin 0 = .ok (.aload_n 0, 1) := by decide +kernel
theorem dX4_begin_1 : decode cX4_begin 1 = .ok (.iload_n 1, 1) := by decide +kernel
theorem dX4_begin_2 : decode cX4_begin 2 = .ok (.putfield 21, 3) := by decide +kernel
theorem dX4_begin_5 : decode cX4_begin 5 = .ok (.aload_n 0, 1) := by decide +kernel
theorem dX4_begin_6 : decode cX4_begin 6 = .ok (.iload_n 2, 1) := by decide +kernel
theorem dX4_begin_7 : decode cX4_begin 7 = .ok (.putfield 25, 3) := by decide +kernel
theorem dX4_begin_10 : decode cX4_begin 10 = .ok (.aload_n 0, 1) := by decide +kernel
theorem dX4_begin_11 : decode cX4_begin 11 = .ok (.iconst 0, 1) := by decide +kernel
theorem dX4_begin_12 : decode cX4_begin 12 = .ok (.putfield 28, 3) := by decide +kernel
theorem dX4_begin_15 : decode cX4_begin 15 = .ok (.aload_n 0, 1) := by decide +kernel
theorem dX4_begin_16 : decode cX4_begin 16 = .ok (.iconst 0, 1) := by decide +kernel
theorem dX4_begin_17 : decode cX4_begin 17 = .ok (.putfield 31, 3) := by decide +kernel
theorem dX4_begin_20 : decode cX4_begin 20 = .ok (.aload_n 0, 1) := by decide +kernel
theorem dX4_begin_21 : decode cX4_begin 21 = .ok (.iload_n 1, 1) := by decide +kernel
theorem dX4_begin_22 : decode cX4_begin 22 = .ok (.putfield 34, 3) := by decide +kernel
theorem dX4_begin_25 : decode cX4_begin 25 = .ok (.aload_n 0, 1) := by decide +kernel
theorem dX4_begin_26 : decode cX4_begin 26 = .ok (.iconst 1, 1) := by decide +kernel
theorem dX4_begin_27 : decode cX4_begin 27 = .ok (.putfield 37, 3) := by decide +kernel
theorem dX4_begin_30 : decode cX4_begin 30 = .ok (.aload_n 0, 1) := by decide +kernel
theorem dX4_begin_31 : decode cX4_begin 31 = .ok (.iconst 0, 1) := by decide +kernel
theorem dX4_begin_32 : decode cX4_begin 32 = .ok (.putfield 40, 3) := by decide +kernel
theorem dX4_begin_35 : decode cX4_begin 35 = .ok (.aload_n 0, 1) := by decide +kernel
theorem dX4_begin_36 : decode cX4_begin 36 = .ok (.iconst 0, 1) := by decide +kernel
theorem dX4_begin_37 : decode cX4_begin 37 = .ok (.putfield 43, 3) := by decide +kernel
theorem dX4_begin_40 : decode cX4_begin 40 = .ok (.return_, 1) := by decide +kernel
theorem dX4_join_0 : decode cX4_join 0 = .ok (.aload_n 0, 1) := by decide +kernel
theorem dX4_join_1 : decode cX4_join 1 = .ok (.getfield 28, 3) := by decide +kernel
theorem dX4_join_4 : decode cX4_join 4 = .ok (.bipush 6, 2) := by decide +kernel
theorem dX4_join_6 : decode cX4_join 6 = .ok (.if_icmp .lt 4, 3) := by decide +kernel
theorem dX4_join_9 : decode cX4_join 9 = .ok (.return_, 1) := by decide +kernel
theorem dX4_join_10 : decode cX4_join 10 = .ok (.aload_n 0, 1) := by decide +kernel
theorem dX4_join_11 : decode cX4_join 11 = .ok (.getfield 9, 3) := by decide +kernel
theorem dX4_join_14 : decode cX4_join 14 = .ok (.aload_n 0, 1) := by decide +kernel
theorem dX4_join_15 : decode cX4_join 15 = .ok (.getfield 28, 3) := by decide +kernel
theorem dX4_join_18 : decode cX4_join 18 = .ok (.iload_n 1, 1) := by decide +kernel
theorem dX4_join_19 : decode cX4_join 19 = .ok (.iastore, 1) := by decide +kernel
theorem dX4_join_20 : decode cX4_join 20 = .ok (.aload_n 0, 1) := by decide +kernel
theorem dX4_join_21 : decode cX4_join 21 = .ok (.getfield 15, 3) := by decide +kernel
theorem dX4_join_24 : decode cX4_join 24 = .ok (.aload_n 0, 1) := by decide +kernel
theorem dX4_join_25 : decode cX4_join 25 = .ok (.getfield 28, 3) := by decide +kernel
theorem dX4_join_28 : decode cX4_join 28 = .ok (.iload_n 2, 1) := by decide +kernel
theorem dX4_join_29 : decode cX4_join 29 = .ok (.iastore, 1) := by decide +kernel
theorem dX4_join_30 : decode cX4_join 30 = .ok (.aload_n 0, 1) := by decide +kernel
theorem dX4_join_31 : decode cX4_join 31 = .ok (.getfield 18, 3) := by decide +kernel
theorem dX4_join_34 : decode cX4_join 34 = .ok (.aload_n 0, 1) := by decide +kernel
theorem dX4_join_35 : decode cX4_join 35 = .ok (.getfield 28, 3) := by decide +kernel
theorem dX4_join_38 : decode cX4_join 38 = .ok (.iload_n 3, 1) := by decide +kernel
theorem dX4_join_39 : decode cX4_join 39 = .ok (.iastore, 1) := by decide +kernel
theorem dX4_join_40 : decode cX4_join 40 = .ok (.aload_n 0, 1) := by decide +kernel
theorem dX4_join_41 : decode cX4_join 41 = .ok (.dup, 1) := by decide +kernel
theorem dX4_join_42 : decode cX4_join 42 = .ok (.getfield 28, 3) := by decide +kernel
theorem dX4_join_45 : decode cX4_join 45 = .ok (.iconst 1, 1) := by decide +kernel
theorem dX4_join_46 : decode cX4_join 46 = .ok (.iadd, 1) := by decide +kernel
theorem dX4_join_47 : decode cX4_join 47 = .ok (.putfield 28, 3) := by decide +kernel
theorem dX4_join_50 : decode cX4_join 50 = .ok (.return_, 1) := by decide +kernel
theorem dX4_isOne_0 : decode cX4_isOne 0 = .ok (.iload_n 1, 1) := by decide +kernel
theorem dX4_isOne_1 : decode cX4_isOne 1 = .ok (.ifCond .lt 15, 3) := by decide +kernel
theorem dX4_isOne_4 : decode cX4_isOne 4 = .ok (.iload_n 1, 1) := by decide +kernel
theorem dX4_isOne_5 : decode cX4_isOne 5 = .ok (.aload_n 0, 1) := by decide +kernel
theorem dX4_isOne_6 : decode cX4_isOne 6 = .ok (.getfield 28, 3) := by decide +kernel
theorem dX4_isOne_9 : decode cX4_isOne 9 = .ok (.if_icmp .ge 7, 3) := by decide +kernel
theorem dX4_isOne_12 : decode cX4_isOne 12 = .ok (.iconst 1, 1) := by decide +kernel
theorem dX4_isOne_13 : decode cX4_isOne 13 = .ok (.goto 4, 3) := by decide +kernel
theorem dX4_isOne_16 : decode cX4_isOne 16 = .ok (.iconst 0, 1) := by decide +kernel
theorem dX4_isOne_17 : decode cX4_isOne 17 = .ok (.ireturn, 1) := by decide +kernel
theorem dX4_personOf_0 : decode cX4_personOf 0 = .ok (.aload_n 0, 1) := by decide +kernel
theorem dX4_personOf_1 : decode cX4_personOf 1 = .ok (.getfield 46, 3) := by decide +kernel
theorem dX4_personOf_4 : decode cX4_personOf 4 = .ok (.aload_n 0, 1) := by decide +kernel
theorem dX4_personOf_5 : decode cX4_personOf 5 = .ok (.getfield 9, 3) := by decide +kernel
theorem dX4_personOf_8 : decode cX4_personOf 8 = .ok (.iload_n 1, 1) := by decide +kernel
theorem dX4_personOf_9 : decode cX4_personOf 9 = .ok (.iaload, 1) := by decide +kernel
theorem dX4_personOf_10 : decode cX4_personOf 10 = .ok (.invokevirtual 50, 3) := by decide +kernel
theorem dX4_personOf_13 : decode cX4_personOf 13 = .ok (.areturn, 1) := by decide +kernel
theorem dX4_partFor_0 : decode cX4_partFor 0 = .ok (.aload_n 0, 1) := by decide +kernel
theorem dX4_partFor_1 : decode cX4_partFor 1 = .ok (.iload_n 1, 1) := by decide +kernel
theorem dX4_partFor_2 : decode cX4_partFor 2 = .ok (.invokevirtual 56, 3) := by decide +kernel
theorem dX4_partFor_5 : decode cX4_partFor 5 = .ok (.iload_n 2, 1) := by decide +kernel
theorem dX4_partFor_6 : decode cX4_partFor 6 = .ok (.invokevirtual 59, 3) := by decide +kernel
theorem dX4_partFor_9 : decode cX4_partFor 9 = .ok (.ireturn, 1) := by decide +kernel
theorem dX4_farFromCloud_0 : decode cX4_farFromCloud 0 = .ok (.aload_n 0, 1) := by decide +kernel
theorem dX4_farFromCloud_1 : decode cX4_farFromCloud 1 = .ok (.getfield 15, 3) := by decide +kernel
theorem dX4_farFromCloud_4 : decode cX4_farFromCloud 4 = .ok (.iload_n 1, 1) := by decide +kernel
theorem dX4_farFromCloud_5 : decode cX4_farFromCloud 5 = .ok (.iaload, 1) := by decide +kernel
theorem dX4_farFromCloud_6 : decode cX4_farFromCloud 6 = .ok (.aload_n 0, 1) := by decide +kernel
theorem dX4_farFromCloud_7 : decode cX4_farFromCloud 7 = .ok (.getfield 34, 3) := by decide +kernel
theorem dX4_farFromCloud_10 : decode cX4_farFromCloud 10 = .ok (.isub, 1) := by decide +kernel
theorem dX4_farFromCloud_11 : decode cX4_farFromCloud 11 = .ok (.invokestatic 65, 3) := by decide +kernel
theorem dX4_farFromCloud_14 : decode cX4_farFromCloud 14 = .ok (.istore_n 2, 1) := by decide +kernel
theorem dX4_farFromCloud_15 : decode cX4_farFromCloud 15 = .ok (.iload_n 2, 1) := by decide +kernel
theorem dX4_farFromCloud_16 : decode cX4_farFromCloud 16 = .ok (.bipush 10, 2) := by decide +kernel
theorem dX4_farFromCloud_18 : decode cX4_farFromCloud 18 = .ok (.iload_n 2, 1) := by decide +kernel
theorem dX4_farFromCloud_19 : decode cX4_farFromCloud 19 = .ok (.isub, 1) := by decide +kernel
theorem dX4_farFromCloud_20 : decode cX4_farFromCloud 20 = .ok (.invokestatic 70, 3) := by decide +kernel
theorem dX4_farFromCloud_23 : decode cX4_farFromCloud 23 = .ok (.ireturn, 1) := by decide +kernel
theorem dX4_inAll_0 : decode cX4_inAll 0 = .ok (.iconst 0, 1) := by decide +kernel
theorem dX4_inAll_1 : decode cX4_inAll 1 = .ok (.istore_n 1, 1) := by decide +kernel
theorem dX4_inAll_2 : decode cX4_inAll 2 = .ok (.iconst 0, 1) := by decide +kernel
theorem dX4_inAll_3 : decode cX4_inAll 3 = .ok (.istore_n 2, 1) := by decide +kernel
theorem dX4_inAll_4 : decode cX4_inAll 4 = .ok (.iload_n 2, 1) := by decide +kernel
theorem dX4_inAll_5 : decode cX4_inAll 5 = .ok (.aload_n 0, 1) := by decide +kernel
theorem dX4_inAll_6 : decode cX4_inAll 6 = .ok (.getfield 28, 3) := by decide +kernel
theorem dX4_inAll_9 : decode cX4_inAll 9 = .ok (.if_icmp .ge 18, 3) := by decide +kernel
theorem dX4_inAll_12 : decode cX4_inAll 12 = .ok (.iload_n 1, 1) := by decide +kernel
theorem dX4_inAll_13 : decode cX4_inAll 13 = .ok (.aload_n 0, 1) := by decide +kernel
theorem dX4_inAll_14 : decode cX4_inAll 14 = .ok (.getfield 18, 3) := by decide +kernel
theorem dX4_inAll_17 : decode cX4_inAll 17 = .ok (.iload_n 2, 1) := by decide +kernel
theorem dX4_inAll_18 : decode cX4_inAll 18 = .ok (.iaload, 1) := by decide +kernel
theorem dX4_inAll_19 : decode cX4_inAll 19 = .ok (.iadd, 1) := by decide +kernel
theorem dX4_inAll_20 : decode cX4_inAll 20 = .ok (.istore_n 1, 1) := by decide +kernel
theorem dX4_inAll_21 : decode cX4_inAll 21 = .ok (.iinc 2 1, 3) := by decide +kernel
theorem dX4_inAll_24 : decode cX4_inAll 24 = .ok (.goto (-20), 3) := by decide +kernel
theorem dX4_inAll_27 : decode cX4_inAll 27 = .ok (.iload_n 1, 1) := by decide +kernel
theorem dX4_inAll_28 : decode cX4_inAll 28 = .ok (.ireturn, 1) := by decide +kernel
theorem dX4_inSet_0 : decode cX4_inSet 0 = .ok (.iconst 0, 1) := by decide +kernel
theorem dX4_inSet_1 : decode cX4_inSet 1 = .ok (.istore_n 2, 1) := by decide +kernel
theorem dX4_inSet_2 : decode cX4_inSet 2 = .ok (.iconst 0, 1) := by decide +kernel
theorem dX4_inSet_3 : decode cX4_inSet 3 = .ok (.istore_n 3, 1) := by decide +kernel
theorem dX4_inSet_4 : decode cX4_inSet 4 = .ok (.iload_n 3, 1) := by decide +kernel
theorem dX4_inSet_5 : decode cX4_inSet 5 = .ok (.aload_n 0, 1) := by decide +kernel
theorem dX4_inSet_6 : decode cX4_inSet 6 = .ok (.getfield 28, 3) := by decide +kernel
theorem dX4_inSet_9 : decode cX4_inSet 9 = .ok (.if_icmp .ge 27, 3) := by decide +kernel
theorem dX4_inSet_12 : decode cX4_inSet 12 = .ok (.iload_n 1, 1) := by decide +kernel
theorem dX4_inSet_13 : decode cX4_inSet 13 = .ok (.iload_n 3, 1) := by decide +kernel
theorem dX4_inSet_14 : decode cX4_inSet 14 = .ok (.ishr, 1) := by decide +kernel
theorem dX4_inSet_15 : decode cX4_inSet 15 = .ok (.iconst 1, 1) := by decide +kernel
theorem dX4_inSet_16 : decode cX4_inSet 16 = .ok (.iand, 1) := by decide +kernel
theorem dX4_inSet_17 : decode cX4_inSet 17 = .ok (.iconst 1, 1) := by decide +kernel
theorem dX4_inSet_18 : decode cX4_inSet 18 = .ok (.if_icmp .ne 12, 3) := by decide +kernel
theorem dX4_inSet_21 : decode cX4_inSet 21 = .ok (.iload_n 2, 1) := by decide +kernel
theorem dX4_inSet_22 : decode cX4_inSet 22 = .ok (.aload_n 0, 1) := by decide +kernel
theorem dX4_inSet_23 : decode cX4_inSet 23 = .ok (.getfield 18, 3) := by decide +kernel
theorem dX4_inSet_26 : decode cX4_inSet 26 = .ok (.iload_n 3, 1) := by decide +kernel
theorem dX4_inSet_27 : decode cX4_inSet 27 = .ok (.iaload, 1) := by decide +kernel
theorem dX4_inSet_28 : decode cX4_inSet 28 = .ok (.iadd, 1) := by decide +kernel
theorem dX4_inSet_29 : decode cX4_inSet 29 = .ok (.istore_n 2, 1) := by decide +kernel
theorem dX4_inSet_30 : decode cX4_inSet 30 = .ok (.iinc 3 1, 3) := by decide +kernel
theorem dX4_inSet_33 : decode cX4_inSet 33 = .ok (.goto (-29), 3) := by decide +kernel
theorem dX4_inSet_36 : decode cX4_inSet 36 = .ok (.iload_n 2, 1) := by decide +kernel
theorem dX4_inSet_37 : decode cX4_inSet 37 = .ok (.ireturn, 1) := by decide +kernel
theorem dX4_putIn_0 : decode cX4_putIn 0 = .ok (.aload_n 0, 1) := by decide +kernel
theorem dX4_putIn_1 : decode cX4_putIn 1 = .ok (.bipush 60, 2) := by decide +kernel
theorem dX4_putIn_3 : decode cX4_putIn 3 = .ok (.aload_n 0, 1) := by decide +kernel
theorem dX4_putIn_4 : decode cX4_putIn 4 = .ok (.getfield 31, 3) := by decide +kernel
theorem dX4_putIn_7 : decode cX4_putIn 7 = .ok (.iload_n 1, 1) := by decide +kernel
theorem dX4_putIn_8 : decode cX4_putIn 8 = .ok (.iadd, 1) := by decide +kernel
theorem dX4_putIn_9 : decode cX4_putIn 9 = .ok (.invokestatic 70, 3) := by decide +kernel
theorem dX4_putIn_12 : decode cX4_putIn 12 = .ok (.putfield 31, 3) := by decide +kernel
theorem dX4_putIn_15 : decode cX4_putIn 15 = .ok (.return_, 1) := by decide +kernel
theorem dX4_beOfSize_0 : decode cX4_beOfSize 0 = .ok (.aload_n 0, 1) := by decide +kernel
theorem dX4_beOfSize_1 : decode cX4_beOfSize 1 = .ok (.iload_n 1, 1) := by decide +kernel
theorem dX4_beOfSize_2 : decode cX4_beOfSize 2 = .ok (.putfield 31, 3) := by decide +kernel
theorem dX4_beOfSize_5 : decode cX4_beOfSize 5 = .ok (.aload_n 0, 1) := by decide +kernel
theorem dX4_beOfSize_6 : decode cX4_beOfSize 6 = .ok (.getfield 31, 3) := by decide +kernel
theorem dX4_beOfSize_9 : decode cX4_beOfSize 9 = .ok (.ifCond .ne 11, 3) := by decide +kernel
theorem dX4_beOfSize_12 : decode cX4_beOfSize 12 = .ok (.aload_n 0, 1) := by decide +kernel
theorem dX4_beOfSize_13 : decode cX4_beOfSize 13 = .ok (.aload_n 0, 1) := by decide +kernel
theorem dX4_beOfSize_14 : decode cX4_beOfSize 14 = .ok (.getfield 21, 3) := by decide +kernel
theorem dX4_beOfSize_17 : decode cX4_beOfSize 17 = .ok (.putfield 34, 3) := by decide +kernel
theorem dX4_beOfSize_20 : decode cX4_beOfSize 20 = .ok (.return_, 1) := by decide +kernel
theorem dX4_pass_0 : decode cX4_pass 0 = .ok (.aload_n 0, 1) := by decide +kernel
theorem dX4_pass_1 : decode cX4_pass 1 = .ok (.invokevirtual 74, 3) := by decide +kernel
theorem dX4_pass_4 : decode cX4_pass 4 = .ok (.iconst 0, 1) := by decide +kernel
theorem dX4_pass_5 : decode cX4_pass 5 = .ok (.istore_n 2, 1) := by decide +kernel
theorem dX4_pass_6 : decode cX4_pass 6 = .ok (.iconst 0, 1) := by decide +kernel
theorem dX4_pass_7 : decode cX4_pass 7 = .ok (.istore_n 3, 1) := by decide +kernel
theorem dX4_pass_8 : decode cX4_pass 8 = .ok (.iload_n 3, 1) := by decide +kernel
theorem dX4_pass_9 : decode cX4_pass 9 = .ok (.aload_n 0, 1) := by decide +kernel
theorem dX4_pass_10 : decode cX4_pass 10 = .ok (.getfield 28, 3) := by decide +kernel
theorem dX4_pass_13 : decode cX4_pass 13 = .ok (.if_icmp .ge 31, 3) := by decide +kernel
theorem dX4_pass_16 : decode cX4_pass 16 = .ok (.iload_n 1, 1) := by decide +kernel
theorem dX4_pass_17 : decode cX4_pass 17 = .ok (.iload_n 3, 1) := by decide +kernel
theorem dX4_pass_18 : decode cX4_pass 18 = .ok (.ishr, 1) := by decide +kernel
theorem dX4_pass_19 : decode cX4_pass 19 = .ok (.iconst 1, 1) := by decide +kernel
theorem dX4_pass_20 : decode cX4_pass 20 = .ok (.iand, 1) := by decide +kernel
theorem dX4_pass_21 : decode cX4_pass 21 = .ok (.ifCond .ne 17, 3) := by decide +kernel
theorem dX4_pass_24 : decode cX4_pass 24 = .ok (.aload_n 0, 1) := by decide +kernel
theorem dX4_pass_25 : decode cX4_pass 25 = .ok (.iload_n 3, 1) := by decide +kernel
theorem dX4_pass_26 : decode cX4_pass 26 = .ok (.invokevirtual 77, 3) := by decide +kernel
theorem dX4_pass_29 : decode cX4_pass 29 = .ok (.ifCond .eq 9, 3) := by decide +kernel
theorem dX4_pass_32 : decode cX4_pass 32 = .ok (.iload_n 2, 1) := by decide +kernel
theorem dX4_pass_33 : decode cX4_pass 33 = .ok (.iconst 1, 1) := by decide +kernel
theorem dX4_pass_34 : decode cX4_pass 34 = .ok (.iload_n 3, 1) := by decide +kernel
theorem dX4_pass_35 : decode cX4_pass 35 = .ok (.ishl, 1) := by decide +kernel
theorem dX4_pass_36 : decode cX4_pass 36 = .ok (.ior, 1) := by decide +kernel
theorem dX4_pass_37 : decode cX4_pass 37 = .ok (.istore_n 2, 1) := by decide +kernel
theorem dX4_pass_38 : decode cX4_pass 38 = .ok (.iinc 3 1, 3) := by decide +kernel
theorem dX4_pass_41 : decode cX4_pass 41 = .ok (.goto (-33), 3) := by decide +kernel
theorem dX4_pass_44 : decode cX4_pass 44 = .ok (.aload_n 0, 1) := by decide +kernel
theorem dX4_pass_45 : decode cX4_pass 45 = .ok (.getfield 40, 3) := by decide +kernel
theorem dX4_pass_48 : decode cX4_pass 48 = .ok (.iconst 1, 1) := by decide +kernel
theorem dX4_pass_49 : decode cX4_pass 49 = .ok (.if_icmp .ne 7, 3) := by decide +kernel
theorem dX4_pass_52 : decode cX4_pass 52 = .ok (.aload_n 0, 1) := by decide +kernel
theorem dX4_pass_53 : decode cX4_pass 53 = .ok (.invokevirtual 81, 3) := by decide +kernel
theorem dX4_pass_56 : decode cX4_pass 56 = .ok (.aload_n 0, 1) := by decide +kernel
theorem dX4_pass_57 : decode cX4_pass 57 = .ok (.getfield 31, 3) := by decide +kernel
theorem dX4_pass_60 : decode cX4_pass 60 = .ok (.ifCond .ne 11, 3) := by decide +kernel
theorem dX4_pass_63 : decode cX4_pass 63 = .ok (.aload_n 0, 1) := by decide +kernel
theorem dX4_pass_64 : decode cX4_pass 64 = .ok (.aload_n 0, 1) := by decide +kernel
theorem dX4_pass_65 : decode cX4_pass 65 = .ok (.getfield 21, 3) := by decide +kernel
theorem dX4_pass_68 : decode cX4_pass 68 = .ok (.putfield 34, 3) := by decide +kernel
theorem dX4_pass_71 : decode cX4_pass 71 = .ok (.aload_n 0, 1) := by decide +kernel
theorem dX4_pass_72 : decode cX4_pass 72 = .ok (.dup, 1) := by decide +kernel
theorem dX4_pass_73 : decode cX4_pass 73 = .ok (.getfield 43, 3) := by decide +kernel
theorem dX4_pass_76 : decode cX4_pass 76 = .ok (.iconst 1, 1) := by decide +kernel
theorem dX4_pass_77 : decode cX4_pass 77 = .ok (.iadd, 1) := by decide +kernel
theorem dX4_pass_78 : decode cX4_pass 78 = .ok (.putfield 43, 3) := by decide +kernel
theorem dX4_pass_81 : decode cX4_pass 81 = .ok (.iload_n 2, 1) := by decide +kernel
theorem dX4_pass_82 : decode cX4_pass 82 = .ok (.ireturn, 1) := by decide +kernel
theorem dX4_passAll_0 : decode cX4_passAll 0 = .ok (.iconst 0, 1) := by decide +kernel
theorem dX4_passAll_1 : decode cX4_passAll 1 = .ok (.istore_n 2, 1) := by decide +kernel
theorem dX4_passAll_2 : decode cX4_passAll 2 = .ok (.iload_n 2, 1) := by decide +kernel
theorem dX4_passAll_3 : decode cX4_passAll 3 = .ok (.iload_n 1, 1) := by decide +kernel
theorem dX4_passAll_4 : decode cX4_passAll 4 = .ok (.if_icmp .ge 15, 3) := by decide +kernel
theorem dX4_passAll_7 : decode cX4_passAll 7 = .ok (.aload_n 0, 1) := by decide +kernel
theorem dX4_passAll_8 : decode cX4_passAll 8 = .ok (.iconst 0, 1) := by decide +kernel
theorem dX4_passAll_9 : decode cX4_passAll 9 = .ok (.invokevirtual 84, 3) := by decide +kernel
theorem dX4_passAll_12 : decode cX4_passAll 12 = .ok (.pop, 1) := by decide +kernel
theorem dX4_passAll_13 : decode cX4_passAll 13 = .ok (.iinc 2 1, 3) := by decide +kernel
theorem dX4_passAll_16 : decode cX4_passAll 16 = .ok (.goto (-14), 3) := by decide +kernel
theorem dX4_passAll_19 : decode cX4_passAll 19 = .ok (.return_, 1) := by decide +kernel
theorem dX4_drift_0 : decode cX4_drift 0 = .ok (.aload_n 0, 1) := by decide +kernel
theorem dX4_drift_1 : decode cX4_drift 1 = .ok (.getfield 31, 3) := by decide +kernel
theorem dX4_drift_4 : decode cX4_drift 4 = .ok (.ifCond .ne 4, 3) := by decide +kernel
theorem dX4_drift_7 : decode cX4_drift 7 = .ok (.return_, 1) := by decide +kernel
theorem dX4_drift_8 : decode cX4_drift 8 = .ok (.aload_n 0, 1) := by decide +kernel
theorem dX4_drift_9 : decode cX4_drift 9 = .ok (.aload_n 0, 1) := by decide +kernel
theorem dX4_drift_10 : decode cX4_drift 10 = .ok (.getfield 40, 3) := by decide +kernel
theorem dX4_drift_13 : decode cX4_drift 13 = .ok (.iconst 1, 1) := by decide +kernel
theorem dX4_drift_14 : decode cX4_drift 14 = .ok (.if_icmp .ne 12, 3) := by decide +kernel
theorem dX4_drift_17 : decode cX4_drift 17 = .ok (.aload_n 0, 1) := by decide +kernel
theorem dX4_drift_18 : decode cX4_drift 18 = .ok (.getfield 31, 3) := by decide +kernel
theorem dX4_drift_21 : decode cX4_drift 21 = .ok (.iconst 2, 1) := by decide +kernel
theorem dX4_drift_22 : decode cX4_drift 22 = .ok (.idiv, 1) := by decide +kernel
theorem dX4_drift_23 : decode cX4_drift 23 = .ok (.goto 17, 3) := by decide +kernel
theorem dX4_drift_26 : decode cX4_drift 26 = .ok (.bipush 60, 2) := by decide +kernel
theorem dX4_drift_28 : decode cX4_drift 28 = .ok (.aload_n 0, 1) := by decide +kernel
theorem dX4_drift_29 : decode cX4_drift 29 = .ok (.getfield 31, 3) := by decide +kernel
theorem dX4_drift_32 : decode cX4_drift 32 = .ok (.aload_n 0, 1) := by decide +kernel
theorem dX4_drift_33 : decode cX4_drift 33 = .ok (.getfield 25, 3) := by decide +kernel
theorem dX4_drift_36 : decode cX4_drift 36 = .ok (.iadd, 1) := by decide +kernel
theorem dX4_drift_37 : decode cX4_drift 37 = .ok (.invokestatic 70, 3) := by decide +kernel
theorem dX4_drift_40 : decode cX4_drift 40 = .ok (.putfield 31, 3) := by decide +kernel
theorem dX4_drift_43 : decode cX4_drift 43 = .ok (.aload_n 0, 1) := by decide +kernel
theorem dX4_drift_44 : decode cX4_drift 44 = .ok (.aload_n 0, 1) := by decide +kernel
theorem dX4_drift_45 : decode cX4_drift 45 = .ok (.getfield 34, 3) := by decide +kernel
theorem dX4_drift_48 : decode cX4_drift 48 = .ok (.aload_n 0, 1) := by decide +kernel
theorem dX4_drift_49 : decode cX4_drift 49 = .ok (.getfield 37, 3) := by decide +kernel
theorem dX4_drift_52 : decode cX4_drift 52 = .ok (.iadd, 1) := by decide +kernel
theorem dX4_drift_53 : decode cX4_drift 53 = .ok (.iconst 1, 1) := by decide +kernel
theorem dX4_drift_54 : decode cX4_drift 54 = .ok (.isub, 1) := by decide +kernel
theorem dX4_drift_55 : decode cX4_drift 55 = .ok (.bipush 10, 2) := by decide +kernel
theorem dX4_drift_57 : decode cX4_drift 57 = .ok (.invokestatic 87, 3) := by decide +kernel
theorem dX4_drift_60 : decode cX4_drift 60 = .ok (.putfield 34, 3) := by decide +kernel
theorem dX4_drift_63 : decode cX4_drift 63 = .ok (.return_, 1) := by decide +kernel
theorem dX4_gatherFor_0 : decode cX4_gatherFor 0 = .ok (.aload_n 0, 1) := by decide +kernel
theorem dX4_gatherFor_1 : decode cX4_gatherFor 1 = .ok (.getfield 15, 3) := by decide +kernel
theorem dX4_gatherFor_4 : decode cX4_gatherFor 4 = .ok (.iload_n 1, 1) := by decide +kernel
theorem dX4_gatherFor_5 : decode cX4_gatherFor 5 = .ok (.iaload, 1) := by decide +kernel
theorem dX4_gatherFor_6 : decode cX4_gatherFor 6 = .ok (.aload_n 0, 1) := by decide +kernel
theorem dX4_gatherFor_7 : decode cX4_gatherFor 7 = .ok (.getfield 34, 3) := by decide +kernel
theorem dX4_gatherFor_10 : decode cX4_gatherFor 10 = .ok (.if_icmp .eq 5, 3) := by decide +kernel
theorem dX4_gatherFor_13 : decode cX4_gatherFor 13 = .ok (.iconst 0, 1) := by decide +kernel
theorem dX4_gatherFor_14 : decode cX4_gatherFor 14 = .ok (.ireturn, 1) := by decide +kernel
theorem dX4_gatherFor_15 : decode cX4_gatherFor 15 = .ok (.aload_n 0, 1) := by decide +kernel
theorem dX4_gatherFor_16 : decode cX4_gatherFor 16 = .ok (.getfield 46, 3) := by decide +kernel
theorem dX4_gatherFor_19 : decode cX4_gatherFor 19 = .ok (.aload_n 0, 1) := by decide +kernel
theorem dX4_gatherFor_20 : decode cX4_gatherFor 20 = .ok (.getfield 9, 3) := by decide +kernel
theorem dX4_gatherFor_23 : decode cX4_gatherFor 23 = .ok (.iload_n 1, 1) := by decide +kernel
theorem dX4_gatherFor_24 : decode cX4_gatherFor 24 = .ok (.iaload, 1) := by decide +kernel
theorem dX4_gatherFor_25 : decode cX4_gatherFor 25 = .ok (.invokevirtual 50, 3) := by decide +kernel
theorem dX4_gatherFor_28 : decode cX4_gatherFor 28 = .ok (.astore_n 2, 1) := by decide +kernel
theorem dX4_gatherFor_29 : decode cX4_gatherFor 29 = .ok (.aload_n 2, 1) := by decide +kernel
theorem dX4_gatherFor_30 : decode cX4_gatherFor 30 = .ok (.aload_n 0, 1) := by decide +kernel
theorem dX4_gatherFor_31 : decode cX4_gatherFor 31 = .ok (.getfield 31, 3) := by decide +kernel
theorem dX4_gatherFor_34 : decode cX4_gatherFor 34 = .ok (.invokevirtual 59, 3) := by decide +kernel
theorem dX4_gatherFor_37 : decode cX4_gatherFor 37 = .ok (.istore_n 3, 1) := by decide +kernel
theorem dX4_gatherFor_38 : decode cX4_gatherFor 38 = .ok (.iload_n 3, 1) := by decide +kernel
theorem dX4_gatherFor_39 : decode cX4_gatherFor 39 = .ok (.ifCond .gt 5, 3) := by decide +kernel
theorem dX4_gatherFor_42 : decode cX4_gatherFor 42 = .ok (.iconst 0, 1) := by decide +kernel
theorem dX4_gatherFor_43 : decode cX4_gatherFor 43 = .ok (.ireturn, 1) := by decide +kernel
theorem dX4_gatherFor_44 : decode cX4_gatherFor 44 = .ok (.aload_n 0, 1) := by decide +kernel
theorem dX4_gatherFor_45 : decode cX4_gatherFor 45 = .ok (.getfield 18, 3) := by decide +kernel
theorem dX4_gatherFor_48 : decode cX4_gatherFor 48 = .ok (.iload_n 1, 1) := by decide +kernel
theorem dX4_gatherFor_49 : decode cX4_gatherFor 49 = .ok (.bipush 30, 2) := by decide +kernel
theorem dX4_gatherFor_51 : decode cX4_gatherFor 51 = .ok (.aload_n 0, 1) := by decide +kernel
theorem dX4_gatherFor_52 : decode cX4_gatherFor 52 = .ok (.getfield 18, 3) := by decide +kernel
theorem dX4_gatherFor_55 : decode cX4_gatherFor 55 = .ok (.iload_n 1, 1) := by decide +kernel
theorem dX4_gatherFor_56 : decode cX4_gatherFor 56 = .ok (.iaload, 1) := by decide +kernel
theorem dX4_gatherFor_57 : decode cX4_gatherFor 57 = .ok (.iload_n 3, 1) := by decide +kernel
theorem dX4_gatherFor_58 : decode cX4_gatherFor 58 = .ok (.iadd, 1) := by decide +kernel
theorem dX4_gatherFor_59 : decode cX4_gatherFor 59 = .ok (.invokestatic 70, 3) := by decide +kernel
theorem dX4_gatherFor_62 : decode cX4_gatherFor 62 = .ok (.iastore, 1) := by decide +kernel
theorem dX4_gatherFor_63 : decode cX4_gatherFor 63 = .ok (.aload_n 0, 1) := by decide +kernel
theorem dX4_gatherFor_64 : decode cX4_gatherFor 64 = .ok (.bipush 60, 2) := by decide +kernel
theorem dX4_gatherFor_66 : decode cX4_gatherFor 66 = .ok (.aload_n 0, 1) := by decide +kernel
theorem dX4_gatherFor_67 : decode cX4_gatherFor 67 = .ok (.getfield 31, 3) := by decide +kernel
theorem dX4_gatherFor_70 : decode cX4_gatherFor 70 = .ok (.iload_n 3, 1) := by decide +kernel
theorem dX4_gatherFor_71 : decode cX4_gatherFor 71 = .ok (.isub, 1) := by decide +kernel
theorem dX4_gatherFor_72 : decode cX4_gatherFor 72 = .ok (.aload_n 2, 1) := by decide +kernel
theorem dX4_gatherFor_73 : decode cX4_gatherFor 73 = .ok (.invokevirtual 90, 3) := by decide +kernel
theorem dX4_gatherFor_76 : decode cX4_gatherFor 76 = .ok (.iadd, 1) := by decide +kernel
theorem dX4_gatherFor_77 : decode cX4_gatherFor 77 = .ok (.invokestatic 70, 3) := by decide +kernel
theorem dX4_gatherFor_80 : decode cX4_gatherFor 80 = .ok (.putfield 31, 3) := by decide +kernel
theorem dX4_gatherFor_83 : decode cX4_gatherFor 83 = .ok (.iconst 1, 1) := by decide +kernel
theorem dX4_gatherFor_84 : decode cX4_gatherFor 84 = .ok (.ireturn, 1) := by decide +kernel
theorem dX4_loseInRain_0 : decode cX4_loseInRain 0 = .ok (.iconst 0, 1) := by decide +kernel
theorem dX4_loseInRain_1 : decode cX4_loseInRain 1 = .ok (.istore_n 1, 1) := by decide +kernel
theorem dX4_loseInRain_2 : decode cX4_loseInRain 2 = .ok (.iload_n 1, 1) := by decide +kernel
theorem dX4_loseInRain_3 : decode cX4_loseInRain 3 = .ok (.aload_n 0, 1) := by decide +kernel
theorem dX4_loseInRain_4 : decode cX4_loseInRain 4 = .ok (.getfield 28, 3) := by decide +kernel
theorem dX4_loseInRain_7 : decode cX4_loseInRain 7 = .ok (.if_icmp .ge 29, 3) := by decide +kernel
theorem dX4_loseInRain_10 : decode cX4_loseInRain 10 = .ok (.aload_n 0, 1) := by decide +kernel
theorem dX4_loseInRain_11 : decode cX4_loseInRain 11 = .ok (.getfield 18, 3) := by decide +kernel
theorem dX4_loseInRain_14 : decode cX4_loseInRain 14 = .ok (.iload_n 1, 1) := by decide +kernel
theorem dX4_loseInRain_15 : decode cX4_loseInRain 15 = .ok (.aload_n 0, 1) := by decide +kernel
theorem dX4_loseInRain_16 : decode cX4_loseInRain 16 = .ok (.iload_n 1, 1) := by decide +kernel
theorem dX4_loseInRain_17 : decode cX4_loseInRain 17 = .ok (.invokevirtual 56, 3) := by decide +kernel
theorem dX4_loseInRain_20 : decode cX4_loseInRain 20 = .ok (.aload_n 0, 1) := by decide +kernel
theorem dX4_loseInRain_21 : decode cX4_loseInRain 21 = .ok (.getfield 18, 3) := by decide +kernel
theorem dX4_loseInRain_24 : decode cX4_loseInRain 24 = .ok (.iload_n 1, 1) := by decide +kernel
theorem dX4_loseInRain_25 : decode cX4_loseInRain 25 = .ok (.iaload, 1) := by decide +kernel
theorem dX4_loseInRain_26 : decode cX4_loseInRain 26 = .ok (.invokevirtual 94, 3) := by decide +kernel
theorem dX4_loseInRain_29 : decode cX4_loseInRain 29 = .ok (.iastore, 1) := by decide +kernel
theorem dX4_loseInRain_30 : decode cX4_loseInRain 30 = .ok (.iinc 1 1, 3) := by decide +kernel
theorem dX4_loseInRain_33 : decode cX4_loseInRain 33 = .ok (.goto (-31), 3) := by decide +kernel
theorem dX4_loseInRain_36 : decode cX4_loseInRain 36 = .ok (.return_, 1) := by decide +kernel
theorem dX4_undergo_0 : decode cX4_undergo 0 = .ok (.iload_n 1, 1) := by decide +kernel
theorem dX4_undergo_1 : decode cX4_undergo 1 = .ok (.bipush 100, 2) := by decide +kernel
theorem dX4_undergo_3 : decode cX4_undergo 3 = .ok (.irem, 1) := by decide +kernel
theorem dX4_undergo_4 : decode cX4_undergo 4 = .ok (.istore_n 2, 1) := by decide +kernel
theorem dX4_undergo_5 : decode cX4_undergo 5 = .ok (.iload_n 1, 1) := by decide +kernel
theorem dX4_undergo_6 : decode cX4_undergo 6 = .ok (.bipush 100, 2) := by decide +kernel
theorem dX4_undergo_8 : decode cX4_undergo 8 = .ok (.idiv, 1) := by decide +kernel
theorem dX4_undergo_9 : decode cX4_undergo 9 = .ok (.tableswitch 61 0 3 #[31, 37, 45, 53], 31) := by decide +kernel
theorem dX4_undergo_40 : decode cX4_undergo 40 = .ok (.aload_n 0, 1) := by decide +kernel
theorem dX4_undergo_41 : decode cX4_undergo 41 = .ok (.iconst 0, 1) := by decide +kernel
theorem dX4_undergo_42 : decode cX4_undergo 42 = .ok (.invokevirtual 84, 3) := by decide +kernel
theorem dX4_undergo_45 : decode cX4_undergo 45 = .ok (.ireturn, 1) := by decide +kernel
theorem dX4_undergo_46 : decode cX4_undergo 46 = .ok (.aload_n 0, 1) := by decide +kernel
theorem dX4_undergo_47 : decode cX4_undergo 47 = .ok (.iload_n 2, 1) := by decide +kernel
theorem dX4_undergo_48 : decode cX4_undergo 48 = .ok (.invokevirtual 97, 3) := by decide +kernel
theorem dX4_undergo_51 : decode cX4_undergo 51 = .ok (.goto 31, 3) := by decide +kernel
theorem dX4_undergo_54 : decode cX4_undergo 54 = .ok (.aload_n 0, 1) := by decide +kernel
theorem dX4_undergo_55 : decode cX4_undergo 55 = .ok (.iload_n 2, 1) := by decide +kernel
theorem dX4_undergo_56 : decode cX4_undergo 56 = .ok (.putfield 37, 3) := by decide +kernel
theorem dX4_undergo_59 : decode cX4_undergo 59 = .ok (.goto 23, 3) := by decide +kernel
theorem dX4_undergo_62 : decode cX4_undergo 62 = .ok (.aload_n 0, 1) := by decide +kernel
theorem dX4_undergo_63 : decode cX4_undergo 63 = .ok (.iload_n 2, 1) := by decide +kernel
theorem dX4_undergo_64 : decode cX4_undergo 64 = .ok (.putfield 40, 3) := by decide +kernel
theorem dX4_undergo_67 : decode cX4_undergo 67 = .ok (.goto 15, 3) := by decide +kernel
theorem dX4_undergo_70 : decode cX4_undergo 70 = .ok (.aload_n 0, 1) := by decide +kernel
theorem dX4_undergo_71 : decode cX4_undergo 71 = .ok (.iload_n 2, 1) := by decide +kernel
theorem dX4_undergo_72 : decode cX4_undergo 72 = .ok (.bipush 10, 2) := by decide +kernel
theorem dX4_undergo_74 : decode cX4_undergo 74 = .ok (.idiv, 1) := by decide +kernel
theorem dX4_undergo_75 : decode cX4_undergo 75 = .ok (.iload_n 2, 1) := by decide +kernel
theorem dX4_undergo_76 : decode cX4_undergo 76 = .ok (.bipush 10, 2) := by decide +kernel
theorem dX4_undergo_78 : decode cX4_undergo 78 = .ok (.irem, 1) := by decide +kernel
theorem dX4_undergo_79 : decode cX4_undergo 79 = .ok (.invokevirtual 101, 3) := by decide +kernel
theorem dX4_undergo_82 : decode cX4_undergo 82 = .ok (.iconst 0, 1) := by decide +kernel
theorem dX4_undergo_83 : decode cX4_undergo 83 = .ok (.ireturn, 1) := by decide +kernel
theorem dX4_moveTo_0 : decode cX4_moveTo 0 = .ok (.aload_n 0, 1) := by decide +kernel
theorem dX4_moveTo_1 : decode cX4_moveTo 1 = .ok (.iload_n 1, 1) := by decide +kernel
theorem dX4_moveTo_2 : decode cX4_moveTo 2 = .ok (.invokevirtual 105, 3) := by decide +kernel
theorem dX4_moveTo_5 : decode cX4_moveTo 5 = .ok (.ifCond .eq 10, 3) := by decide +kernel
theorem dX4_moveTo_8 : decode cX4_moveTo 8 = .ok (.aload_n 0, 1) := by decide +kernel
theorem dX4_moveTo_9 : decode cX4_moveTo 9 = .ok (.getfield 15, 3) := by decide +kernel
theorem dX4_moveTo_12 : decode cX4_moveTo 12 = .ok (.iload_n 1, 1) := by decide +kernel
theorem dX4_moveTo_13 : decode cX4_moveTo 13 = .ok (.iload_n 2, 1) := by decide +kernel
theorem dX4_moveTo_14 : decode cX4_moveTo 14 = .ok (.iastore, 1) := by decide +kernel
theorem dX4_moveTo_15 : decode cX4_moveTo 15 = .ok (.return_, 1) := by decide +kernel
theorem dX5_init_0 : decode cX5_init 0 = .ok (.aload_n 0, 1) := by decide +kernel
theorem dX5_init_1 : decode cX5_init 1 = .ok (.invokespecial 3, 3) := by decide +kernel
theorem dX5_init_4 : decode cX5_init 4 = .ok (.return_, 1) := by decide +kernel
theorem dX5_partOf_0 : decode cX5_partOf 0 = .ok (.iload_n 1, 1) := by decide +kernel
theorem dX5_partOf_1 : decode cX5_partOf 1 = .ok (.bipush 20, 2) := by decide +kernel
theorem dX5_partOf_3 : decode cX5_partOf 3 = .ok (.if_icmp .lt 7, 3) := by decide +kernel
theorem dX5_partOf_6 : decode cX5_partOf 6 = .ok (.iload_n 1, 1) := by decide +kernel
theorem dX5_partOf_7 : decode cX5_partOf 7 = .ok (.goto 8, 3) := by decide +kernel
theorem dX5_partOf_10 : decode cX5_partOf 10 = .ok (.aload_n 0, 1) := by decide +kernel
theorem dX5_partOf_11 : decode cX5_partOf 11 = .ok (.iload_n 1, 1) := by decide +kernel
theorem dX5_partOf_12 : decode cX5_partOf 12 = .ok (.invokespecial 9, 3) := by decide +kernel
theorem dX5_partOf_15 : decode cX5_partOf 15 = .ok (.ireturn, 1) := by decide +kernel
theorem dX6_init_0 : decode cX6_init 0 = .ok (.aload_n 0, 1) := by decide +kernel
theorem dX6_init_1 : decode cX6_init 1 = .ok (.invokespecial 1, 3) := by decide +kernel
theorem dX6_init_4 : decode cX6_init 4 = .ok (.aload_n 0, 1) := by decide +kernel
theorem dX6_init_5 : decode cX6_init 5 = .ok (.new 7, 3) := by decide +kernel
theorem dX6_init_8 : decode cX6_init 8 = .ok (.dup, 1) := by decide +kernel
theorem dX6_init_9 : decode cX6_init 9 = .ok (.invokespecial 9, 3) := by decide +kernel
theorem dX6_init_12 : decode cX6_init 12 = .ok (.putfield 10, 3) := by decide +kernel
theorem dX6_init_15 : decode cX6_init 15 = .ok (.aload_n 0, 1) := by decide +kernel
theorem dX6_init_16 : decode cX6_init 16 = .ok (.new 16, 3) := by decide +kernel
theorem dX6_init_19 : decode cX6_init 19 = .ok (.dup, 1) := by decide +kernel
theorem dX6_init_20 : decode cX6_init 20 = .ok (.invokespecial 18, 3) := by decide +kernel
theorem dX6_init_23 : decode cX6_init 23 = .ok (.putfield 19, 3) := by decide +kernel
theorem dX6_init_26 : decode cX6_init 26 = .ok (.aload_n 0, 1) := by decide +kernel
theorem dX6_init_27 : decode cX6_init 27 = .ok (.new 23, 3) := by decide +kernel
theorem dX6_init_30 : decode cX6_init 30 = .ok (.dup, 1) := by decide +kernel
theorem dX6_init_31 : decode cX6_init 31 = .ok (.invokespecial 25, 3) := by decide +kernel
theorem dX6_init_34 : decode cX6_init 34 = .ok (.putfield 26, 3) := by decide +kernel
theorem dX6_init_37 : decode cX6_init 37 = .ok (.aload_n 0, 1) := by decide +kernel
theorem dX6_init_38 : decode cX6_init 38 = .ok (.new 30, 3) := by decide +kernel
theorem dX6_init_41 : decode cX6_init 41 = .ok (.dup, 1) := by decide +kernel
theorem dX6_init_42 : decode cX6_init 42 = .ok (.invokespecial 32, 3) := by decide +kernel
theorem dX6_init_45 : decode cX6_init 45 = .ok (.putfield 33, 3) := by decide +kernel
theorem dX6_init_48 : decode cX6_init 48 = .ok (.aload_n 0, 1) := by decide +kernel
theorem dX6_init_49 : decode cX6_init 49 = .ok (.new 37, 3) := by decide +kernel
theorem dX6_init_52 : decode cX6_init 52 = .ok (.dup, 1) := by decide +kernel
theorem dX6_init_53 : decode cX6_init 53 = .ok (.invokespecial 39, 3) := by decide +kernel
theorem dX6_init_56 : decode cX6_init 56 = .ok (.putfield 40, 3) := by decide +kernel
theorem dX6_init_59 : decode cX6_init 59 = .ok (.aload_n 0, 1) := by decide +kernel
theorem dX6_init_60 : decode cX6_init 60 = .ok (.new 44, 3) := by decide +kernel
theorem dX6_init_63 : decode cX6_init 63 = .ok (.dup, 1) := by decide +kernel
theorem dX6_init_64 : decode cX6_init 64 = .ok (.invokespecial 46, 3) := by decide +kernel
theorem dX6_init_67 : decode cX6_init 67 = .ok (.putfield 47, 3) := by decide +kernel
theorem dX6_init_70 : decode cX6_init 70 = .ok (.return_, 1) := by decide +kernel
theorem dX6_ofNumber_0 : decode cX6_ofNumber 0 = .ok (.iload_n 1, 1) := by decide +kernel
theorem dX6_ofNumber_1 : decode cX6_ofNumber 1 = .ok (.tableswitch 60 1 5 #[35, 40, 45, 50, 55], 35) := by decide +kernel
theorem dX6_ofNumber_36 : decode cX6_ofNumber 36 = .ok (.aload_n 0, 1) := by decide +kernel
theorem dX6_ofNumber_37 : decode cX6_ofNumber 37 = .ok (.getfield 19, 3) := by decide +kernel
theorem dX6_ofNumber_40 : decode cX6_ofNumber 40 = .ok (.areturn, 1) := by decide +kernel
theorem dX6_ofNumber_41 : decode cX6_ofNumber 41 = .ok (.aload_n 0, 1) := by decide +kernel
theorem dX6_ofNumber_42 : decode cX6_ofNumber 42 = .ok (.getfield 26, 3) := by decide +kernel
theorem dX6_ofNumber_45 : decode cX6_ofNumber 45 = .ok (.areturn, 1) := by decide +kernel
theorem dX6_ofNumber_46 : decode cX6_ofNumber 46 = .ok (.aload_n 0, 1) := by decide +kernel
theorem dX6_ofNumber_47 : decode cX6_ofNumber 47 = .ok (.getfield 33, 3) := by decide +kernel
theorem dX6_ofNumber_50 : decode cX6_ofNumber 50 = .ok (.areturn, 1) := by decide +kernel
theorem dX6_ofNumber_51 : decode cX6_ofNumber 51 = .ok (.aload_n 0, 1) := by decide +kernel
theorem dX6_ofNumber_52 : decode cX6_ofNumber 52 = .ok (.getfield 40, 3) := by decide +kernel
theorem dX6_ofNumber_55 : decode cX6_ofNumber 55 = .ok (.areturn, 1) := by decide +kernel
theorem dX6_ofNumber_56 : decode cX6_ofNumber 56 = .ok (.aload_n 0, 1) := by decide +kernel
theorem dX6_ofNumber_57 : decode cX6_ofNumber 57 = .ok (.getfield 47, 3) := by decide +kernel
theorem dX6_ofNumber_60 : decode cX6_ofNumber 60 = .ok (.areturn, 1) := by decide +kernel
theorem dX6_ofNumber_61 : decode cX6_ofNumber 61 = .ok (.aload_n 0, 1) := by decide +kernel
theorem dX6_ofNumber_62 : decode cX6_ofNumber 62 = .ok (.getfield 10, 3) := by decide +kernel
theorem dX6_ofNumber_65 : decode cX6_ofNumber 65 = .ok (.areturn, 1) := by decide +kernel
theorem dX7_init_0 : decode cX7_init 0 = .ok (.aload_n 0, 1) := by decide +kernel
theorem dX7_init_1 : decode cX7_init 1 = .ok (.invokespecial 1, 3) := by decide +kernel
theorem dX7_init_4 : decode cX7_init 4 = .ok (.return_, 1) := by decide +kernel
theorem dX7_partOf_0 : decode cX7_partOf 0 = .ok (.iconst 2, 1) := by decide +kernel
theorem dX7_partOf_1 : decode cX7_partOf 1 = .ok (.iload_n 1, 1) := by decide +kernel
theorem dX7_partOf_2 : decode cX7_partOf 2 = .ok (.invokestatic 7, 3) := by decide +kernel
theorem dX7_partOf_5 : decode cX7_partOf 5 = .ok (.ireturn, 1) := by decide +kernel
theorem dX7_leftByRain_0 : decode cX7_leftByRain 0 = .ok (.iload_n 1, 1) := by decide +kernel
theorem dX7_leftByRain_1 : decode cX7_leftByRain 1 = .ok (.iconst 2, 1) := by decide +kernel
theorem dX7_leftByRain_2 : decode cX7_leftByRain 2 = .ok (.idiv, 1) := by decide +kernel
theorem dX7_leftByRain_3 : decode cX7_leftByRain 3 = .ok (.ireturn, 1) := by decide +kernel
theorem dX7_breath_0 : decode cX7_breath 0 = .ok (.iconst 0, 1) := by decide +kernel
theorem dX7_breath_1 : decode cX7_breath 1 = .ok (.ireturn, 1) := by decide +kernel
theorem dX8_init_0 : decode cX8_init 0 = .ok (.aload_n 0, 1) := by decide +kernel
theorem dX8_init_1 : decode cX8_init 1 = .ok (.invokespecial 1, 3) := by decide +kernel
theorem dX8_init_4 : decode cX8_init 4 = .ok (.return_, 1) := by decide +kernel
theorem dX8_partOf_0 : decode cX8_partOf 0 = .ok (.iload_n 1, 1) := by decide +kernel
theorem dX8_partOf_1 : decode cX8_partOf 1 = .ok (.iconst 2, 1) := by decide +kernel
theorem dX8_partOf_2 : decode cX8_partOf 2 = .ok (.idiv, 1) := by decide +kernel
theorem dX8_partOf_3 : decode cX8_partOf 3 = .ok (.ireturn, 1) := by decide +kernel
theorem dX9_init_0 : decode cX9_init 0 = .ok (.aload_n 0, 1) := by decide +kernel
theorem dX9_init_1 : decode cX9_init 1 = .ok (.invokespecial 3, 3) := by decide +kernel
theorem dX9_init_4 : decode cX9_init 4 = .ok (.aload_n 0, 1) := by decide +kernel
theorem dX9_init_5 : decode cX9_init 5 = .ok (.bipush 6, 2) := by decide +kernel
theorem dX9_init_7 : decode cX9_init 7 = .ok (.bipush 40, 2) := by decide +kernel
theorem dX9_init_9 : decode cX9_init 9 = .ok (.multianewarray 9 2, 4) := by decide +kernel
theorem dX9_init_13 : decode cX9_init 13 = .ok (.putfield 11, 3) := by decide +kernel
theorem dX9_init_16 : decode cX9_init 16 = .ok (.aload_n 0, 1) := by decide +kernel
theorem dX9_init_17 : decode cX9_init 17 = .ok (.bipush 6, 2) := by decide +kernel
theorem dX9_init_19 : decode cX9_init 19 = .ok (.newarray .int, 2) := by decide +kernel
theorem dX9_init_21 : decode cX9_init 21 = .ok (.putfield 14, 3) := by decide +kernel
theorem dX9_init_24 : decode cX9_init 24 = .ok (.aload_n 0, 1) := by decide +kernel
theorem dX9_init_25 : decode cX9_init 25 = .ok (.iconst 4, 1) := by decide +kernel
theorem dX9_init_26 : decode cX9_init 26 = .ok (.bipush 60, 2) := by decide +kernel
theorem dX9_init_28 : decode cX9_init 28 = .ok (.multianewarray 18 2, 4) := by decide +kernel
theorem dX9_init_32 : decode cX9_init 32 = .ok (.putfield 20, 3) := by decide +kernel
theorem dX9_init_35 : decode cX9_init 35 = .ok (.aload_n 0, 1) := by decide +kernel
theorem dX9_init_36 : decode cX9_init 36 = .ok (.iconst 4, 1) := by decide +kernel
theorem dX9_init_37 : decode cX9_init 37 = .ok (.newarray .int, 2) := by decide +kernel
theorem dX9_init_39 : decode cX9_init 39 = .ok (.putfield 23, 3) := by decide +kernel
theorem dX9_init_42 : decode cX9_init 42 = .ok (.aload_n 0, 1) := by decide +kernel
theorem dX9_init_43 : decode cX9_init 43 = .ok (.new 26, 3) := by decide +kernel
theorem dX9_init_46 : decode cX9_init 46 = .ok (.dup, 1) := by decide +kernel
theorem dX9_init_47 : decode cX9_init 47 = .ok (.iconst 0, 1) := by decide +kernel
theorem dX9_init_48 : decode cX9_init 48 = .ok (.invokespecial 28, 3) := by decide +kernel
theorem dX9_init_51 : decode cX9_init 51 = .ok (.putfield 31, 3) := by decide +kernel
theorem dX9_init_54 : decode cX9_init 54 = .ok (.aload_n 0, 1) := by decide +kernel
theorem dX9_init_55 : decode cX9_init 55 = .ok (.iconst 3, 1) := by decide +kernel
theorem dX9_init_56 : decode cX9_init 56 = .ok (.anewarray 26, 3) := by decide +kernel
theorem dX9_init_59 : decode cX9_init 59 = .ok (.putfield 35, 3) := by decide +kernel
theorem dX9_init_62 : decode cX9_init 62 = .ok (.aload_n 0, 1) := by decide +kernel
theorem dX9_init_63 : decode cX9_init 63 = .ok (.bipush 6, 2) := by decide +kernel
theorem dX9_init_65 : decode cX9_init 65 = .ok (.bipush 31, 2) := by decide +kernel
theorem dX9_init_67 : decode cX9_init 67 = .ok (.multianewarray 9 2, 4) := by decide +kernel
theorem dX9_init_71 : decode cX9_init 71 = .ok (.putfield 39, 3) := by decide +kernel
theorem dX9_init_74 : decode cX9_init 74 = .ok (.aload_n 0, 1) := by decide +kernel
theorem dX9_init_75 : decode cX9_init 75 = .ok (.bipush 6, 2) := by decide +kernel
theorem dX9_init_77 : decode cX9_init 77 = .ok (.newarray .int, 2) := by decide +kernel
theorem dX9_init_79 : decode cX9_init 79 = .ok (.putfield 42, 3) := by decide +kernel
theorem dX9_init_82 : decode cX9_init 82 = .ok (.aload_n 0, 1) := by decide +kernel
theorem dX9_init_83 : decode cX9_init 83 = .ok (.iconst 0, 1) := by decide +kernel
theorem dX9_init_84 : decode cX9_init 84 = .ok (.putfield 45, 3) := by decide +kernel
theorem dX9_init_87 : decode cX9_init 87 = .ok (.aload_n 0, 1) := by decide +kernel
theorem dX9_init_88 : decode cX9_init 88 = .ok (.iconst 0, 1) := by decide +kernel
theorem dX9_init_89 : decode cX9_init 89 = .ok (.putfield 49, 3) := by decide +kernel
theorem dX9_init_92 : decode cX9_init 92 = .ok (.aload_n 0, 1) := by decide +kernel
theorem dX9_init_93 : decode cX9_init 93 = .ok (.lconst 0, 1) := by decide +kernel
theorem dX9_init_94 : decode cX9_init 94 = .ok (.putfield 52, 3) := by decide +kernel
theorem dX9_init_97 : decode cX9_init 97 = .ok (.aload_n 0, 1) := by decide +kernel
theorem dX9_init_98 : decode cX9_init 98 = .ok (.lconst 1, 1) := by decide +kernel
theorem dX9_init_99 : decode cX9_init 99 = .ok (.putfield 56, 3) := by decide +kernel
theorem dX9_init_102 : decode cX9_init 102 = .ok (.new 59, 3) := by decide +kernel
theorem dX9_init_105 : decode cX9_init 105 = .ok (.dup, 1) := by decide +kernel
theorem dX9_init_106 : decode cX9_init 106 = .ok (.invokespecial 61, 3) := by decide +kernel
theorem dX9_init_109 : decode cX9_init 109 = .ok (.astore_n 1, 1) := by decide +kernel
theorem dX9_init_110 : decode cX9_init 110 = .ok (.aload_n 0, 1) := by decide +kernel
theorem dX9_init_111 : decode cX9_init 111 = .ok (.new 62, 3) := by decide +kernel
theorem dX9_init_114 : decode cX9_init 114 = .ok (.dup, 1) := by decide +kernel
theorem dX9_init_115 : decode cX9_init 115 = .ok (.aload_n 1, 1) := by decide +kernel
theorem dX9_init_116 : decode cX9_init 116 = .ok (.invokespecial 64, 3) := by decide +kernel
theorem dX9_init_119 : decode cX9_init 119 = .ok (.putfield 67, 3) := by decide +kernel
theorem dX9_init_122 : decode cX9_init 122 = .ok (.aload_n 0, 1) := by decide +kernel
theorem dX9_init_123 : decode cX9_init 123 = .ok (.new 62, 3) := by decide +kernel
theorem dX9_init_126 : decode cX9_init 126 = .ok (.dup, 1) := by decide +kernel
theorem dX9_init_127 : decode cX9_init 127 = .ok (.aload_n 1, 1) := by decide +kernel
theorem dX9_init_128 : decode cX9_init 128 = .ok (.invokespecial 64, 3) := by decide +kernel
theorem dX9_init_131 : decode cX9_init 131 = .ok (.putfield 71, 3) := by decide +kernel
theorem dX9_init_134 : decode cX9_init 134 = .ok (.aload_n 0, 1) := by decide +kernel
theorem dX9_init_135 : decode cX9_init 135 = .ok (.new 62, 3) := by decide +kernel
theorem dX9_init_138 : decode cX9_init 138 = .ok (.dup, 1) := by decide +kernel
theorem dX9_init_139 : decode cX9_init 139 = .ok (.aload_n 1, 1) := by decide +kernel
theorem dX9_init_140 : decode cX9_init 140 = .ok (.invokespecial 64, 3) := by decide +kernel
theorem dX9_init_143 : decode cX9_init 143 = .ok (.putfield 74, 3) := by decide +kernel
theorem dX9_init_146 : decode cX9_init 146 = .ok (.iconst 0, 1) := by decide +kernel
theorem dX9_init_147 : decode cX9_init 147 = .ok (.istore_n 2, 1) := by decide +kernel
theorem dX9_init_148 : decode cX9_init 148 = .ok (.iload_n 2, 1) := by decide +kernel
theorem dX9_init_149 : decode cX9_init 149 = .ok (.iconst 3, 1) := by decide +kernel
theorem dX9_init_150 : decode cX9_init 150 = .ok (.if_icmp .ge 23, 3) := by decide +kernel
theorem dX9_init_153 : decode cX9_init 153 = .ok (.aload_n 0, 1) := by decide +kernel
theorem dX9_init_154 : decode cX9_init 154 = .ok (.getfield 35, 3) := by decide +kernel
theorem dX9_init_157 : decode cX9_init 157 = .ok (.iload_n 2, 1) := by decide +kernel
theorem dX9_init_158 : decode cX9_init 158 = .ok (.new 26, 3) := by decide +kernel
theorem dX9_init_161 : decode cX9_init 161 = .ok (.dup, 1) := by decide +kernel
theorem dX9_init_162 : decode cX9_init 162 = .ok (.iconst (-1), 1) := by decide +kernel
theorem dX9_init_163 : decode cX9_init 163 = .ok (.invokespecial 28, 3) := by decide +kernel
theorem dX9_init_166 : decode cX9_init 166 = .ok (.aastore, 1) := by decide +kernel
theorem dX9_init_167 : decode cX9_init 167 = .ok (.iinc 2 1, 3) := by decide +kernel
theorem dX9_init_170 : decode cX9_init 170 = .ok (.goto (-22), 3) := by decide +kernel
theorem dX9_init_173 : decode cX9_init 173 = .ok (.aload_n 0, 1) := by decide +kernel
theorem dX9_init_174 : decode cX9_init 174 = .ok (.getfield 14, 3) := by decide +kernel
theorem dX9_init_177 : decode cX9_init 177 = .ok (.iconst (-1), 1) := by decide +kernel
theorem dX9_init_178 : decode cX9_init 178 = .ok (.invokestatic 77, 3) := by decide +kernel
theorem dX9_init_181 : decode cX9_init 181 = .ok (.aload_n 0, 1) := by decide +kernel
theorem dX9_init_182 : decode cX9_init 182 = .ok (.getfield 23, 3) := by decide +kernel
theorem dX9_init_185 : decode cX9_init 185 = .ok (.iconst (-1), 1) := by decide +kernel
theorem dX9_init_186 : decode cX9_init 186 = .ok (.invokestatic 77, 3) := by decide +kernel
theorem dX9_init_189 : decode cX9_init 189 = .ok (.return_, 1) := by decide +kernel
theorem dX9_row_0 : decode cX9_row 0 = .ok (.iload_n 1, 1) := by decide +kernel
theorem dX9_row_1 : decode cX9_row 1 = .ok (.invokestatic 83, 3) := by decide +kernel
theorem dX9_row_4 : decode cX9_row 4 = .ok (.ifCond .eq 9, 3) := by decide +kernel
theorem dX9_row_7 : decode cX9_row 7 = .ok (.iload_n 2, 1) := by decide +kernel
theorem dX9_row_8 : decode cX9_row 8 = .ok (.bipush 40, 2) := by decide +kernel
theorem dX9_row_10 : decode cX9_row 10 = .ok (.if_icmp .le 5, 3) := by decide +kernel
theorem dX9_row_13 : decode cX9_row 13 = .ok (.iconst (-1), 1) := by decide +kernel
theorem dX9_row_14 : decode cX9_row 14 = .ok (.ireturn, 1) := by decide +kernel
theorem dX9_row_15 : decode cX9_row 15 = .ok (.iload_n 2, 1) := by decide +kernel
theorem dX9_row_16 : decode cX9_row 16 = .ok (.ifCond .ge 9, 3) := by decide +kernel
theorem dX9_row_19 : decode cX9_row 19 = .ok (.aload_n 0, 1) := by decide +kernel
theorem dX9_row_20 : decode cX9_row 20 = .ok (.iconst 5, 1) := by decide +kernel
theorem dX9_row_21 : decode cX9_row 21 = .ok (.invokevirtual 87, 3) := by decide +kernel
theorem dX9_row_24 : decode cX9_row 24 = .ok (.ireturn, 1) := by decide +kernel
theorem dX9_row_25 : decode cX9_row 25 = .ok (.aload_n 0, 1) := by decide +kernel
theorem dX9_row_26 : decode cX9_row 26 = .ok (.getfield 11, 3) := by decide +kernel
theorem dX9_row_29 : decode cX9_row 29 = .ok (.iload_n 1, 1) := by decide +kernel
theorem dX9_row_30 : decode cX9_row 30 = .ok (.aaload, 1) := by decide +kernel
theorem dX9_row_31 : decode cX9_row 31 = .ok (.iconst 0, 1) := by decide +kernel
theorem dX9_row_32 : decode cX9_row 32 = .ok (.invokestatic 77, 3) := by decide +kernel
theorem dX9_row_35 : decode cX9_row 35 = .ok (.aload_n 0, 1) := by decide +kernel
theorem dX9_row_36 : decode cX9_row 36 = .ok (.getfield 14, 3) := by decide +kernel
theorem dX9_row_39 : decode cX9_row 39 = .ok (.iload_n 1, 1) := by decide +kernel
theorem dX9_row_40 : decode cX9_row 40 = .ok (.iload_n 2, 1) := by decide +kernel
theorem dX9_row_41 : decode cX9_row 41 = .ok (.iastore, 1) := by decide +kernel
theorem dX9_row_42 : decode cX9_row 42 = .ok (.iload_n 2, 1) := by decide +kernel
theorem dX9_row_43 : decode cX9_row 43 = .ok (.ireturn, 1) := by decide +kernel
theorem dX9_lay_0 : decode cX9_lay 0 = .ok (.aload_n 0, 1) := by decide +kernel
theorem dX9_lay_1 : decode cX9_lay 1 = .ok (.iload_n 1, 1) := by decide +kernel
theorem dX9_lay_2 : decode cX9_lay 2 = .ok (.iload_n 2, 1) := by decide +kernel
theorem dX9_lay_3 : decode cX9_lay 3 = .ok (.invokevirtual 91, 3) := by decide +kernel
theorem dX9_lay_6 : decode cX9_lay 6 = .ok (.istore 4, 2) := by decide +kernel
theorem dX9_lay_8 : decode cX9_lay 8 = .ok (.iload 4, 2) := by decide +kernel
theorem dX9_lay_10 : decode cX9_lay 10 = .ok (.ifCond .eq 6, 3) := by decide +kernel
theorem dX9_lay_13 : decode cX9_lay 13 = .ok (.iload 4, 2) := by decide +kernel
theorem dX9_lay_15 : decode cX9_lay 15 = .ok (.ireturn, 1) := by decide +kernel
theorem dX9_lay_16 : decode cX9_lay 16 = .ok (.aload_n 0, 1) := by decide +kernel
theorem dX9_lay_17 : decode cX9_lay 17 = .ok (.aload_n 0, 1) := by decide +kernel
theorem dX9_lay_18 : decode cX9_lay 18 = .ok (.getfield 11, 3) := by decide +kernel
theorem dX9_lay_21 : decode cX9_lay 21 = .ok (.iload_n 1, 1) := by decide +kernel
theorem dX9_lay_22 : decode cX9_lay 22 = .ok (.aaload, 1) := by decide +kernel
theorem dX9_lay_23 : decode cX9_lay 23 = .ok (.iload_n 2, 1) := by decide +kernel
theorem dX9_lay_24 : decode cX9_lay 24 = .ok (.iaload, 1) := by decide +kernel
theorem dX9_lay_25 : decode cX9_lay 25 = .ok (.putfield 49, 3) := by decide +kernel
theorem dX9_lay_28 : decode cX9_lay 28 = .ok (.aload_n 0, 1) := by decide +kernel
theorem dX9_lay_29 : decode cX9_lay 29 = .ok (.getfield 11, 3) := by decide +kernel
theorem dX9_lay_32 : decode cX9_lay 32 = .ok (.iload_n 1, 1) := by decide +kernel
theorem dX9_lay_33 : decode cX9_lay 33 = .ok (.aaload, 1) := by decide +kernel
theorem dX9_lay_34 : decode cX9_lay 34 = .ok (.iload_n 2, 1) := by decide +kernel
theorem dX9_lay_35 : decode cX9_lay 35 = .ok (.iload_n 3, 1) := by decide +kernel
theorem dX9_lay_36 : decode cX9_lay 36 = .ok (.iastore, 1) := by decide +kernel
theorem dX9_lay_37 : decode cX9_lay 37 = .ok (.iconst 1, 1) := by decide +kernel
theorem dX9_lay_38 : decode cX9_lay 38 = .ok (.ireturn, 1) := by decide +kernel
theorem dX9_at_0 : decode cX9_at 0 = .ok (.aload_n 0, 1) := by decide +kernel
theorem dX9_at_1 : decode cX9_at 1 = .ok (.iload_n 1, 1) := by decide +kernel
theorem dX9_at_2 : decode cX9_at 2 = .ok (.iload_n 2, 1) := by decide +kernel
theorem dX9_at_3 : decode cX9_at 3 = .ok (.invokevirtual 91, 3) := by decide +kernel
theorem dX9_at_6 : decode cX9_at 6 = .ok (.istore_n 3, 1) := by decide +kernel
theorem dX9_at_7 : decode cX9_at 7 = .ok (.iload_n 3, 1) := by decide +kernel
theorem dX9_at_8 : decode cX9_at 8 = .ok (.ifCond .eq 5, 3) := by decide +kernel
theorem dX9_at_11 : decode cX9_at 11 = .ok (.iload_n 3, 1) := by decide +kernel
theorem dX9_at_12 : decode cX9_at 12 = .ok (.ireturn, 1) := by decide +kernel
theorem dX9_at_13 : decode cX9_at 13 = .ok (.aload_n 0, 1) := by decide +kernel
theorem dX9_at_14 : decode cX9_at 14 = .ok (.aload_n 0, 1) := by decide +kernel
theorem dX9_at_15 : decode cX9_at 15 = .ok (.getfield 11, 3) := by decide +kernel
theorem dX9_at_18 : decode cX9_at 18 = .ok (.iload_n 1, 1) := by decide +kernel
theorem dX9_at_19 : decode cX9_at 19 = .ok (.aaload, 1) := by decide +kernel
theorem dX9_at_20 : decode cX9_at 20 = .ok (.iload_n 2, 1) := by decide +kernel
theorem dX9_at_21 : decode cX9_at 21 = .ok (.iaload, 1) := by decide +kernel
theorem dX9_at_22 : decode cX9_at 22 = .ok (.putfield 49, 3) := by decide +kernel
theorem dX9_at_25 : decode cX9_at 25 = .ok (.iconst 1, 1) := by decide +kernel
theorem dX9_at_26 : decode cX9_at 26 = .ok (.ireturn, 1) := by decide +kernel
theorem dX9_tear_0 : decode cX9_tear 0 = .ok (.aload_n 0, 1) := by decide +kernel
theorem dX9_tear_1 : decode cX9_tear 1 = .ok (.iload_n 1, 1) := by decide +kernel
theorem dX9_tear_2 : decode cX9_tear 2 = .ok (.invokevirtual 95, 3) := by decide +kernel
theorem dX9_tear_5 : decode cX9_tear 5 = .ok (.istore_n 2, 1) := by decide +kernel
theorem dX9_tear_6 : decode cX9_tear 6 = .ok (.iload_n 2, 1) := by decide +kernel
theorem dX9_tear_7 : decode cX9_tear 7 = .ok (.ifCond .eq 5, 3) := by decide +kernel
theorem dX9_tear_10 : decode cX9_tear 10 = .ok (.iload_n 2, 1) := by decide +kernel
theorem dX9_tear_11 : decode cX9_tear 11 = .ok (.ireturn, 1) := by decide +kernel
theorem dX9_tear_12 : decode cX9_tear 12 = .ok (.aload_n 0, 1) := by decide +kernel
theorem dX9_tear_13 : decode cX9_tear 13 = .ok (.getfield 14, 3) := by decide +kernel
theorem dX9_tear_16 : decode cX9_tear 16 = .ok (.iload_n 1, 1) := by decide +kernel
theorem dX9_tear_17 : decode cX9_tear 17 = .ok (.iconst (-1), 1) := by decide +kernel
theorem dX9_tear_18 : decode cX9_tear 18 = .ok (.iastore, 1) := by decide +kernel
theorem dX9_tear_19 : decode cX9_tear 19 = .ok (.iconst 1, 1) := by decide +kernel
theorem dX9_tear_20 : decode cX9_tear 20 = .ok (.ireturn, 1) := by decide +kernel
theorem dX9_copy_0 : decode cX9_copy 0 = .ok (.iload_n 1, 1) := by decide +kernel
theorem dX9_copy_1 : decode cX9_copy 1 = .ok (.invokestatic 83, 3) := by decide +kernel
theorem dX9_copy_4 : decode cX9_copy 4 = .ok (.ifCond .eq 10, 3) := by decide +kernel
theorem dX9_copy_7 : decode cX9_copy 7 = .ok (.iload_n 3, 1) := by decide +kernel
theorem dX9_copy_8 : decode cX9_copy 8 = .ok (.invokestatic 83, 3) := by decide +kernel
theorem dX9_copy_11 : decode cX9_copy 11 = .ok (.ifCond .ne 5, 3) := by decide +kernel
theorem dX9_copy_14 : decode cX9_copy 14 = .ok (.iconst (-1), 1) := by decide +kernel
theorem dX9_copy_15 : decode cX9_copy 15 = .ok (.ireturn, 1) := by decide +kernel
theorem dX9_copy_16 : decode cX9_copy 16 = .ok (.iload 5, 2) := by decide +kernel
theorem dX9_copy_18 : decode cX9_copy 18 = .ok (.ifCond .ge 9, 3) := by decide +kernel
theorem dX9_copy_21 : decode cX9_copy 21 = .ok (.aload_n 0, 1) := by decide +kernel
theorem dX9_copy_22 : decode cX9_copy 22 = .ok (.iconst 5, 1) := by decide +kernel
theorem dX9_copy_23 : decode cX9_copy 23 = .ok (.invokevirtual 87, 3) := by decide +kernel
theorem dX9_copy_26 : decode cX9_copy 26 = .ok (.ireturn, 1) := by decide +kernel
theorem dX9_copy_27 : decode cX9_copy 27 = .ok (.aload_n 0, 1) := by decide +kernel
theorem dX9_copy_28 : decode cX9_copy 28 = .ok (.getfield 14, 3) := by decide +kernel
theorem dX9_copy_31 : decode cX9_copy 31 = .ok (.iload_n 1, 1) := by decide +kernel
theorem dX9_copy_32 : decode cX9_copy 32 = .ok (.iaload, 1) := by decide +kernel
theorem dX9_copy_33 : decode cX9_copy 33 = .ok (.iconst (-1), 1) := by decide +kernel
theorem dX9_copy_34 : decode cX9_copy 34 = .ok (.if_icmp .eq 13, 3) := by decide +kernel
theorem dX9_copy_37 : decode cX9_copy 37 = .ok (.aload_n 0, 1) := by decide +kernel
theorem dX9_copy_38 : decode cX9_copy 38 = .ok (.getfield 14, 3) := by decide +kernel
theorem dX9_copy_41 : decode cX9_copy 41 = .ok (.iload_n 3, 1) := by decide +kernel
theorem dX9_copy_42 : decode cX9_copy 42 = .ok (.iaload, 1) := by decide +kernel
theorem dX9_copy_43 : decode cX9_copy 43 = .ok (.iconst (-1), 1) := by decide +kernel
theorem dX9_copy_44 : decode cX9_copy 44 = .ok (.if_icmp .ne 9, 3) := by decide +kernel
theorem dX9_copy_47 : decode cX9_copy 47 = .ok (.aload_n 0, 1) := by decide +kernel
theorem dX9_copy_48 : decode cX9_copy 48 = .ok (.iconst 1, 1) := by decide +kernel
theorem dX9_copy_49 : decode cX9_copy 49 = .ok (.invokevirtual 87, 3) := by decide +kernel
theorem dX9_copy_52 : decode cX9_copy 52 = .ok (.ireturn, 1) := by decide +kernel
theorem dX9_copy_53 : decode cX9_copy 53 = .ok (.aload_n 0, 1) := by decide +kernel
theorem dX9_copy_54 : decode cX9_copy 54 = .ok (.iload_n 1, 1) := by decide +kernel
theorem dX9_copy_55 : decode cX9_copy 55 = .ok (.iload_n 2, 1) := by decide +kernel
theorem dX9_copy_56 : decode cX9_copy 56 = .ok (.iload 5, 2) := by decide +kernel
theorem dX9_copy_58 : decode cX9_copy 58 = .ok (.invokevirtual 98, 3) := by decide +kernel
theorem dX9_copy_61 : decode cX9_copy 61 = .ok (.ifCond .eq 15, 3) := by decide +kernel
theorem dX9_copy_64 : decode cX9_copy 64 = .ok (.aload_n 0, 1) := by decide +kernel
theorem dX9_copy_65 : decode cX9_copy 65 = .ok (.iload_n 3, 1) := by decide +kernel
theorem dX9_copy_66 : decode cX9_copy 66 = .ok (.iload 4, 2) := by decide +kernel
theorem dX9_copy_68 : decode cX9_copy 68 = .ok (.iload 5, 2) := by decide +kernel
theorem dX9_copy_70 : decode cX9_copy 70 = .ok (.invokevirtual 98, 3) := by decide +kernel
theorem dX9_copy_73 : decode cX9_copy 73 = .ok (.ifCond .ne 9, 3) := by decide +kernel
theorem dX9_copy_76 : decode cX9_copy 76 = .ok (.aload_n 0, 1) := by decide +kernel
theorem dX9_copy_77 : decode cX9_copy 77 = .ok (.iconst 2, 1) := by decide +kernel
theorem dX9_copy_78 : decode cX9_copy 78 = .ok (.invokevirtual 87, 3) := by decide +kernel
theorem dX9_copy_81 : decode cX9_copy 81 = .ok (.ireturn, 1) := by decide +kernel
theorem dX9_copy_82 : decode cX9_copy 82 = .ok (.aload_n 0, 1) := by decide +kernel
theorem dX9_copy_83 : decode cX9_copy 83 = .ok (.getfield 11, 3) := by decide +kernel
theorem dX9_copy_86 : decode cX9_copy 86 = .ok (.iload_n 1, 1) := by decide +kernel
theorem dX9_copy_87 : decode cX9_copy 87 = .ok (.aaload, 1) := by decide +kernel
theorem dX9_copy_88 : decode cX9_copy 88 = .ok (.iload_n 2, 1) := by decide +kernel
theorem dX9_copy_89 : decode cX9_copy 89 = .ok (.aload_n 0, 1) := by decide +kernel
theorem dX9_copy_90 : decode cX9_copy 90 = .ok (.getfield 11, 3) := by decide +kernel
theorem dX9_copy_93 : decode cX9_copy 93 = .ok (.iload_n 3, 1) := by decide +kernel
theorem dX9_copy_94 : decode cX9_copy 94 = .ok (.aaload, 1) := by decide +kernel
theorem dX9_copy_95 : decode cX9_copy 95 = .ok (.iload 4, 2) := by decide +kernel
theorem dX9_copy_97 : decode cX9_copy 97 = .ok (.iload 5, 2) := by decide +kernel
theorem dX9_copy_99 : decode cX9_copy 99 = .ok (.invokestatic 102, 3) := by decide +kernel
theorem dX9_copy_102 : decode cX9_copy 102 = .ok (.iconst 1, 1) := by decide +kernel
theorem dX9_copy_103 : decode cX9_copy 103 = .ok (.ireturn, 1) := by decide +kernel
theorem dX9_mean_0 : decode cX9_mean 0 = .ok (.aload_n 0, 1) := by decide +kernel
theorem dX9_mean_1 : decode cX9_mean 1 = .ok (.iload_n 1, 1) := by decide +kernel
theorem dX9_mean_2 : decode cX9_mean 2 = .ok (.invokevirtual 95, 3) := by decide +kernel
theorem dX9_mean_5 : decode cX9_mean 5 = .ok (.istore_n 2, 1) := by decide +kernel
theorem dX9_mean_6 : decode cX9_mean 6 = .ok (.iload_n 2, 1) := by decide +kernel
theorem dX9_mean_7 : decode cX9_mean 7 = .ok (.ifCond .eq 5, 3) := by decide +kernel
theorem dX9_mean_10 : decode cX9_mean 10 = .ok (.iload_n 2, 1) := by decide +kernel
theorem dX9_mean_11 : decode cX9_mean 11 = .ok (.ireturn, 1) := by decide +kernel
theorem dX9_mean_12 : decode cX9_mean 12 = .ok (.aload_n 0, 1) := by decide +kernel
theorem dX9_mean_13 : decode cX9_mean 13 = .ok (.getfield 14, 3) := by decide +kernel
theorem dX9_mean_16 : decode cX9_mean 16 = .ok (.iload_n 1, 1) := by decide +kernel
theorem dX9_mean_17 : decode cX9_mean 17 = .ok (.iaload, 1) := by decide +kernel
theorem dX9_mean_18 : decode cX9_mean 18 = .ok (.istore_n 3, 1) := by decide +kernel
theorem dX9_mean_19 : decode cX9_mean 19 = .ok (.iload_n 3, 1) := by decide +kernel
theorem dX9_mean_20 : decode cX9_mean 20 = .ok (.ifCond .ne 9, 3) := by decide +kernel
theorem dX9_mean_23 : decode cX9_mean 23 = .ok (.aload_n 0, 1) := by decide +kernel
theorem dX9_mean_24 : decode cX9_mean 24 = .ok (.iconst 4, 1) := by decide +kernel
theorem dX9_mean_25 : decode cX9_mean 25 = .ok (.invokevirtual 87, 3) := by decide +kernel
theorem dX9_mean_28 : decode cX9_mean 28 = .ok (.ireturn, 1) := by decide +kernel
theorem dX9_mean_29 : decode cX9_mean 29 = .ok (.lconst 0, 1) := by decide +kernel
theorem dX9_mean_30 : decode cX9_mean 30 = .ok (.lstore 4, 2) := by decide +kernel
theorem dX9_mean_32 : decode cX9_mean 32 = .ok (.iconst 0, 1) := by decide +kernel
theorem dX9_mean_33 : decode cX9_mean 33 = .ok (.istore 6, 2) := by decide +kernel
theorem dX9_mean_35 : decode cX9_mean 35 = .ok (.iload 6, 2) := by decide +kernel
theorem dX9_mean_37 : decode cX9_mean 37 = .ok (.iload_n 3, 1) := by decide +kernel
theorem dX9_mean_38 : decode cX9_mean 38 = .ok (.if_icmp .ge 24, 3) := by decide +kernel
theorem dX9_mean_41 : decode cX9_mean 41 = .ok (.lload 4, 2) := by decide +kernel
theorem dX9_mean_43 : decode cX9_mean 43 = .ok (.aload_n 0, 1) := by decide +kernel
theorem dX9_mean_44 : decode cX9_mean 44 = .ok (.getfield 11, 3) := by decide +kernel
theorem dX9_mean_47 : decode cX9_mean 47 = .ok (.iload_n 1, 1) := by decide +kernel
theorem dX9_mean_48 : decode cX9_mean 48 = .ok (.aaload, 1) := by decide +kernel
theorem dX9_mean_49 : decode cX9_mean 49 = .ok (.iload 6, 2) := by decide +kernel
theorem dX9_mean_51 : decode cX9_mean 51 = .ok (.iaload, 1) := by decide +kernel
theorem dX9_mean_52 : decode cX9_mean 52 = .ok (.i2l, 1) := by decide +kernel
theorem dX9_mean_53 : decode cX9_mean 53 = .ok (.ladd, 1) := by decide +kernel
theorem dX9_mean_54 : decode cX9_mean 54 = .ok (.lstore 4, 2) := by decide +kernel
theorem dX9_mean_56 : decode cX9_mean 56 = .ok (.iinc 6 1, 3) := by decide +kernel
theorem dX9_mean_59 : decode cX9_mean 59 = .ok (.goto (-24), 3) := by decide +kernel
theorem dX9_mean_62 : decode cX9_mean 62 = .ok (.aload_n 0, 1) := by decide +kernel
theorem dX9_mean_63 : decode cX9_mean 63 = .ok (.lload 4, 2) := by decide +kernel
theorem dX9_mean_65 : decode cX9_mean 65 = .ok (.iload_n 3, 1) := by decide +kernel
theorem dX9_mean_66 : decode cX9_mean 66 = .ok (.i2l, 1) := by decide +kernel
theorem dX9_mean_67 : decode cX9_mean 67 = .ok (.ldiv, 1) := by decide +kernel
theorem dX9_mean_68 : decode cX9_mean 68 = .ok (.l2i, 1) := by decide +kernel
theorem dX9_mean_69 : decode cX9_mean 69 = .ok (.putfield 49, 3) := by decide +kernel
theorem dX9_mean_72 : decode cX9_mean 72 = .ok (.iconst 1, 1) := by decide +kernel
theorem dX9_mean_73 : decode cX9_mean 73 = .ok (.ireturn, 1) := by decide +kernel
theorem dX9_text_0 : decode cX9_text 0 = .ok (.iload_n 1, 1) := by decide +kernel
theorem dX9_text_1 : decode cX9_text 1 = .ok (.invokestatic 108, 3) := by decide +kernel
theorem dX9_text_4 : decode cX9_text 4 = .ok (.ifCond .eq 9, 3) := by decide +kernel
theorem dX9_text_7 : decode cX9_text 7 = .ok (.iload_n 2, 1) := by decide +kernel
theorem dX9_text_8 : decode cX9_text 8 = .ok (.bipush 60, 2) := by decide +kernel
theorem dX9_text_10 : decode cX9_text 10 = .ok (.if_icmp .le 5, 3) := by decide +kernel
theorem dX9_text_13 : decode cX9_text 13 = .ok (.iconst (-1), 1) := by decide +kernel
theorem dX9_text_14 : decode cX9_text 14 = .ok (.ireturn, 1) := by decide +kernel
theorem dX9_text_15 : decode cX9_text 15 = .ok (.iload_n 2, 1) := by decide +kernel
theorem dX9_text_16 : decode cX9_text 16 = .ok (.ifCond .ge 9, 3) := by decide +kernel
theorem dX9_text_19 : decode cX9_text 19 = .ok (.aload_n 0, 1) := by decide +kernel
theorem dX9_text_20 : decode cX9_text 20 = .ok (.iconst 5, 1) := by decide +kernel
theorem dX9_text_21 : decode cX9_text 21 = .ok (.invokevirtual 87, 3) := by decide +kernel
theorem dX9_text_24 : decode cX9_text 24 = .ok (.ireturn, 1) := by decide +kernel
theorem dX9_text_25 : decode cX9_text 25 = .ok (.aload_n 0, 1) := by decide +kernel
theorem dX9_text_26 : decode cX9_text 26 = .ok (.getfield 20, 3) := by decide +kernel
theorem dX9_text_29 : decode cX9_text 29 = .ok (.iload_n 1, 1) := by decide +kernel
theorem dX9_text_30 : decode cX9_text 30 = .ok (.aaload, 1) := by decide +kernel
theorem dX9_text_31 : decode cX9_text 31 = .ok (.bipush 32, 2) := by decide +kernel
theorem dX9_text_33 : decode cX9_text 33 = .ok (.invokestatic 111, 3) := by decide +kernel
theorem dX9_text_36 : decode cX9_text 36 = .ok (.aload_n 0, 1) := by decide +kernel
theorem dX9_text_37 : decode cX9_text 37 = .ok (.getfield 23, 3) := by decide +kernel
theorem dX9_text_40 : decode cX9_text 40 = .ok (.iload_n 1, 1) := by decide +kernel
theorem dX9_text_41 : decode cX9_text 41 = .ok (.iload_n 2, 1) := by decide +kernel
theorem dX9_text_42 : decode cX9_text 42 = .ok (.iastore, 1) := by decide +kernel
theorem dX9_text_43 : decode cX9_text 43 = .ok (.iload_n 2, 1) := by decide +kernel
theorem dX9_text_44 : decode cX9_text 44 = .ok (.ireturn, 1) := by decide +kernel
theorem dX9_put_0 : decode cX9_put 0 = .ok (.aload_n 0, 1) := by decide +kernel
theorem dX9_put_1 : decode cX9_put 1 = .ok (.iload_n 1, 1) := by decide +kernel
theorem dX9_put_2 : decode cX9_put 2 = .ok (.invokevirtual 114, 3) := by decide +kernel
theorem dX9_put_5 : decode cX9_put 5 = .ok (.istore 4, 2) := by decide +kernel
theorem dX9_put_7 : decode cX9_put 7 = .ok (.iload 4, 2) := by decide +kernel
theorem dX9_put_9 : decode cX9_put 9 = .ok (.ifCond .eq 6, 3) := by decide +kernel
theorem dX9_put_12 : decode cX9_put 12 = .ok (.iload 4, 2) := by decide +kernel
theorem dX9_put_14 : decode cX9_put 14 = .ok (.ireturn, 1) := by decide +kernel
theorem dX9_put_15 : decode cX9_put 15 = .ok (.iload_n 2, 1) := by decide +kernel
theorem dX9_put_16 : decode cX9_put 16 = .ok (.ifCond .lt 13, 3) := by decide +kernel
theorem dX9_put_19 : decode cX9_put 19 = .ok (.iload_n 2, 1) := by decide +kernel
theorem dX9_put_20 : decode cX9_put 20 = .ok (.aload_n 0, 1) := by decide +kernel
theorem dX9_put_21 : decode cX9_put 21 = .ok (.getfield 23, 3) := by decide +kernel
theorem dX9_put_24 : decode cX9_put 24 = .ok (.iload_n 1, 1) := by decide +kernel
theorem dX9_put_25 : decode cX9_put 25 = .ok (.iaload, 1) := by decide +kernel
theorem dX9_put_26 : decode cX9_put 26 = .ok (.if_icmp .lt 9, 3) := by decide +kernel
theorem dX9_put_29 : decode cX9_put 29 = .ok (.aload_n 0, 1) := by decide +kernel
theorem dX9_put_30 : decode cX9_put 30 = .ok (.iconst 2, 1) := by decide +kernel
theorem dX9_put_31 : decode cX9_put 31 = .ok (.invokevirtual 87, 3) := by decide +kernel
theorem dX9_put_34 : decode cX9_put 34 = .ok (.ireturn, 1) := by decide +kernel
theorem dX9_put_35 : decode cX9_put 35 = .ok (.aload_n 0, 1) := by decide +kernel
theorem dX9_put_36 : decode cX9_put 36 = .ok (.getfield 20, 3) := by decide +kernel
theorem dX9_put_39 : decode cX9_put 39 = .ok (.iload_n 1, 1) := by decide +kernel
theorem dX9_put_40 : decode cX9_put 40 = .ok (.aaload, 1) := by decide +kernel
theorem dX9_put_41 : decode cX9_put 41 = .ok (.iload_n 2, 1) := by decide +kernel
theorem dX9_put_42 : decode cX9_put 42 = .ok (.baload, 1) := by decide +kernel
theorem dX9_put_43 : decode cX9_put 43 = .ok (.istore 5, 2) := by decide +kernel
theorem dX9_put_45 : decode cX9_put 45 = .ok (.aload_n 0, 1) := by decide +kernel
theorem dX9_put_46 : decode cX9_put 46 = .ok (.getfield 20, 3) := by decide +kernel
theorem dX9_put_49 : decode cX9_put 49 = .ok (.iload_n 1, 1) := by decide +kernel
theorem dX9_put_50 : decode cX9_put 50 = .ok (.aaload, 1) := by decide +kernel
theorem dX9_put_51 : decode cX9_put 51 = .ok (.iload_n 2, 1) := by decide +kernel
theorem dX9_put_52 : decode cX9_put 52 = .ok (.iload_n 3, 1) := by decide +kernel
theorem dX9_put_53 : decode cX9_put 53 = .ok (.i2b, 1) := by decide +kernel
theorem dX9_put_54 : decode cX9_put 54 = .ok (.bastore, 1) := by decide +kernel
theorem dX9_put_55 : decode cX9_put 55 = .ok (.iload 5, 2) := by decide +kernel
theorem dX9_put_57 : decode cX9_put 57 = .ok (.sipush 1000, 3) := by decide +kernel
theorem dX9_put_60 : decode cX9_put 60 = .ok (.iadd, 1) := by decide +kernel
theorem dX9_put_61 : decode cX9_put 61 = .ok (.ireturn, 1) := by decide +kernel
theorem dX9_fault_0 : decode cX9_fault 0 = .ok (.aload_n 0, 1) := by decide +kernel
theorem dX9_fault_1 : decode cX9_fault 1 = .ok (.iload_n 1, 1) := by decide +kernel
theorem dX9_fault_2 : decode cX9_fault 2 = .ok (.invokevirtual 114, 3) := by decide +kernel
theorem dX9_fault_5 : decode cX9_fault 5 = .ok (.istore_n 2, 1) := by decide +kernel
theorem dX9_fault_6 : decode cX9_fault 6 = .ok (.iload_n 2, 1) := by decide +kernel
theorem dX9_fault_7 : decode cX9_fault 7 = .ok (.ifCond .eq 5, 3) := by decide +kernel
theorem dX9_fault_10 : decode cX9_fault 10 = .ok (.iload_n 2, 1) := by decide +kernel
theorem dX9_fault_11 : decode cX9_fault 11 = .ok (.ireturn, 1) := by decide +kernel
theorem dX9_fault_12 : decode cX9_fault 12 = .ok (.aload_n 0, 1) := by decide +kernel
theorem dX9_fault_13 : decode cX9_fault 13 = .ok (.iload_n 1, 1) := by decide +kernel
theorem dX9_fault_14 : decode cX9_fault 14 = .ok (.invokevirtual 117, 3) := by decide +kernel
theorem dX9_fault_17 : decode cX9_fault 17 = .ok (.ireturn, 1) := by decide +kernel
theorem dX9_front_0 : decode cX9_front 0 = .ok (.aload_n 0, 1) := by decide +kernel
theorem dX9_front_1 : decode cX9_front 1 = .ok (.iload_n 1, 1) := by decide +kernel
theorem dX9_front_2 : decode cX9_front 2 = .ok (.invokevirtual 114, 3) := by decide +kernel
theorem dX9_front_5 : decode cX9_front 5 = .ok (.istore_n 2, 1) := by decide +kernel
theorem dX9_front_6 : decode cX9_front 6 = .ok (.iload_n 2, 1) := by decide +kernel
theorem dX9_front_7 : decode cX9_front 7 = .ok (.ifCond .eq 5, 3) := by decide +kernel
theorem dX9_front_10 : decode cX9_front 10 = .ok (.iload_n 2, 1) := by decide +kernel
theorem dX9_front_11 : decode cX9_front 11 = .ok (.ireturn, 1) := by decide +kernel
theorem dX9_front_12 : decode cX9_front 12 = .ok (.aload_n 0, 1) := by decide +kernel
theorem dX9_front_13 : decode cX9_front 13 = .ok (.iload_n 1, 1) := by decide +kernel
theorem dX9_front_14 : decode cX9_front 14 = .ok (.invokevirtual 117, 3) := by decide +kernel
theorem dX9_front_17 : decode cX9_front 17 = .ok (.bipush (-9), 2) := by decide +kernel
theorem dX9_front_19 : decode cX9_front 19 = .ok (.if_icmp .eq 6, 3) := by decide +kernel
theorem dX9_front_22 : decode cX9_front 22 = .ok (.bipush (-4), 2) := by decide +kernel
theorem dX9_front_24 : decode cX9_front 24 = .ok (.ireturn, 1) := by decide +kernel
theorem dX9_front_25 : decode cX9_front 25 = .ok (.aload_n 0, 1) := by decide +kernel
theorem dX9_front_26 : decode cX9_front 26 = .ok (.getfield 67, 3) := by decide +kernel
theorem dX9_front_29 : decode cX9_front 29 = .ok (.aload_n 0, 1) := by decide +kernel
theorem dX9_front_30 : decode cX9_front 30 = .ok (.getfield 74, 3) := by decide +kernel
theorem dX9_front_33 : decode cX9_front 33 = .ok (.invokevirtual 120, 3) := by decide +kernel
theorem dX9_front_36 : decode cX9_front 36 = .ok (.aload_n 0, 1) := by decide +kernel
theorem dX9_front_37 : decode cX9_front 37 = .ok (.getfield 71, 3) := by decide +kernel
theorem dX9_front_40 : decode cX9_front 40 = .ok (.aload_n 0, 1) := by decide +kernel
theorem dX9_front_41 : decode cX9_front 41 = .ok (.getfield 74, 3) := by decide +kernel
theorem dX9_front_44 : decode cX9_front 44 = .ok (.invokevirtual 120, 3) := by decide +kernel
theorem dX9_front_47 : decode cX9_front 47 = .ok (.aload_n 0, 1) := by decide +kernel
theorem dX9_front_48 : decode cX9_front 48 = .ok (.getfield 31, 3) := by decide +kernel
theorem dX9_front_51 : decode cX9_front 51 = .ok (.iconst 0, 1) := by decide +kernel
theorem dX9_front_52 : decode cX9_front 52 = .ok (.putfield 124, 3) := by decide +kernel
theorem dX9_front_55 : decode cX9_front 55 = .ok (.iconst 0, 1) := by decide +kernel
theorem dX9_front_56 : decode cX9_front 56 = .ok (.istore_n 3, 1) := by decide +kernel
theorem dX9_front_57 : decode cX9_front 57 = .ok (.iload_n 3, 1) := by decide +kernel
theorem dX9_front_58 : decode cX9_front 58 = .ok (.iconst 3, 1) := by decide +kernel
theorem dX9_front_59 : decode cX9_front 59 = .ok (.if_icmp .ge 19, 3) := by decide +kernel
theorem dX9_front_62 : decode cX9_front 62 = .ok (.aload_n 0, 1) := by decide +kernel
theorem dX9_front_63 : decode cX9_front 63 = .ok (.getfield 35, 3) := by decide +kernel
theorem dX9_front_66 : decode cX9_front 66 = .ok (.iload_n 3, 1) := by decide +kernel
theorem dX9_front_67 : decode cX9_front 67 = .ok (.aaload, 1) := by decide +kernel
theorem dX9_front_68 : decode cX9_front 68 = .ok (.iconst (-1), 1) := by decide +kernel
theorem dX9_front_69 : decode cX9_front 69 = .ok (.putfield 124, 3) := by decide +kernel
theorem dX9_front_72 : decode cX9_front 72 = .ok (.iinc 3 1, 3) := by decide +kernel
theorem dX9_front_75 : decode cX9_front 75 = .ok (.goto (-18), 3) := by decide +kernel
theorem dX9_front_78 : decode cX9_front 78 = .ok (.aload_n 0, 1) := by decide +kernel
theorem dX9_front_79 : decode cX9_front 79 = .ok (.getfield 71, 3) := by decide +kernel
theorem dX9_front_82 : decode cX9_front 82 = .ok (.getfield 127, 3) := by decide +kernel
theorem dX9_front_85 : decode cX9_front 85 = .ok (.ireturn, 1) := by decide +kernel
theorem dX9_one_0 : decode cX9_one 0 = .ok (.aload_n 0, 1) := by decide +kernel
theorem dX9_one_1 : decode cX9_one 1 = .ok (.getfield 71, 3) := by decide +kernel
theorem dX9_one_4 : decode cX9_one 4 = .ok (.iload_n 1, 1) := by decide +kernel
theorem dX9_one_5 : decode cX9_one 5 = .ok (.invokevirtual 130, 3) := by decide +kernel
theorem dX9_one_8 : decode cX9_one 8 = .ok (.ifCond .eq 12, 3) := by decide +kernel
theorem dX9_one_11 : decode cX9_one 11 = .ok (.iload_n 2, 1) := by decide +kernel
theorem dX9_one_12 : decode cX9_one 12 = .ok (.ifCond .lt 8, 3) := by decide +kernel
theorem dX9_one_15 : decode cX9_one 15 = .ok (.iload_n 2, 1) := by decide +kernel
theorem dX9_one_16 : decode cX9_one 16 = .ok (.iconst 5, 1) := by decide +kernel
theorem dX9_one_17 : decode cX9_one 17 = .ok (.if_icmp .lt 5, 3) := by decide +kernel
theorem dX9_one_20 : decode cX9_one 20 = .ok (.iconst (-1), 1) := by decide +kernel
theorem dX9_one_21 : decode cX9_one 21 = .ok (.ireturn, 1) := by decide +kernel
theorem dX9_one_22 : decode cX9_one 22 = .ok (.aload_n 0, 1) := by decide +kernel
theorem dX9_one_23 : decode cX9_one 23 = .ok (.aload_n 0, 1) := by decide +kernel
theorem dX9_one_24 : decode cX9_one 24 = .ok (.iload_n 1, 1) := by decide +kernel
theorem dX9_one_25 : decode cX9_one 25 = .ok (.iload_n 2, 1) := by decide +kernel
theorem dX9_one_26 : decode cX9_one 26 = .ok (.invokevirtual 133, 3) := by decide +kernel
theorem dX9_one_29 : decode cX9_one 29 = .ok (.putfield 49, 3) := by decide +kernel
theorem dX9_one_32 : decode cX9_one 32 = .ok (.iconst 1, 1) := by decide +kernel
theorem dX9_one_33 : decode cX9_one 33 = .ok (.ireturn, 1) := by decide +kernel
theorem dX9_mark_0 : decode cX9_mark 0 = .ok (.aload_n 0, 1) := by decide +kernel
theorem dX9_mark_1 : decode cX9_mark 1 = .ok (.getfield 71, 3) := by decide +kernel
theorem dX9_mark_4 : decode cX9_mark 4 = .ok (.iload_n 1, 1) := by decide +kernel
theorem dX9_mark_5 : decode cX9_mark 5 = .ok (.invokevirtual 130, 3) := by decide +kernel
theorem dX9_mark_8 : decode cX9_mark 8 = .ok (.ifCond .eq 13, 3) := by decide +kernel
theorem dX9_mark_11 : decode cX9_mark 11 = .ok (.iload_n 2, 1) := by decide +kernel
theorem dX9_mark_12 : decode cX9_mark 12 = .ok (.ifCond .le 9, 3) := by decide +kernel
theorem dX9_mark_15 : decode cX9_mark 15 = .ok (.iload_n 2, 1) := by decide +kernel
theorem dX9_mark_16 : decode cX9_mark 16 = .ok (.bipush 6, 2) := by decide +kernel
theorem dX9_mark_18 : decode cX9_mark 18 = .ok (.if_icmp .lt 5, 3) := by decide +kernel
theorem dX9_mark_21 : decode cX9_mark 21 = .ok (.iconst (-1), 1) := by decide +kernel
theorem dX9_mark_22 : decode cX9_mark 22 = .ok (.ireturn, 1) := by decide +kernel
theorem dX9_mark_23 : decode cX9_mark 23 = .ok (.aload_n 0, 1) := by decide +kernel
theorem dX9_mark_24 : decode cX9_mark 24 = .ok (.getfield 71, 3) := by decide +kernel
theorem dX9_mark_27 : decode cX9_mark 27 = .ok (.iload_n 1, 1) := by decide +kernel
theorem dX9_mark_28 : decode cX9_mark 28 = .ok (.invokevirtual 136, 3) := by decide +kernel
theorem dX9_mark_31 : decode cX9_mark 31 = .ok (.astore_n 3, 1) := by decide +kernel
theorem dX9_mark_32 : decode cX9_mark 32 = .ok (.iload_n 2, 1) := by decide +kernel
theorem dX9_mark_33 : decode cX9_mark 33 = .ok (.tableswitch 139 1 4 #[31, 64, 92, 113], 31) := by decide +kernel
theorem dX9_mark_64 : decode cX9_mark 64 = .ok (.aload_n 3, 1) := by decide +kernel
theorem dX9_mark_65 : decode cX9_mark 65 = .ok (.instanceof 140, 3) := by decide +kernel
theorem dX9_mark_68 : decode cX9_mark 68 = .ok (.ifCond .eq 23, 3) := by decide +kernel
theorem dX9_mark_71 : decode cX9_mark 71 = .ok (.aload_n 0, 1) := by decide +kernel
theorem dX9_mark_72 : decode cX9_mark 72 = .ok (.getfield 71, 3) := by decide +kernel
theorem dX9_mark_75 : decode cX9_mark 75 = .ok (.invokevirtual 142, 3) := by decide +kernel
theorem dX9_mark_78 : decode cX9_mark 78 = .ok (.aload_n 0, 1) := by decide +kernel
theorem dX9_mark_79 : decode cX9_mark 79 = .ok (.getfield 71, 3) := by decide +kernel
theorem dX9_mark_82 : decode cX9_mark 82 = .ok (.getfield 146, 3) := by decide +kernel
theorem dX9_mark_85 : decode cX9_mark 85 = .ok (.iload_n 1, 1) := by decide +kernel
theorem dX9_mark_86 : decode cX9_mark 86 = .ok (.iaload, 1) := by decide +kernel
theorem dX9_mark_87 : decode cX9_mark 87 = .ok (.isub, 1) := by decide +kernel
theorem dX9_mark_88 : decode cX9_mark 88 = .ok (.goto 8, 3) := by decide +kernel
theorem dX9_mark_91 : decode cX9_mark 91 = .ok (.aload_n 0, 1) := by decide +kernel
theorem dX9_mark_92 : decode cX9_mark 92 = .ok (.iconst 3, 1) := by decide +kernel
theorem dX9_mark_93 : decode cX9_mark 93 = .ok (.invokevirtual 87, 3) := by decide +kernel
theorem dX9_mark_96 : decode cX9_mark 96 = .ok (.ireturn, 1) := by decide +kernel
theorem dX9_mark_97 : decode cX9_mark 97 = .ok (.aload_n 3, 1) := by decide +kernel
theorem dX9_mark_98 : decode cX9_mark 98 = .ok (.instanceof 149, 3) := by decide +kernel
theorem dX9_mark_101 : decode cX9_mark 101 = .ok (.ifCond .eq 18, 3) := by decide +kernel
theorem dX9_mark_104 : decode cX9_mark 104 = .ok (.bipush 30, 2) := by decide +kernel
theorem dX9_mark_106 : decode cX9_mark 106 = .ok (.aload_n 0, 1) := by decide +kernel
theorem dX9_mark_107 : decode cX9_mark 107 = .ok (.getfield 71, 3) := by decide +kernel
theorem dX9_mark_110 : decode cX9_mark 110 = .ok (.getfield 146, 3) := by decide +kernel
theorem dX9_mark_113 : decode cX9_mark 113 = .ok (.iload_n 1, 1) := by decide +kernel
theorem dX9_mark_114 : decode cX9_mark 114 = .ok (.iaload, 1) := by decide +kernel
theorem dX9_mark_115 : decode cX9_mark 115 = .ok (.isub, 1) := by decide +kernel
theorem dX9_mark_116 : decode cX9_mark 116 = .ok (.goto 8, 3) := by decide +kernel
theorem dX9_mark_119 : decode cX9_mark 119 = .ok (.aload_n 0, 1) := by decide +kernel
theorem dX9_mark_120 : decode cX9_mark 120 = .ok (.iconst 3, 1) := by decide +kernel
theorem dX9_mark_121 : decode cX9_mark 121 = .ok (.invokevirtual 87, 3) := by decide +kernel
theorem dX9_mark_124 : decode cX9_mark 124 = .ok (.ireturn, 1) := by decide +kernel
theorem dX9_mark_125 : decode cX9_mark 125 = .ok (.aload_n 3, 1) := by decide +kernel
theorem dX9_mark_126 : decode cX9_mark 126 = .ok (.instanceof 151, 3) := by decide +kernel
theorem dX9_mark_129 : decode cX9_mark 129 = .ok (.ifCond .eq 11, 3) := by decide +kernel
theorem dX9_mark_132 : decode cX9_mark 132 = .ok (.aload_n 0, 1) := by decide +kernel
theorem dX9_mark_133 : decode cX9_mark 133 = .ok (.aload_n 3, 1) := by decide +kernel
theorem dX9_mark_134 : decode cX9_mark 134 = .ok (.invokevirtual 153, 3) := by decide +kernel
theorem dX9_mark_137 : decode cX9_mark 137 = .ok (.goto 8, 3) := by decide +kernel
theorem dX9_mark_140 : decode cX9_mark 140 = .ok (.aload_n 0, 1) := by decide +kernel
theorem dX9_mark_141 : decode cX9_mark 141 = .ok (.iconst 3, 1) := by decide +kernel
theorem dX9_mark_142 : decode cX9_mark 142 = .ok (.invokevirtual 87, 3) := by decide +kernel
theorem dX9_mark_145 : decode cX9_mark 145 = .ok (.ireturn, 1) := by decide +kernel
theorem dX9_mark_146 : decode cX9_mark 146 = .ok (.aload_n 3, 1) := by decide +kernel
theorem dX9_mark_147 : decode cX9_mark 147 = .ok (.instanceof 157, 3) := by decide +kernel
theorem dX9_mark_150 : decode cX9_mark 150 = .ok (.ifCond .eq 16, 3) := by decide +kernel
theorem dX9_mark_153 : decode cX9_mark 153 = .ok (.bipush 60, 2) := by decide +kernel
theorem dX9_mark_155 : decode cX9_mark 155 = .ok (.aload_n 0, 1) := by decide +kernel
theorem dX9_mark_156 : decode cX9_mark 156 = .ok (.getfield 71, 3) := by decide +kernel
theorem dX9_mark_159 : decode cX9_mark 159 = .ok (.getfield 159, 3) := by decide +kernel
theorem dX9_mark_162 : decode cX9_mark 162 = .ok (.isub, 1) := by decide +kernel
theorem dX9_mark_163 : decode cX9_mark 163 = .ok (.goto 8, 3) := by decide +kernel
theorem dX9_mark_166 : decode cX9_mark 166 = .ok (.aload_n 0, 1) := by decide +kernel
theorem dX9_mark_167 : decode cX9_mark 167 = .ok (.iconst 3, 1) := by decide +kernel
theorem dX9_mark_168 : decode cX9_mark 168 = .ok (.invokevirtual 87, 3) := by decide +kernel
theorem dX9_mark_171 : decode cX9_mark 171 = .ok (.ireturn, 1) := by decide +kernel
theorem dX9_mark_172 : decode cX9_mark 172 = .ok (.aload_n 3, 1) := by decide +kernel
theorem dX9_mark_173 : decode cX9_mark 173 = .ok (.instanceof 162, 3) := by decide +kernel
theorem dX9_mark_176 : decode cX9_mark 176 = .ok (.ifCond .eq 20, 3) := by decide +kernel
theorem dX9_mark_179 : decode cX9_mark 179 = .ok (.iconst 0, 1) := by decide +kernel
theorem dX9_mark_180 : decode cX9_mark 180 = .ok (.bipush 20, 2) := by decide +kernel
theorem dX9_mark_182 : decode cX9_mark 182 = .ok (.aload_n 0, 1) := by decide +kernel
theorem dX9_mark_183 : decode cX9_mark 183 = .ok (.getfield 71, 3) := by decide +kernel
theorem dX9_mark_186 : decode cX9_mark 186 = .ok (.getfield 159, 3) := by decide +kernel
theorem dX9_mark_189 : decode cX9_mark 189 = .ok (.isub, 1) := by decide +kernel
theorem dX9_mark_190 : decode cX9_mark 190 = .ok (.invokestatic 164, 3) := by decide +kernel
theorem dX9_mark_193 : decode cX9_mark 193 = .ok (.goto 8, 3) := by decide +kernel
theorem dX9_mark_196 : decode cX9_mark 196 = .ok (.aload_n 0, 1) := by decide +kernel
theorem dX9_mark_197 : decode cX9_mark 197 = .ok (.iconst 3, 1) := by decide +kernel
theorem dX9_mark_198 : decode cX9_mark 198 = .ok (.invokevirtual 87, 3) := by decide +kernel
theorem dX9_mark_201 : decode cX9_mark 201 = .ok (.ireturn, 1) := by decide +kernel
theorem dX9_turn_0 : decode cX9_turn 0 = .ok (.aload_n 0, 1) := by decide +kernel
theorem dX9_turn_1 : decode cX9_turn 1 = .ok (.getfield 71, 3) := by decide +kernel
theorem dX9_turn_4 : decode cX9_turn 4 = .ok (.getfield 127, 3) := by decide +kernel
theorem dX9_turn_7 : decode cX9_turn 7 = .ok (.ifCond .ne 6, 3) := by decide +kernel
theorem dX9_turn_10 : decode cX9_turn 10 = .ok (.bipush (-4), 2) := by decide +kernel
theorem dX9_turn_12 : decode cX9_turn 12 = .ok (.ireturn, 1) := by decide +kernel
theorem dX9_turn_13 : decode cX9_turn 13 = .ok (.aload_n 0, 1) := by decide +kernel
theorem dX9_turn_14 : decode cX9_turn 14 = .ok (.getfield 31, 3) := by decide +kernel
theorem dX9_turn_17 : decode cX9_turn 17 = .ok (.invokevirtual 169, 3) := by decide +kernel
theorem dX9_turn_20 : decode cX9_turn 20 = .ok (.ifCond .eq 6, 3) := by decide +kernel
theorem dX9_turn_23 : decode cX9_turn 23 = .ok (.bipush (-2), 2) := by decide +kernel
theorem dX9_turn_25 : decode cX9_turn 25 = .ok (.ireturn, 1) := by decide +kernel
theorem dX9_turn_26 : decode cX9_turn 26 = .ok (.aload_n 0, 1) := by decide +kernel
theorem dX9_turn_27 : decode cX9_turn 27 = .ok (.iconst 0, 1) := by decide +kernel
theorem dX9_turn_28 : decode cX9_turn 28 = .ok (.iconst 0, 1) := by decide +kernel
theorem dX9_turn_29 : decode cX9_turn 29 = .ok (.invokevirtual 173, 3) := by decide +kernel
theorem dX9_turn_32 : decode cX9_turn 32 = .ok (.ireturn, 1) := by decide +kernel
theorem dX9_spoon_0 : decode cX9_spoon 0 = .ok (.iload_n 1, 1) := by decide +kernel
theorem dX9_spoon_1 : decode cX9_spoon 1 = .ok (.iconst 1, 1) := by decide +kernel
theorem dX9_spoon_2 : decode cX9_spoon 2 = .ok (.if_icmp .lt 9, 3) := by decide +kernel
theorem dX9_spoon_5 : decode cX9_spoon 5 = .ok (.iload_n 1, 1) := by decide +kernel
theorem dX9_spoon_6 : decode cX9_spoon 6 = .ok (.bipush 9, 2) := by decide +kernel
theorem dX9_spoon_8 : decode cX9_spoon 8 = .ok (.if_icmp .le 5, 3) := by decide +kernel
theorem dX9_spoon_11 : decode cX9_spoon 11 = .ok (.iconst (-1), 1) := by decide +kernel
theorem dX9_spoon_12 : decode cX9_spoon 12 = .ok (.ireturn, 1) := by decide +kernel
theorem dX9_spoon_13 : decode cX9_spoon 13 = .ok (.aload_n 0, 1) := by decide +kernel
theorem dX9_spoon_14 : decode cX9_spoon 14 = .ok (.getfield 71, 3) := by decide +kernel
theorem dX9_spoon_17 : decode cX9_spoon 17 = .ok (.getfield 127, 3) := by decide +kernel
theorem dX9_spoon_20 : decode cX9_spoon 20 = .ok (.ifCond .eq 15, 3) := by decide +kernel
theorem dX9_spoon_23 : decode cX9_spoon 23 = .ok (.aload_n 0, 1) := by decide +kernel
theorem dX9_spoon_24 : decode cX9_spoon 24 = .ok (.getfield 71, 3) := by decide +kernel
theorem dX9_spoon_27 : decode cX9_spoon 27 = .ok (.getfield 159, 3) := by decide +kernel
theorem dX9_spoon_30 : decode cX9_spoon 30 = .ok (.bipush 60, 2) := by decide +kernel
theorem dX9_spoon_32 : decode cX9_spoon 32 = .ok (.if_icmp .lt 6, 3) := by decide +kernel
theorem dX9_spoon_35 : decode cX9_spoon 35 = .ok (.bipush (-4), 2) := by decide +kernel
theorem dX9_spoon_37 : decode cX9_spoon 37 = .ok (.ireturn, 1) := by decide +kernel
theorem dX9_spoon_38 : decode cX9_spoon 38 = .ok (.aload_n 0, 1) := by decide +kernel
theorem dX9_spoon_39 : decode cX9_spoon 39 = .ok (.getfield 31, 3) := by decide +kernel
theorem dX9_spoon_42 : decode cX9_spoon 42 = .ok (.invokevirtual 169, 3) := by decide +kernel
theorem dX9_spoon_45 : decode cX9_spoon 45 = .ok (.ifCond .eq 6, 3) := by decide +kernel
theorem dX9_spoon_48 : decode cX9_spoon 48 = .ok (.bipush (-2), 2) := by decide +kernel
theorem dX9_spoon_50 : decode cX9_spoon 50 = .ok (.ireturn, 1) := by decide +kernel
theorem dX9_spoon_51 : decode cX9_spoon 51 = .ok (.aload_n 0, 1) := by decide +kernel
theorem dX9_spoon_52 : decode cX9_spoon 52 = .ok (.iconst 1, 1) := by decide +kernel
theorem dX9_spoon_53 : decode cX9_spoon 53 = .ok (.iload_n 1, 1) := by decide +kernel
theorem dX9_spoon_54 : decode cX9_spoon 54 = .ok (.invokevirtual 173, 3) := by decide +kernel
theorem dX9_spoon_57 : decode cX9_spoon 57 = .ok (.pop, 1) := by decide +kernel
theorem dX9_spoon_58 : decode cX9_spoon 58 = .ok (.aload_n 0, 1) := by decide +kernel
theorem dX9_spoon_59 : decode cX9_spoon 59 = .ok (.getfield 71, 3) := by decide +kernel
theorem dX9_spoon_62 : decode cX9_spoon 62 = .ok (.getfield 159, 3) := by decide +kernel
theorem dX9_spoon_65 : decode cX9_spoon 65 = .ok (.ireturn, 1) := by decide +kernel
theorem dX9_wind_0 : decode cX9_wind 0 = .ok (.iload_n 1, 1) := by decide +kernel
theorem dX9_wind_1 : decode cX9_wind 1 = .ok (.ifCond .lt 8, 3) := by decide +kernel
theorem dX9_wind_4 : decode cX9_wind 4 = .ok (.iload_n 1, 1) := by decide +kernel
theorem dX9_wind_5 : decode cX9_wind 5 = .ok (.iconst 2, 1) := by decide +kernel
theorem dX9_wind_6 : decode cX9_wind 6 = .ok (.if_icmp .le 5, 3) := by decide +kernel
theorem dX9_wind_9 : decode cX9_wind 9 = .ok (.iconst (-1), 1) := by decide +kernel
theorem dX9_wind_10 : decode cX9_wind 10 = .ok (.ireturn, 1) := by decide +kernel
theorem dX9_wind_11 : decode cX9_wind 11 = .ok (.aload_n 0, 1) := by decide +kernel
theorem dX9_wind_12 : decode cX9_wind 12 = .ok (.getfield 71, 3) := by decide +kernel
theorem dX9_wind_15 : decode cX9_wind 15 = .ok (.getfield 127, 3) := by decide +kernel
theorem dX9_wind_18 : decode cX9_wind 18 = .ok (.ifCond .eq 14, 3) := by decide +kernel
theorem dX9_wind_21 : decode cX9_wind 21 = .ok (.aload_n 0, 1) := by decide +kernel
theorem dX9_wind_22 : decode cX9_wind 22 = .ok (.getfield 71, 3) := by decide +kernel
theorem dX9_wind_25 : decode cX9_wind 25 = .ok (.getfield 176, 3) := by decide +kernel
theorem dX9_wind_28 : decode cX9_wind 28 = .ok (.iload_n 1, 1) := by decide +kernel
theorem dX9_wind_29 : decode cX9_wind 29 = .ok (.if_icmp .ne 6, 3) := by decide +kernel
theorem dX9_wind_32 : decode cX9_wind 32 = .ok (.bipush (-4), 2) := by decide +kernel
theorem dX9_wind_34 : decode cX9_wind 34 = .ok (.ireturn, 1) := by decide +kernel
theorem dX9_wind_35 : decode cX9_wind 35 = .ok (.aload_n 0, 1) := by decide +kernel
theorem dX9_wind_36 : decode cX9_wind 36 = .ok (.getfield 31, 3) := by decide +kernel
theorem dX9_wind_39 : decode cX9_wind 39 = .ok (.invokevirtual 169, 3) := by decide +kernel
theorem dX9_wind_42 : decode cX9_wind 42 = .ok (.ifCond .eq 6, 3) := by decide +kernel
theorem dX9_wind_45 : decode cX9_wind 45 = .ok (.bipush (-2), 2) := by decide +kernel
theorem dX9_wind_47 : decode cX9_wind 47 = .ok (.ireturn, 1) := by decide +kernel
theorem dX9_wind_48 : decode cX9_wind 48 = .ok (.aload_n 0, 1) := by decide +kernel
theorem dX9_wind_49 : decode cX9_wind 49 = .ok (.getfield 71, 3) := by decide +kernel
theorem dX9_wind_52 : decode cX9_wind 52 = .ok (.getfield 176, 3) := by decide +kernel
theorem dX9_wind_55 : decode cX9_wind 55 = .ok (.istore_n 2, 1) := by decide +kernel
theorem dX9_wind_56 : decode cX9_wind 56 = .ok (.aload_n 0, 1) := by decide +kernel
theorem dX9_wind_57 : decode cX9_wind 57 = .ok (.iconst 2, 1) := by decide +kernel
theorem dX9_wind_58 : decode cX9_wind 58 = .ok (.iload_n 1, 1) := by decide +kernel
theorem dX9_wind_59 : decode cX9_wind 59 = .ok (.invokevirtual 173, 3) := by decide +kernel
theorem dX9_wind_62 : decode cX9_wind 62 = .ok (.pop, 1) := by decide +kernel
theorem dX9_wind_63 : decode cX9_wind 63 = .ok (.iload_n 2, 1) := by decide +kernel
theorem dX9_wind_64 : decode cX9_wind 64 = .ok (.ireturn, 1) := by decide +kernel
theorem dX9_rain_0 : decode cX9_rain 0 = .ok (.iload_n 1, 1) := by decide +kernel
theorem dX9_rain_1 : decode cX9_rain 1 = .ok (.ifCond .lt 8, 3) := by decide +kernel
theorem dX9_rain_4 : decode cX9_rain 4 = .ok (.iload_n 1, 1) := by decide +kernel
theorem dX9_rain_5 : decode cX9_rain 5 = .ok (.iconst 1, 1) := by decide +kernel
theorem dX9_rain_6 : decode cX9_rain 6 = .ok (.if_icmp .le 5, 3) := by decide +kernel
theorem dX9_rain_9 : decode cX9_rain 9 = .ok (.iconst (-1), 1) := by decide +kernel
theorem dX9_rain_10 : decode cX9_rain 10 = .ok (.ireturn, 1) := by decide +kernel
theorem dX9_rain_11 : decode cX9_rain 11 = .ok (.aload_n 0, 1) := by decide +kernel
theorem dX9_rain_12 : decode cX9_rain 12 = .ok (.getfield 71, 3) := by decide +kernel
theorem dX9_rain_15 : decode cX9_rain 15 = .ok (.getfield 127, 3) := by decide +kernel
theorem dX9_rain_18 : decode cX9_rain 18 = .ok (.ifCond .eq 14, 3) := by decide +kernel
theorem dX9_rain_21 : decode cX9_rain 21 = .ok (.aload_n 0, 1) := by decide +kernel
theorem dX9_rain_22 : decode cX9_rain 22 = .ok (.getfield 71, 3) := by decide +kernel
theorem dX9_rain_25 : decode cX9_rain 25 = .ok (.getfield 179, 3) := by decide +kernel
theorem dX9_rain_28 : decode cX9_rain 28 = .ok (.iload_n 1, 1) := by decide +kernel
theorem dX9_rain_29 : decode cX9_rain 29 = .ok (.if_icmp .ne 6, 3) := by decide +kernel
theorem dX9_rain_32 : decode cX9_rain 32 = .ok (.bipush (-4), 2) := by decide +kernel
theorem dX9_rain_34 : decode cX9_rain 34 = .ok (.ireturn, 1) := by decide +kernel
theorem dX9_rain_35 : decode cX9_rain 35 = .ok (.aload_n 0, 1) := by decide +kernel
theorem dX9_rain_36 : decode cX9_rain 36 = .ok (.getfield 31, 3) := by decide +kernel
theorem dX9_rain_39 : decode cX9_rain 39 = .ok (.invokevirtual 169, 3) := by decide +kernel
theorem dX9_rain_42 : decode cX9_rain 42 = .ok (.ifCond .eq 6, 3) := by decide +kernel
theorem dX9_rain_45 : decode cX9_rain 45 = .ok (.bipush (-2), 2) := by decide +kernel
theorem dX9_rain_47 : decode cX9_rain 47 = .ok (.ireturn, 1) := by decide +kernel
theorem dX9_rain_48 : decode cX9_rain 48 = .ok (.aload_n 0, 1) := by decide +kernel
theorem dX9_rain_49 : decode cX9_rain 49 = .ok (.iconst 3, 1) := by decide +kernel
theorem dX9_rain_50 : decode cX9_rain 50 = .ok (.iload_n 1, 1) := by decide +kernel
theorem dX9_rain_51 : decode cX9_rain 51 = .ok (.invokevirtual 173, 3) := by decide +kernel
theorem dX9_rain_54 : decode cX9_rain 54 = .ok (.pop, 1) := by decide +kernel
theorem dX9_rain_55 : decode cX9_rain 55 = .ok (.aload_n 0, 1) := by decide +kernel
theorem dX9_rain_56 : decode cX9_rain 56 = .ok (.getfield 71, 3) := by decide +kernel
theorem dX9_rain_59 : decode cX9_rain 59 = .ok (.getfield 179, 3) := by decide +kernel
theorem dX9_rain_62 : decode cX9_rain 62 = .ok (.ireturn, 1) := by decide +kernel
theorem dX9_stand_0 : decode cX9_stand 0 = .ok (.aload_n 0, 1) := by decide +kernel
theorem dX9_stand_1 : decode cX9_stand 1 = .ok (.getfield 71, 3) := by decide +kernel
theorem dX9_stand_4 : decode cX9_stand 4 = .ok (.iload_n 1, 1) := by decide +kernel
theorem dX9_stand_5 : decode cX9_stand 5 = .ok (.invokevirtual 130, 3) := by decide +kernel
theorem dX9_stand_8 : decode cX9_stand 8 = .ok (.ifCond .eq 13, 3) := by decide +kernel
theorem dX9_stand_11 : decode cX9_stand 11 = .ok (.iload_n 2, 1) := by decide +kernel
theorem dX9_stand_12 : decode cX9_stand 12 = .ok (.ifCond .lt 9, 3) := by decide +kernel
theorem dX9_stand_15 : decode cX9_stand 15 = .ok (.iload_n 2, 1) := by decide +kernel
theorem dX9_stand_16 : decode cX9_stand 16 = .ok (.bipush 10, 2) := by decide +kernel
theorem dX9_stand_18 : decode cX9_stand 18 = .ok (.if_icmp .lt 5, 3) := by decide +kernel
theorem dX9_stand_21 : decode cX9_stand 21 = .ok (.iconst (-1), 1) := by decide +kernel
theorem dX9_stand_22 : decode cX9_stand 22 = .ok (.ireturn, 1) := by decide +kernel
theorem dX9_stand_23 : decode cX9_stand 23 = .ok (.aload_n 0, 1) := by decide +kernel
theorem dX9_stand_24 : decode cX9_stand 24 = .ok (.getfield 71, 3) := by decide +kernel
theorem dX9_stand_27 : decode cX9_stand 27 = .ok (.getfield 182, 3) := by decide +kernel
theorem dX9_stand_30 : decode cX9_stand 30 = .ok (.iload_n 1, 1) := by decide +kernel
theorem dX9_stand_31 : decode cX9_stand 31 = .ok (.iaload, 1) := by decide +kernel
theorem dX9_stand_32 : decode cX9_stand 32 = .ok (.istore_n 3, 1) := by decide +kernel
theorem dX9_stand_33 : decode cX9_stand 33 = .ok (.iload_n 3, 1) := by decide +kernel
theorem dX9_stand_34 : decode cX9_stand 34 = .ok (.iload_n 2, 1) := by decide +kernel
theorem dX9_stand_35 : decode cX9_stand 35 = .ok (.if_icmp .ne 6, 3) := by decide +kernel
theorem dX9_stand_38 : decode cX9_stand 38 = .ok (.bipush (-4), 2) := by decide +kernel
theorem dX9_stand_40 : decode cX9_stand 40 = .ok (.ireturn, 1) := by decide +kernel
theorem dX9_stand_41 : decode cX9_stand 41 = .ok (.aload_n 0, 1) := by decide +kernel
theorem dX9_stand_42 : decode cX9_stand 42 = .ok (.getfield 31, 3) := by decide +kernel
theorem dX9_stand_45 : decode cX9_stand 45 = .ok (.invokevirtual 169, 3) := by decide +kernel
theorem dX9_stand_48 : decode cX9_stand 48 = .ok (.ifCond .eq 6, 3) := by decide +kernel
theorem dX9_stand_51 : decode cX9_stand 51 = .ok (.bipush (-2), 2) := by decide +kernel
theorem dX9_stand_53 : decode cX9_stand 53 = .ok (.ireturn, 1) := by decide +kernel
theorem dX9_stand_54 : decode cX9_stand 54 = .ok (.aload_n 0, 1) := by decide +kernel
theorem dX9_stand_55 : decode cX9_stand 55 = .ok (.iconst 4, 1) := by decide +kernel
theorem dX9_stand_56 : decode cX9_stand 56 = .ok (.iload_n 1, 1) := by decide +kernel
theorem dX9_stand_57 : decode cX9_stand 57 = .ok (.bipush 10, 2) := by decide +kernel
theorem dX9_stand_59 : decode cX9_stand 59 = .ok (.imul, 1) := by decide +kernel
theorem dX9_stand_60 : decode cX9_stand 60 = .ok (.iload_n 2, 1) := by decide +kernel
theorem dX9_stand_61 : decode cX9_stand 61 = .ok (.iadd, 1) := by decide +kernel
theorem dX9_stand_62 : decode cX9_stand 62 = .ok (.invokevirtual 173, 3) := by decide +kernel
theorem dX9_stand_65 : decode cX9_stand 65 = .ok (.pop, 1) := by decide +kernel
theorem dX9_stand_66 : decode cX9_stand 66 = .ok (.iload_n 3, 1) := by decide +kernel
theorem dX9_stand_67 : decode cX9_stand 67 = .ok (.ireturn, 1) := by decide +kernel
theorem dX9_undo_0 : decode cX9_undo 0 = .ok (.iload_n 1, 1) := by decide +kernel
theorem dX9_undo_1 : decode cX9_undo 1 = .ok (.ifCond .lt 14, 3) := by decide +kernel
theorem dX9_undo_4 : decode cX9_undo 4 = .ok (.iload_n 1, 1) := by decide +kernel
theorem dX9_undo_5 : decode cX9_undo 5 = .ok (.aload_n 0, 1) := by decide +kernel
theorem dX9_undo_6 : decode cX9_undo 6 = .ok (.getfield 31, 3) := by decide +kernel
theorem dX9_undo_9 : decode cX9_undo 9 = .ok (.getfield 124, 3) := by decide +kernel
theorem dX9_undo_12 : decode cX9_undo 12 = .ok (.if_icmp .le 5, 3) := by decide +kernel
theorem dX9_undo_15 : decode cX9_undo 15 = .ok (.iconst (-1), 1) := by decide +kernel
theorem dX9_undo_16 : decode cX9_undo 16 = .ok (.ireturn, 1) := by decide +kernel
theorem dX9_undo_17 : decode cX9_undo 17 = .ok (.aload_n 0, 1) := by decide +kernel
theorem dX9_undo_18 : decode cX9_undo 18 = .ok (.getfield 31, 3) := by decide +kernel
theorem dX9_undo_21 : decode cX9_undo 21 = .ok (.getfield 124, 3) := by decide +kernel
theorem dX9_undo_24 : decode cX9_undo 24 = .ok (.iload_n 1, 1) := by decide +kernel
theorem dX9_undo_25 : decode cX9_undo 25 = .ok (.isub, 1) := by decide +kernel
theorem dX9_undo_26 : decode cX9_undo 26 = .ok (.istore_n 2, 1) := by decide +kernel
theorem dX9_undo_27 : decode cX9_undo 27 = .ok (.aload_n 0, 1) := by decide +kernel
theorem dX9_undo_28 : decode cX9_undo 28 = .ok (.getfield 31, 3) := by decide +kernel
theorem dX9_undo_31 : decode cX9_undo 31 = .ok (.iload_n 1, 1) := by decide +kernel
theorem dX9_undo_32 : decode cX9_undo 32 = .ok (.putfield 124, 3) := by decide +kernel
theorem dX9_undo_35 : decode cX9_undo 35 = .ok (.aload_n 0, 1) := by decide +kernel
theorem dX9_undo_36 : decode cX9_undo 36 = .ok (.invokevirtual 185, 3) := by decide +kernel
theorem dX9_undo_39 : decode cX9_undo 39 = .ok (.iload_n 2, 1) := by decide +kernel
theorem dX9_undo_40 : decode cX9_undo 40 = .ok (.ireturn, 1) := by decide +kernel
theorem dX9_keep_0 : decode cX9_keep 0 = .ok (.iload_n 1, 1) := by decide +kernel
theorem dX9_keep_1 : decode cX9_keep 1 = .ok (.invokestatic 188, 3) := by decide +kernel
theorem dX9_keep_4 : decode cX9_keep 4 = .ok (.ifCond .ne 5, 3) := by decide +kernel
theorem dX9_keep_7 : decode cX9_keep 7 = .ok (.iconst (-1), 1) := by decide +kernel
theorem dX9_keep_8 : decode cX9_keep 8 = .ok (.ireturn, 1) := by decide +kernel
theorem dX9_keep_9 : decode cX9_keep 9 = .ok (.aload_n 0, 1) := by decide +kernel
theorem dX9_keep_10 : decode cX9_keep 10 = .ok (.getfield 71, 3) := by decide +kernel
theorem dX9_keep_13 : decode cX9_keep 13 = .ok (.getfield 127, 3) := by decide +kernel
theorem dX9_keep_16 : decode cX9_keep 16 = .ok (.ifCond .ne 6, 3) := by decide +kernel
theorem dX9_keep_19 : decode cX9_keep 19 = .ok (.bipush (-4), 2) := by decide +kernel
theorem dX9_keep_21 : decode cX9_keep 21 = .ok (.ireturn, 1) := by decide +kernel
theorem dX9_keep_22 : decode cX9_keep 22 = .ok (.aload_n 0, 1) := by decide +kernel
theorem dX9_keep_23 : decode cX9_keep 23 = .ok (.getfield 35, 3) := by decide +kernel
theorem dX9_keep_26 : decode cX9_keep 26 = .ok (.iload_n 1, 1) := by decide +kernel
theorem dX9_keep_27 : decode cX9_keep 27 = .ok (.aaload, 1) := by decide +kernel
theorem dX9_keep_28 : decode cX9_keep 28 = .ok (.aload_n 0, 1) := by decide +kernel
theorem dX9_keep_29 : decode cX9_keep 29 = .ok (.getfield 31, 3) := by decide +kernel
theorem dX9_keep_32 : decode cX9_keep 32 = .ok (.invokevirtual 191, 3) := by decide +kernel
theorem dX9_keep_35 : decode cX9_keep 35 = .ok (.aload_n 0, 1) := by decide +kernel
theorem dX9_keep_36 : decode cX9_keep 36 = .ok (.getfield 31, 3) := by decide +kernel
theorem dX9_keep_39 : decode cX9_keep 39 = .ok (.getfield 124, 3) := by decide +kernel
theorem dX9_keep_42 : decode cX9_keep 42 = .ok (.ireturn, 1) := by decide +kernel
theorem dX9_on_0 : decode cX9_on 0 = .ok (.iload_n 1, 1) := by decide +kernel
theorem dX9_on_1 : decode cX9_on 1 = .ok (.invokestatic 188, 3) := by decide +kernel
theorem dX9_on_4 : decode cX9_on 4 = .ok (.ifCond .ne 5, 3) := by decide +kernel
theorem dX9_on_7 : decode cX9_on 7 = .ok (.iconst (-1), 1) := by decide +kernel
theorem dX9_on_8 : decode cX9_on 8 = .ok (.ireturn, 1) := by decide +kernel
theorem dX9_on_9 : decode cX9_on 9 = .ok (.aload_n 0, 1) := by decide +kernel
theorem dX9_on_10 : decode cX9_on 10 = .ok (.getfield 35, 3) := by decide +kernel
theorem dX9_on_13 : decode cX9_on 13 = .ok (.iload_n 1, 1) := by decide +kernel
theorem dX9_on_14 : decode cX9_on 14 = .ok (.aaload, 1) := by decide +kernel
theorem dX9_on_15 : decode cX9_on 15 = .ok (.getfield 124, 3) := by decide +kernel
theorem dX9_on_18 : decode cX9_on 18 = .ok (.iconst (-1), 1) := by decide +kernel
theorem dX9_on_19 : decode cX9_on 19 = .ok (.if_icmp .ne 9, 3) := by decide +kernel
theorem dX9_on_22 : decode cX9_on 22 = .ok (.aload_n 0, 1) := by decide +kernel
theorem dX9_on_23 : decode cX9_on 23 = .ok (.iconst 1, 1) := by decide +kernel
theorem dX9_on_24 : decode cX9_on 24 = .ok (.invokevirtual 87, 3) := by decide +kernel
theorem dX9_on_27 : decode cX9_on 27 = .ok (.ireturn, 1) := by decide +kernel
theorem dX9_on_28 : decode cX9_on 28 = .ok (.aload_n 0, 1) := by decide +kernel
theorem dX9_on_29 : decode cX9_on 29 = .ok (.getfield 31, 3) := by decide +kernel
theorem dX9_on_32 : decode cX9_on 32 = .ok (.aload_n 0, 1) := by decide +kernel
theorem dX9_on_33 : decode cX9_on 33 = .ok (.getfield 35, 3) := by decide +kernel
theorem dX9_on_36 : decode cX9_on 36 = .ok (.iload_n 1, 1) := by decide +kernel
theorem dX9_on_37 : decode cX9_on 37 = .ok (.aaload, 1) := by decide +kernel
theorem dX9_on_38 : decode cX9_on 38 = .ok (.invokevirtual 191, 3) := by decide +kernel
theorem dX9_on_41 : decode cX9_on 41 = .ok (.aload_n 0, 1) := by decide +kernel
theorem dX9_on_42 : decode cX9_on 42 = .ok (.invokevirtual 185, 3) := by decide +kernel
theorem dX9_on_45 : decode cX9_on 45 = .ok (.aload_n 0, 1) := by decide +kernel
theorem dX9_on_46 : decode cX9_on 46 = .ok (.getfield 31, 3) := by decide +kernel
theorem dX9_on_49 : decode cX9_on 49 = .ok (.getfield 124, 3) := by decide +kernel
theorem dX9_on_52 : decode cX9_on 52 = .ok (.ireturn, 1) := by decide +kernel
theorem dX9_gathers_0 : decode cX9_gathers 0 = .ok (.aload_n 0, 1) := by decide +kernel
theorem dX9_gathers_1 : decode cX9_gathers 1 = .ok (.getfield 71, 3) := by decide +kernel
theorem dX9_gathers_4 : decode cX9_gathers 4 = .ok (.iload_n 1, 1) := by decide +kernel
theorem dX9_gathers_5 : decode cX9_gathers 5 = .ok (.invokevirtual 130, 3) := by decide +kernel
theorem dX9_gathers_8 : decode cX9_gathers 8 = .ok (.ifCond .eq 13, 3) := by decide +kernel
theorem dX9_gathers_11 : decode cX9_gathers 11 = .ok (.iload_n 2, 1) := by decide +kernel
theorem dX9_gathers_12 : decode cX9_gathers 12 = .ok (.ifCond .lt 9, 3) := by decide +kernel
theorem dX9_gathers_15 : decode cX9_gathers 15 = .ok (.iload_n 2, 1) := by decide +kernel
theorem dX9_gathers_16 : decode cX9_gathers 16 = .ok (.bipush 60, 2) := by decide +kernel
theorem dX9_gathers_18 : decode cX9_gathers 18 = .ok (.if_icmp .le 5, 3) := by decide +kernel
theorem dX9_gathers_21 : decode cX9_gathers 21 = .ok (.iconst (-1), 1) := by decide +kernel
theorem dX9_gathers_22 : decode cX9_gathers 22 = .ok (.ireturn, 1) := by decide +kernel
theorem dX9_gathers_23 : decode cX9_gathers 23 = .ok (.aload_n 0, 1) := by decide +kernel
theorem dX9_gathers_24 : decode cX9_gathers 24 = .ok (.getfield 71, 3) := by decide +kernel
theorem dX9_gathers_27 : decode cX9_gathers 27 = .ok (.iload_n 1, 1) := by decide +kernel
theorem dX9_gathers_28 : decode cX9_gathers 28 = .ok (.iload_n 2, 1) := by decide +kernel
theorem dX9_gathers_29 : decode cX9_gathers 29 = .ok (.invokevirtual 194, 3) := by decide +kernel
theorem dX9_gathers_32 : decode cX9_gathers 32 = .ok (.ireturn, 1) := by decide +kernel
theorem dX9_cloud_0 : decode cX9_cloud 0 = .ok (.iload_n 1, 1) := by decide +kernel
theorem dX9_cloud_1 : decode cX9_cloud 1 = .ok (.ifCond .lt 9, 3) := by decide +kernel
theorem dX9_cloud_4 : decode cX9_cloud 4 = .ok (.iload_n 1, 1) := by decide +kernel
theorem dX9_cloud_5 : decode cX9_cloud 5 = .ok (.bipush 40, 2) := by decide +kernel
theorem dX9_cloud_7 : decode cX9_cloud 7 = .ok (.if_icmp .le 5, 3) := by decide +kernel
theorem dX9_cloud_10 : decode cX9_cloud 10 = .ok (.iconst (-1), 1) := by decide +kernel
theorem dX9_cloud_11 : decode cX9_cloud 11 = .ok (.ireturn, 1) := by decide +kernel
theorem dX9_cloud_12 : decode cX9_cloud 12 = .ok (.aload_n 0, 1) := by decide +kernel
theorem dX9_cloud_13 : decode cX9_cloud 13 = .ok (.getfield 71, 3) := by decide +kernel
theorem dX9_cloud_16 : decode cX9_cloud 16 = .ok (.getfield 127, 3) := by decide +kernel
theorem dX9_cloud_19 : decode cX9_cloud 19 = .ok (.ifCond .ne 6, 3) := by decide +kernel
theorem dX9_cloud_22 : decode cX9_cloud 22 = .ok (.bipush (-4), 2) := by decide +kernel
theorem dX9_cloud_24 : decode cX9_cloud 24 = .ok (.ireturn, 1) := by decide +kernel
theorem dX9_cloud_25 : decode cX9_cloud 25 = .ok (.aload_n 0, 1) := by decide +kernel
theorem dX9_cloud_26 : decode cX9_cloud 26 = .ok (.getfield 74, 3) := by decide +kernel
theorem dX9_cloud_29 : decode cX9_cloud 29 = .ok (.aload_n 0, 1) := by decide +kernel
theorem dX9_cloud_30 : decode cX9_cloud 30 = .ok (.getfield 71, 3) := by decide +kernel
theorem dX9_cloud_33 : decode cX9_cloud 33 = .ok (.invokevirtual 120, 3) := by decide +kernel
theorem dX9_cloud_36 : decode cX9_cloud 36 = .ok (.aload_n 0, 1) := by decide +kernel
theorem dX9_cloud_37 : decode cX9_cloud 37 = .ok (.getfield 74, 3) := by decide +kernel
theorem dX9_cloud_40 : decode cX9_cloud 40 = .ok (.iload_n 1, 1) := by decide +kernel
theorem dX9_cloud_41 : decode cX9_cloud 41 = .ok (.invokevirtual 197, 3) := by decide +kernel
theorem dX9_cloud_44 : decode cX9_cloud 44 = .ok (.aload_n 0, 1) := by decide +kernel
theorem dX9_cloud_45 : decode cX9_cloud 45 = .ok (.aload_n 0, 1) := by decide +kernel
theorem dX9_cloud_46 : decode cX9_cloud 46 = .ok (.getfield 74, 3) := by decide +kernel
theorem dX9_cloud_49 : decode cX9_cloud 49 = .ok (.getfield 200, 3) := by decide +kernel
theorem dX9_cloud_52 : decode cX9_cloud 52 = .ok (.putfield 49, 3) := by decide +kernel
theorem dX9_cloud_55 : decode cX9_cloud 55 = .ok (.aload_n 0, 1) := by decide +kernel
theorem dX9_cloud_56 : decode cX9_cloud 56 = .ok (.getfield 74, 3) := by decide +kernel
theorem dX9_cloud_59 : decode cX9_cloud 59 = .ok (.getfield 159, 3) := by decide +kernel
theorem dX9_cloud_62 : decode cX9_cloud 62 = .ok (.ireturn, 1) := by decide +kernel
theorem dX9_share_0 : decode cX9_share 0 = .ok (.aload_n 0, 1) := by decide +kernel
theorem dX9_share_1 : decode cX9_share 1 = .ok (.getfield 71, 3) := by decide +kernel
theorem dX9_share_4 : decode cX9_share 4 = .ok (.iload_n 1, 1) := by decide +kernel
theorem dX9_share_5 : decode cX9_share 5 = .ok (.invokevirtual 130, 3) := by decide +kernel
theorem dX9_share_8 : decode cX9_share 8 = .ok (.ifCond .eq 13, 3) := by decide +kernel
theorem dX9_share_11 : decode cX9_share 11 = .ok (.iload_n 2, 1) := by decide +kernel
theorem dX9_share_12 : decode cX9_share 12 = .ok (.ifCond .lt 9, 3) := by decide +kernel
theorem dX9_share_15 : decode cX9_share 15 = .ok (.iload_n 2, 1) := by decide +kernel
theorem dX9_share_16 : decode cX9_share 16 = .ok (.bipush 40, 2) := by decide +kernel
theorem dX9_share_18 : decode cX9_share 18 = .ok (.if_icmp .le 5, 3) := by decide +kernel
theorem dX9_share_21 : decode cX9_share 21 = .ok (.iconst (-1), 1) := by decide +kernel
theorem dX9_share_22 : decode cX9_share 22 = .ok (.ireturn, 1) := by decide +kernel
theorem dX9_share_23 : decode cX9_share 23 = .ok (.aload_n 0, 1) := by decide +kernel
theorem dX9_share_24 : decode cX9_share 24 = .ok (.getfield 74, 3) := by decide +kernel
theorem dX9_share_27 : decode cX9_share 27 = .ok (.aload_n 0, 1) := by decide +kernel
theorem dX9_share_28 : decode cX9_share 28 = .ok (.getfield 71, 3) := by decide +kernel
theorem dX9_share_31 : decode cX9_share 31 = .ok (.invokevirtual 120, 3) := by decide +kernel
theorem dX9_share_34 : decode cX9_share 34 = .ok (.aload_n 0, 1) := by decide +kernel
theorem dX9_share_35 : decode cX9_share 35 = .ok (.getfield 74, 3) := by decide +kernel
theorem dX9_share_38 : decode cX9_share 38 = .ok (.iload_n 2, 1) := by decide +kernel
theorem dX9_share_39 : decode cX9_share 39 = .ok (.invokevirtual 197, 3) := by decide +kernel
theorem dX9_share_42 : decode cX9_share 42 = .ok (.aload_n 0, 1) := by decide +kernel
theorem dX9_share_43 : decode cX9_share 43 = .ok (.getfield 74, 3) := by decide +kernel
theorem dX9_share_46 : decode cX9_share 46 = .ok (.getfield 146, 3) := by decide +kernel
theorem dX9_share_49 : decode cX9_share 49 = .ok (.iload_n 1, 1) := by decide +kernel
theorem dX9_share_50 : decode cX9_share 50 = .ok (.iaload, 1) := by decide +kernel
theorem dX9_share_51 : decode cX9_share 51 = .ok (.ireturn, 1) := by decide +kernel
theorem dX9_first_0 : decode cX9_first 0 = .ok (.aload_n 0, 1) := by decide +kernel
theorem dX9_first_1 : decode cX9_first 1 = .ok (.getfield 71, 3) := by decide +kernel
theorem dX9_first_4 : decode cX9_first 4 = .ok (.iload_n 1, 1) := by decide +kernel
theorem dX9_first_5 : decode cX9_first 5 = .ok (.invokevirtual 130, 3) := by decide +kernel
theorem dX9_first_8 : decode cX9_first 8 = .ok (.ifCond .ne 5, 3) := by decide +kernel
theorem dX9_first_11 : decode cX9_first 11 = .ok (.iconst (-1), 1) := by decide +kernel
theorem dX9_first_12 : decode cX9_first 12 = .ok (.ireturn, 1) := by decide +kernel
theorem dX9_first_13 : decode cX9_first 13 = .ok (.aload_n 0, 1) := by decide +kernel
theorem dX9_first_14 : decode cX9_first 14 = .ok (.getfield 74, 3) := by decide +kernel
theorem dX9_first_17 : decode cX9_first 17 = .ok (.aload_n 0, 1) := by decide +kernel
theorem dX9_first_18 : decode cX9_first 18 = .ok (.getfield 71, 3) := by decide +kernel
theorem dX9_first_21 : decode cX9_first 21 = .ok (.invokevirtual 120, 3) := by decide +kernel
theorem dX9_first_24 : decode cX9_first 24 = .ok (.iconst 1, 1) := by decide +kernel
theorem dX9_first_25 : decode cX9_first 25 = .ok (.istore_n 2, 1) := by decide +kernel
theorem dX9_first_26 : decode cX9_first 26 = .ok (.iload_n 2, 1) := by decide +kernel
theorem dX9_first_27 : decode cX9_first 27 = .ok (.bipush 40, 2) := by decide +kernel
theorem dX9_first_29 : decode cX9_first 29 = .ok (.if_icmp .gt 27, 3) := by decide +kernel
theorem dX9_first_32 : decode cX9_first 32 = .ok (.aload_n 0, 1) := by decide +kernel
theorem dX9_first_33 : decode cX9_first 33 = .ok (.getfield 74, 3) := by decide +kernel
theorem dX9_first_36 : decode cX9_first 36 = .ok (.iconst 0, 1) := by decide +kernel
theorem dX9_first_37 : decode cX9_first 37 = .ok (.invokevirtual 203, 3) := by decide +kernel
theorem dX9_first_40 : decode cX9_first 40 = .ok (.iload_n 1, 1) := by decide +kernel
theorem dX9_first_41 : decode cX9_first 41 = .ok (.ishr, 1) := by decide +kernel
theorem dX9_first_42 : decode cX9_first 42 = .ok (.iconst 1, 1) := by decide +kernel
theorem dX9_first_43 : decode cX9_first 43 = .ok (.iand, 1) := by decide +kernel
theorem dX9_first_44 : decode cX9_first 44 = .ok (.iconst 1, 1) := by decide +kernel
theorem dX9_first_45 : decode cX9_first 45 = .ok (.if_icmp .ne 5, 3) := by decide +kernel
theorem dX9_first_48 : decode cX9_first 48 = .ok (.iload_n 2, 1) := by decide +kernel
theorem dX9_first_49 : decode cX9_first 49 = .ok (.ireturn, 1) := by decide +kernel
theorem dX9_first_50 : decode cX9_first 50 = .ok (.iinc 2 1, 3) := by decide +kernel
theorem dX9_first_53 : decode cX9_first 53 = .ok (.goto (-27), 3) := by decide +kernel
theorem dX9_first_56 : decode cX9_first 56 = .ok (.bipush (-9), 2) := by decide +kernel
theorem dX9_first_58 : decode cX9_first 58 = .ok (.ireturn, 1) := by decide +kernel
theorem dX9_away_0 : decode cX9_away 0 = .ok (.aload_n 0, 1) := by decide +kernel
theorem dX9_away_1 : decode cX9_away 1 = .ok (.getfield 71, 3) := by decide +kernel
theorem dX9_away_4 : decode cX9_away 4 = .ok (.iload_n 1, 1) := by decide +kernel
theorem dX9_away_5 : decode cX9_away 5 = .ok (.invokevirtual 130, 3) := by decide +kernel
theorem dX9_away_8 : decode cX9_away 8 = .ok (.ifCond .eq 20, 3) := by decide +kernel
theorem dX9_away_11 : decode cX9_away 11 = .ok (.iload_n 2, 1) := by decide +kernel
theorem dX9_away_12 : decode cX9_away 12 = .ok (.ifCond .lt 16, 3) := by decide +kernel
theorem dX9_away_15 : decode cX9_away 15 = .ok (.iload_n 2, 1) := by decide +kernel
theorem dX9_away_16 : decode cX9_away 16 = .ok (.bipush 30, 2) := by decide +kernel
theorem dX9_away_18 : decode cX9_away 18 = .ok (.if_icmp .gt 10, 3) := by decide +kernel
theorem dX9_away_21 : decode cX9_away 21 = .ok (.iload_n 3, 1) := by decide +kernel
theorem dX9_away_22 : decode cX9_away 22 = .ok (.invokestatic 206, 3) := by decide +kernel
theorem dX9_away_25 : decode cX9_away 25 = .ok (.ifCond .ne 5, 3) := by decide +kernel
theorem dX9_away_28 : decode cX9_away 28 = .ok (.iconst (-1), 1) := by decide +kernel
theorem dX9_away_29 : decode cX9_away 29 = .ok (.ireturn, 1) := by decide +kernel
theorem dX9_away_30 : decode cX9_away 30 = .ok (.bipush 6, 2) := by decide +kernel
theorem dX9_away_32 : decode cX9_away 32 = .ok (.istore 4, 2) := by decide +kernel
theorem dX9_away_34 : decode cX9_away 34 = .ok (.iconst 0, 1) := by decide +kernel
theorem dX9_away_35 : decode cX9_away 35 = .ok (.istore 5, 2) := by decide +kernel
theorem dX9_away_37 : decode cX9_away 37 = .ok (.iconst 0, 1) := by decide +kernel
theorem dX9_away_38 : decode cX9_away 38 = .ok (.istore 6, 2) := by decide +kernel
theorem dX9_away_40 : decode cX9_away 40 = .ok (.iload 6, 2) := by decide +kernel
theorem dX9_away_42 : decode cX9_away 42 = .ok (.iconst 1, 1) := by decide +kernel
theorem dX9_away_43 : decode cX9_away 43 = .ok (.aload_n 0, 1) := by decide +kernel
theorem dX9_away_44 : decode cX9_away 44 = .ok (.getfield 71, 3) := by decide +kernel
theorem dX9_away_47 : decode cX9_away 47 = .ok (.getfield 127, 3) := by decide +kernel
theorem dX9_away_50 : decode cX9_away 50 = .ok (.ishl, 1) := by decide +kernel
theorem dX9_away_51 : decode cX9_away 51 = .ok (.if_icmp .ge 52, 3) := by decide +kernel
theorem dX9_away_54 : decode cX9_away 54 = .ok (.iload 6, 2) := by decide +kernel
theorem dX9_away_56 : decode cX9_away 56 = .ok (.invokestatic 209, 3) := by decide +kernel
theorem dX9_away_59 : decode cX9_away 59 = .ok (.istore 7, 2) := by decide +kernel
theorem dX9_away_61 : decode cX9_away 61 = .ok (.iload 6, 2) := by decide +kernel
theorem dX9_away_63 : decode cX9_away 63 = .ok (.iload_n 1, 1) := by decide +kernel
theorem dX9_away_64 : decode cX9_away 64 = .ok (.ishr, 1) := by decide +kernel
theorem dX9_away_65 : decode cX9_away 65 = .ok (.iconst 1, 1) := by decide +kernel
theorem dX9_away_66 : decode cX9_away 66 = .ok (.iand, 1) := by decide +kernel
theorem dX9_away_67 : decode cX9_away 67 = .ok (.ifCond .ne 30, 3) := by decide +kernel
theorem dX9_away_70 : decode cX9_away 70 = .ok (.iload 7, 2) := by decide +kernel
theorem dX9_away_72 : decode cX9_away 72 = .ok (.iload 4, 2) := by decide +kernel
theorem dX9_away_74 : decode cX9_away 74 = .ok (.if_icmp .ge 23, 3) := by decide +kernel
theorem dX9_away_77 : decode cX9_away 77 = .ok (.aload_n 0, 1) := by decide +kernel
theorem dX9_away_78 : decode cX9_away 78 = .ok (.iload 6, 2) := by decide +kernel
theorem dX9_away_80 : decode cX9_away 80 = .ok (.iload_n 1, 1) := by decide +kernel
theorem dX9_away_81 : decode cX9_away 81 = .ok (.iload_n 3, 1) := by decide +kernel
theorem dX9_away_82 : decode cX9_away 82 = .ok (.invokevirtual 214, 3) := by decide +kernel
theorem dX9_away_85 : decode cX9_away 85 = .ok (.iload_n 2, 1) := by decide +kernel
theorem dX9_away_86 : decode cX9_away 86 = .ok (.if_icmp .lt 11, 3) := by decide +kernel
theorem dX9_away_89 : decode cX9_away 89 = .ok (.iload 7, 2) := by decide +kernel
theorem dX9_away_91 : decode cX9_away 91 = .ok (.istore 4, 2) := by decide +kernel
theorem dX9_away_93 : decode cX9_away 93 = .ok (.iload 6, 2) := by decide +kernel
theorem dX9_away_95 : decode cX9_away 95 = .ok (.istore 5, 2) := by decide +kernel
theorem dX9_away_97 : decode cX9_away 97 = .ok (.iinc 6 1, 3) := by decide +kernel
theorem dX9_away_100 : decode cX9_away 100 = .ok (.goto (-60), 3) := by decide +kernel
theorem dX9_away_103 : decode cX9_away 103 = .ok (.iload 4, 2) := by decide +kernel
theorem dX9_away_105 : decode cX9_away 105 = .ok (.bipush 6, 2) := by decide +kernel
theorem dX9_away_107 : decode cX9_away 107 = .ok (.if_icmp .ne 6, 3) := by decide +kernel
theorem dX9_away_110 : decode cX9_away 110 = .ok (.bipush (-9), 2) := by decide +kernel
theorem dX9_away_112 : decode cX9_away 112 = .ok (.ireturn, 1) := by decide +kernel
theorem dX9_away_113 : decode cX9_away 113 = .ok (.aload_n 0, 1) := by decide +kernel
theorem dX9_away_114 : decode cX9_away 114 = .ok (.iload 5, 2) := by decide +kernel
theorem dX9_away_116 : decode cX9_away 116 = .ok (.putfield 49, 3) := by decide +kernel
theorem dX9_away_119 : decode cX9_away 119 = .ok (.iload 4, 2) := by decide +kernel
theorem dX9_away_121 : decode cX9_away 121 = .ok (.ireturn, 1) := by decide +kernel
theorem dX9_best_0 : decode cX9_best 0 = .ok (.aload_n 0, 1) := by decide +kernel
theorem dX9_best_1 : decode cX9_best 1 = .ok (.getfield 71, 3) := by decide +kernel
theorem dX9_best_4 : decode cX9_best 4 = .ok (.iload_n 1, 1) := by decide +kernel
theorem dX9_best_5 : decode cX9_best 5 = .ok (.invokevirtual 130, 3) := by decide +kernel
theorem dX9_best_8 : decode cX9_best 8 = .ok (.ifCond .eq 10, 3) := by decide +kernel
theorem dX9_best_11 : decode cX9_best 11 = .ok (.iload_n 2, 1) := by decide +kernel
theorem dX9_best_12 : decode cX9_best 12 = .ok (.invokestatic 206, 3) := by decide +kernel
theorem dX9_best_15 : decode cX9_best 15 = .ok (.ifCond .ne 5, 3) := by decide +kernel
theorem dX9_best_18 : decode cX9_best 18 = .ok (.iconst (-1), 1) := by decide +kernel
theorem dX9_best_19 : decode cX9_best 19 = .ok (.ireturn, 1) := by decide +kernel
theorem dX9_best_20 : decode cX9_best 20 = .ok (.iconst (-1), 1) := by decide +kernel
theorem dX9_best_21 : decode cX9_best 21 = .ok (.istore_n 3, 1) := by decide +kernel
theorem dX9_best_22 : decode cX9_best 22 = .ok (.iconst 0, 1) := by decide +kernel
theorem dX9_best_23 : decode cX9_best 23 = .ok (.istore 4, 2) := by decide +kernel
theorem dX9_best_25 : decode cX9_best 25 = .ok (.iconst 0, 1) := by decide +kernel
theorem dX9_best_26 : decode cX9_best 26 = .ok (.istore 5, 2) := by decide +kernel
theorem dX9_best_28 : decode cX9_best 28 = .ok (.iload 5, 2) := by decide +kernel
theorem dX9_best_30 : decode cX9_best 30 = .ok (.bipush 10, 2) := by decide +kernel
theorem dX9_best_32 : decode cX9_best 32 = .ok (.if_icmp .ge 66, 3) := by decide +kernel
theorem dX9_best_35 : decode cX9_best 35 = .ok (.aload_n 0, 1) := by decide +kernel
theorem dX9_best_36 : decode cX9_best 36 = .ok (.getfield 74, 3) := by decide +kernel
theorem dX9_best_39 : decode cX9_best 39 = .ok (.aload_n 0, 1) := by decide +kernel
theorem dX9_best_40 : decode cX9_best 40 = .ok (.getfield 71, 3) := by decide +kernel
theorem dX9_best_43 : decode cX9_best 43 = .ok (.invokevirtual 120, 3) := by decide +kernel
theorem dX9_best_46 : decode cX9_best 46 = .ok (.aload_n 0, 1) := by decide +kernel
theorem dX9_best_47 : decode cX9_best 47 = .ok (.getfield 74, 3) := by decide +kernel
theorem dX9_best_50 : decode cX9_best 50 = .ok (.getfield 182, 3) := by decide +kernel
theorem dX9_best_53 : decode cX9_best 53 = .ok (.iload_n 1, 1) := by decide +kernel
theorem dX9_best_54 : decode cX9_best 54 = .ok (.iload 5, 2) := by decide +kernel
theorem dX9_best_56 : decode cX9_best 56 = .ok (.iastore, 1) := by decide +kernel
theorem dX9_best_57 : decode cX9_best 57 = .ok (.aload_n 0, 1) := by decide +kernel
theorem dX9_best_58 : decode cX9_best 58 = .ok (.getfield 74, 3) := by decide +kernel
theorem dX9_best_61 : decode cX9_best 61 = .ok (.iload_n 2, 1) := by decide +kernel
theorem dX9_best_62 : decode cX9_best 62 = .ok (.invokevirtual 197, 3) := by decide +kernel
theorem dX9_best_65 : decode cX9_best 65 = .ok (.aload_n 0, 1) := by decide +kernel
theorem dX9_best_66 : decode cX9_best 66 = .ok (.getfield 74, 3) := by decide +kernel
theorem dX9_best_69 : decode cX9_best 69 = .ok (.getfield 146, 3) := by decide +kernel
theorem dX9_best_72 : decode cX9_best 72 = .ok (.iload_n 1, 1) := by decide +kernel
theorem dX9_best_73 : decode cX9_best 73 = .ok (.iaload, 1) := by decide +kernel
theorem dX9_best_74 : decode cX9_best 74 = .ok (.iload_n 3, 1) := by decide +kernel
theorem dX9_best_75 : decode cX9_best 75 = .ok (.if_icmp .le 17, 3) := by decide +kernel
theorem dX9_best_78 : decode cX9_best 78 = .ok (.aload_n 0, 1) := by decide +kernel
theorem dX9_best_79 : decode cX9_best 79 = .ok (.getfield 74, 3) := by decide +kernel
theorem dX9_best_82 : decode cX9_best 82 = .ok (.getfield 146, 3) := by decide +kernel
theorem dX9_best_85 : decode cX9_best 85 = .ok (.iload_n 1, 1) := by decide +kernel
theorem dX9_best_86 : decode cX9_best 86 = .ok (.iaload, 1) := by decide +kernel
theorem dX9_best_87 : decode cX9_best 87 = .ok (.istore_n 3, 1) := by decide +kernel
theorem dX9_best_88 : decode cX9_best 88 = .ok (.iload 5, 2) := by decide +kernel
theorem dX9_best_90 : decode cX9_best 90 = .ok (.istore 4, 2) := by decide +kernel
theorem dX9_best_92 : decode cX9_best 92 = .ok (.iinc 5 1, 3) := by decide +kernel
theorem dX9_best_95 : decode cX9_best 95 = .ok (.goto (-67), 3) := by decide +kernel
theorem dX9_best_98 : decode cX9_best 98 = .ok (.aload_n 0, 1) := by decide +kernel
theorem dX9_best_99 : decode cX9_best 99 = .ok (.iload_n 3, 1) := by decide +kernel
theorem dX9_best_100 : decode cX9_best 100 = .ok (.putfield 49, 3) := by decide +kernel
theorem dX9_best_103 : decode cX9_best 103 = .ok (.iload 4, 2) := by decide +kernel
theorem dX9_best_105 : decode cX9_best 105 = .ok (.ireturn, 1) := by decide +kernel
theorem dX9_least_0 : decode cX9_least 0 = .ok (.iload_n 1, 1) := by decide +kernel
theorem dX9_least_1 : decode cX9_least 1 = .ok (.ifCond .lt 23, 3) := by decide +kernel
theorem dX9_least_4 : decode cX9_least 4 = .ok (.iload_n 1, 1) := by decide +kernel
theorem dX9_least_5 : decode cX9_least 5 = .ok (.iconst 1, 1) := by decide +kernel
theorem dX9_least_6 : decode cX9_least 6 = .ok (.aload_n 0, 1) := by decide +kernel
theorem dX9_least_7 : decode cX9_least 7 = .ok (.getfield 71, 3) := by decide +kernel
theorem dX9_least_10 : decode cX9_least 10 = .ok (.getfield 127, 3) := by decide +kernel
theorem dX9_least_13 : decode cX9_least 13 = .ok (.ishl, 1) := by decide +kernel
theorem dX9_least_14 : decode cX9_least 14 = .ok (.if_icmp .ge 10, 3) := by decide +kernel
theorem dX9_least_17 : decode cX9_least 17 = .ok (.iload_n 2, 1) := by decide +kernel
theorem dX9_least_18 : decode cX9_least 18 = .ok (.invokestatic 206, 3) := by decide +kernel
theorem dX9_least_21 : decode cX9_least 21 = .ok (.ifCond .ne 5, 3) := by decide +kernel
theorem dX9_least_24 : decode cX9_least 24 = .ok (.iconst (-1), 1) := by decide +kernel
theorem dX9_least_25 : decode cX9_least 25 = .ok (.ireturn, 1) := by decide +kernel
theorem dX9_least_26 : decode cX9_least 26 = .ok (.aload_n 0, 1) := by decide +kernel
theorem dX9_least_27 : decode cX9_least 27 = .ok (.getfield 71, 3) := by decide +kernel
theorem dX9_least_30 : decode cX9_least 30 = .ok (.getfield 127, 3) := by decide +kernel
theorem dX9_least_33 : decode cX9_least 33 = .ok (.ifCond .ne 6, 3) := by decide +kernel
theorem dX9_least_36 : decode cX9_least 36 = .ok (.bipush (-4), 2) := by decide +kernel
theorem dX9_least_38 : decode cX9_least 38 = .ok (.ireturn, 1) := by decide +kernel
theorem dX9_least_39 : decode cX9_least 39 = .ok (.iconst 0, 1) := by decide +kernel
theorem dX9_least_40 : decode cX9_least 40 = .ok (.istore_n 3, 1) := by decide +kernel
theorem dX9_least_41 : decode cX9_least 41 = .ok (.iload_n 3, 1) := by decide +kernel
theorem dX9_least_42 : decode cX9_least 42 = .ok (.bipush 30, 2) := by decide +kernel
theorem dX9_least_44 : decode cX9_least 44 = .ok (.if_icmp .gt 23, 3) := by decide +kernel
theorem dX9_least_47 : decode cX9_least 47 = .ok (.aload_n 0, 1) := by decide +kernel
theorem dX9_least_48 : decode cX9_least 48 = .ok (.iload_n 3, 1) := by decide +kernel
theorem dX9_least_49 : decode cX9_least 49 = .ok (.iload_n 2, 1) := by decide +kernel
theorem dX9_least_50 : decode cX9_least 50 = .ok (.invokevirtual 218, 3) := by decide +kernel
theorem dX9_least_53 : decode cX9_least 53 = .ok (.iload_n 1, 1) := by decide +kernel
theorem dX9_least_54 : decode cX9_least 54 = .ok (.iand, 1) := by decide +kernel
theorem dX9_least_55 : decode cX9_least 55 = .ok (.iload_n 1, 1) := by decide +kernel
theorem dX9_least_56 : decode cX9_least 56 = .ok (.if_icmp .ne 5, 3) := by decide +kernel
theorem dX9_least_59 : decode cX9_least 59 = .ok (.iload_n 3, 1) := by decide +kernel
theorem dX9_least_60 : decode cX9_least 60 = .ok (.ireturn, 1) := by decide +kernel
theorem dX9_least_61 : decode cX9_least 61 = .ok (.iinc 3 1, 3) := by decide +kernel
theorem dX9_least_64 : decode cX9_least 64 = .ok (.goto (-23), 3) := by decide +kernel
theorem dX9_least_67 : decode cX9_least 67 = .ok (.bipush (-9), 2) := by decide +kernel
theorem dX9_least_69 : decode cX9_least 69 = .ok (.ireturn, 1) := by decide +kernel
theorem dX9_sizes_0 : decode cX9_sizes 0 = .ok (.aload_n 0, 1) := by decide +kernel
theorem dX9_sizes_1 : decode cX9_sizes 1 = .ok (.iload_n 1, 1) := by decide +kernel
theorem dX9_sizes_2 : decode cX9_sizes 2 = .ok (.iload_n 2, 1) := by decide +kernel
theorem dX9_sizes_3 : decode cX9_sizes 3 = .ok (.invokevirtual 221, 3) := by decide +kernel
theorem dX9_sizes_6 : decode cX9_sizes 6 = .ok (.istore_n 3, 1) := by decide +kernel
theorem dX9_sizes_7 : decode cX9_sizes 7 = .ok (.iload_n 3, 1) := by decide +kernel
theorem dX9_sizes_8 : decode cX9_sizes 8 = .ok (.ifCond .eq 5, 3) := by decide +kernel
theorem dX9_sizes_11 : decode cX9_sizes 11 = .ok (.iload_n 3, 1) := by decide +kernel
theorem dX9_sizes_12 : decode cX9_sizes 12 = .ok (.ireturn, 1) := by decide +kernel
theorem dX9_sizes_13 : decode cX9_sizes 13 = .ok (.aload_n 0, 1) := by decide +kernel
theorem dX9_sizes_14 : decode cX9_sizes 14 = .ok (.iload_n 1, 1) := by decide +kernel
theorem dX9_sizes_15 : decode cX9_sizes 15 = .ok (.iload_n 2, 1) := by decide +kernel
theorem dX9_sizes_16 : decode cX9_sizes 16 = .ok (.invokevirtual 224, 3) := by decide +kernel
theorem dX9_sizes_19 : decode cX9_sizes 19 = .ok (.ireturn, 1) := by decide +kernel
theorem dX9_winds_0 : decode cX9_winds 0 = .ok (.aload_n 0, 1) := by decide +kernel
theorem dX9_winds_1 : decode cX9_winds 1 = .ok (.iload_n 1, 1) := by decide +kernel
theorem dX9_winds_2 : decode cX9_winds 2 = .ok (.iload_n 2, 1) := by decide +kernel
theorem dX9_winds_3 : decode cX9_winds 3 = .ok (.invokevirtual 221, 3) := by decide +kernel
theorem dX9_winds_6 : decode cX9_winds 6 = .ok (.istore_n 3, 1) := by decide +kernel
theorem dX9_winds_7 : decode cX9_winds 7 = .ok (.iload_n 3, 1) := by decide +kernel
theorem dX9_winds_8 : decode cX9_winds 8 = .ok (.ifCond .eq 5, 3) := by decide +kernel
theorem dX9_winds_11 : decode cX9_winds 11 = .ok (.iload_n 3, 1) := by decide +kernel
theorem dX9_winds_12 : decode cX9_winds 12 = .ok (.ireturn, 1) := by decide +kernel
theorem dX9_winds_13 : decode cX9_winds 13 = .ok (.iconst 0, 1) := by decide +kernel
theorem dX9_winds_14 : decode cX9_winds 14 = .ok (.istore 4, 2) := by decide +kernel
theorem dX9_winds_16 : decode cX9_winds 16 = .ok (.iconst 0, 1) := by decide +kernel
theorem dX9_winds_17 : decode cX9_winds 17 = .ok (.istore 5, 2) := by decide +kernel
theorem dX9_winds_19 : decode cX9_winds 19 = .ok (.iload 5, 2) := by decide +kernel
theorem dX9_winds_21 : decode cX9_winds 21 = .ok (.iconst 2, 1) := by decide +kernel
theorem dX9_winds_22 : decode cX9_winds 22 = .ok (.if_icmp .gt 47, 3) := by decide +kernel
theorem dX9_winds_25 : decode cX9_winds 25 = .ok (.aload_n 0, 1) := by decide +kernel
theorem dX9_winds_26 : decode cX9_winds 26 = .ok (.getfield 74, 3) := by decide +kernel
theorem dX9_winds_29 : decode cX9_winds 29 = .ok (.aload_n 0, 1) := by decide +kernel
theorem dX9_winds_30 : decode cX9_winds 30 = .ok (.getfield 71, 3) := by decide +kernel
theorem dX9_winds_33 : decode cX9_winds 33 = .ok (.invokevirtual 120, 3) := by decide +kernel
theorem dX9_winds_36 : decode cX9_winds 36 = .ok (.aload_n 0, 1) := by decide +kernel
theorem dX9_winds_37 : decode cX9_winds 37 = .ok (.getfield 74, 3) := by decide +kernel
theorem dX9_winds_40 : decode cX9_winds 40 = .ok (.iload 5, 2) := by decide +kernel
theorem dX9_winds_42 : decode cX9_winds 42 = .ok (.putfield 176, 3) := by decide +kernel
theorem dX9_winds_45 : decode cX9_winds 45 = .ok (.aload_n 0, 1) := by decide +kernel
theorem dX9_winds_46 : decode cX9_winds 46 = .ok (.iload_n 1, 1) := by decide +kernel
theorem dX9_winds_47 : decode cX9_winds 47 = .ok (.iload_n 2, 1) := by decide +kernel
theorem dX9_winds_48 : decode cX9_winds 48 = .ok (.invokevirtual 227, 3) := by decide +kernel
theorem dX9_winds_51 : decode cX9_winds 51 = .ok (.ifCond .eq 12, 3) := by decide +kernel
theorem dX9_winds_54 : decode cX9_winds 54 = .ok (.iload 4, 2) := by decide +kernel
theorem dX9_winds_56 : decode cX9_winds 56 = .ok (.iconst 1, 1) := by decide +kernel
theorem dX9_winds_57 : decode cX9_winds 57 = .ok (.iload 5, 2) := by decide +kernel
theorem dX9_winds_59 : decode cX9_winds 59 = .ok (.ishl, 1) := by decide +kernel
theorem dX9_winds_60 : decode cX9_winds 60 = .ok (.ior, 1) := by decide +kernel
theorem dX9_winds_61 : decode cX9_winds 61 = .ok (.istore 4, 2) := by decide +kernel
theorem dX9_winds_63 : decode cX9_winds 63 = .ok (.iinc 5 1, 3) := by decide +kernel
theorem dX9_winds_66 : decode cX9_winds 66 = .ok (.goto (-47), 3) := by decide +kernel
theorem dX9_winds_69 : decode cX9_winds 69 = .ok (.iload 4, 2) := by decide +kernel
theorem dX9_winds_71 : decode cX9_winds 71 = .ok (.ireturn, 1) := by decide +kernel
theorem dX9_kinds_0 : decode cX9_kinds 0 = .ok (.aload_n 0, 1) := by decide +kernel
theorem dX9_kinds_1 : decode cX9_kinds 1 = .ok (.iload_n 1, 1) := by decide +kernel
theorem dX9_kinds_2 : decode cX9_kinds 2 = .ok (.iload_n 2, 1) := by decide +kernel
theorem dX9_kinds_3 : decode cX9_kinds 3 = .ok (.invokevirtual 221, 3) := by decide +kernel
theorem dX9_kinds_6 : decode cX9_kinds 6 = .ok (.istore_n 3, 1) := by decide +kernel
theorem dX9_kinds_7 : decode cX9_kinds 7 = .ok (.iload_n 3, 1) := by decide +kernel
theorem dX9_kinds_8 : decode cX9_kinds 8 = .ok (.ifCond .eq 5, 3) := by decide +kernel
theorem dX9_kinds_11 : decode cX9_kinds 11 = .ok (.iload_n 3, 1) := by decide +kernel
theorem dX9_kinds_12 : decode cX9_kinds 12 = .ok (.ireturn, 1) := by decide +kernel
theorem dX9_kinds_13 : decode cX9_kinds 13 = .ok (.iconst 0, 1) := by decide +kernel
theorem dX9_kinds_14 : decode cX9_kinds 14 = .ok (.istore 4, 2) := by decide +kernel
theorem dX9_kinds_16 : decode cX9_kinds 16 = .ok (.iconst 0, 1) := by decide +kernel
theorem dX9_kinds_17 : decode cX9_kinds 17 = .ok (.istore 5, 2) := by decide +kernel
theorem dX9_kinds_19 : decode cX9_kinds 19 = .ok (.iload 5, 2) := by decide +kernel
theorem dX9_kinds_21 : decode cX9_kinds 21 = .ok (.bipush 6, 2) := by decide +kernel
theorem dX9_kinds_23 : decode cX9_kinds 23 = .ok (.if_icmp .ge 49, 3) := by decide +kernel
theorem dX9_kinds_26 : decode cX9_kinds 26 = .ok (.aload_n 0, 1) := by decide +kernel
theorem dX9_kinds_27 : decode cX9_kinds 27 = .ok (.getfield 74, 3) := by decide +kernel
theorem dX9_kinds_30 : decode cX9_kinds 30 = .ok (.aload_n 0, 1) := by decide +kernel
theorem dX9_kinds_31 : decode cX9_kinds 31 = .ok (.getfield 71, 3) := by decide +kernel
theorem dX9_kinds_34 : decode cX9_kinds 34 = .ok (.invokevirtual 120, 3) := by decide +kernel
theorem dX9_kinds_37 : decode cX9_kinds 37 = .ok (.aload_n 0, 1) := by decide +kernel
theorem dX9_kinds_38 : decode cX9_kinds 38 = .ok (.getfield 74, 3) := by decide +kernel
theorem dX9_kinds_41 : decode cX9_kinds 41 = .ok (.getfield 231, 3) := by decide +kernel
theorem dX9_kinds_44 : decode cX9_kinds 44 = .ok (.iload_n 1, 1) := by decide +kernel
theorem dX9_kinds_45 : decode cX9_kinds 45 = .ok (.iload 5, 2) := by decide +kernel
theorem dX9_kinds_47 : decode cX9_kinds 47 = .ok (.iastore, 1) := by decide +kernel
theorem dX9_kinds_48 : decode cX9_kinds 48 = .ok (.aload_n 0, 1) := by decide +kernel
theorem dX9_kinds_49 : decode cX9_kinds 49 = .ok (.iload_n 1, 1) := by decide +kernel
theorem dX9_kinds_50 : decode cX9_kinds 50 = .ok (.iload_n 2, 1) := by decide +kernel
theorem dX9_kinds_51 : decode cX9_kinds 51 = .ok (.invokevirtual 227, 3) := by decide +kernel
theorem dX9_kinds_54 : decode cX9_kinds 54 = .ok (.ifCond .eq 12, 3) := by decide +kernel
theorem dX9_kinds_57 : decode cX9_kinds 57 = .ok (.iload 4, 2) := by decide +kernel
theorem dX9_kinds_59 : decode cX9_kinds 59 = .ok (.iconst 1, 1) := by decide +kernel
theorem dX9_kinds_60 : decode cX9_kinds 60 = .ok (.iload 5, 2) := by decide +kernel
theorem dX9_kinds_62 : decode cX9_kinds 62 = .ok (.ishl, 1) := by decide +kernel
theorem dX9_kinds_63 : decode cX9_kinds 63 = .ok (.ior, 1) := by decide +kernel
theorem dX9_kinds_64 : decode cX9_kinds 64 = .ok (.istore 4, 2) := by decide +kernel
theorem dX9_kinds_66 : decode cX9_kinds 66 = .ok (.iinc 5 1, 3) := by decide +kernel
theorem dX9_kinds_69 : decode cX9_kinds 69 = .ok (.goto (-50), 3) := by decide +kernel
theorem dX9_kinds_72 : decode cX9_kinds 72 = .ok (.iload 4, 2) := by decide +kernel
theorem dX9_kinds_74 : decode cX9_kinds 74 = .ok (.ireturn, 1) := by decide +kernel
theorem dX9_next_0 : decode cX9_next 0 = .ok (.aload_n 0, 1) := by decide +kernel
theorem dX9_next_1 : decode cX9_next 1 = .ok (.iload_n 1, 1) := by decide +kernel
theorem dX9_next_2 : decode cX9_next 2 = .ok (.iload_n 2, 1) := by decide +kernel
theorem dX9_next_3 : decode cX9_next 3 = .ok (.invokevirtual 221, 3) := by decide +kernel
theorem dX9_next_6 : decode cX9_next 6 = .ok (.istore_n 3, 1) := by decide +kernel
theorem dX9_next_7 : decode cX9_next 7 = .ok (.iload_n 3, 1) := by decide +kernel
theorem dX9_next_8 : decode cX9_next 8 = .ok (.ifCond .eq 5, 3) := by decide +kernel
theorem dX9_next_11 : decode cX9_next 11 = .ok (.iload_n 3, 1) := by decide +kernel
theorem dX9_next_12 : decode cX9_next 12 = .ok (.ireturn, 1) := by decide +kernel
theorem dX9_next_13 : decode cX9_next 13 = .ok (.aload_n 0, 1) := by decide +kernel
theorem dX9_next_14 : decode cX9_next 14 = .ok (.iload_n 1, 1) := by decide +kernel
theorem dX9_next_15 : decode cX9_next 15 = .ok (.iload_n 2, 1) := by decide +kernel
theorem dX9_next_16 : decode cX9_next 16 = .ok (.invokevirtual 224, 3) := by decide +kernel
theorem dX9_next_19 : decode cX9_next 19 = .ok (.istore 4, 2) := by decide +kernel
theorem dX9_next_21 : decode cX9_next 21 = .ok (.iload 4, 2) := by decide +kernel
theorem dX9_next_23 : decode cX9_next 23 = .ok (.ifCond .ne 6, 3) := by decide +kernel
theorem dX9_next_26 : decode cX9_next 26 = .ok (.bipush (-9), 2) := by decide +kernel
theorem dX9_next_28 : decode cX9_next 28 = .ok (.ireturn, 1) := by decide +kernel
theorem dX9_next_29 : decode cX9_next 29 = .ok (.aload_n 0, 1) := by decide +kernel
theorem dX9_next_30 : decode cX9_next 30 = .ok (.iload 4, 2) := by decide +kernel
theorem dX9_next_32 : decode cX9_next 32 = .ok (.aload_n 0, 1) := by decide +kernel
theorem dX9_next_33 : decode cX9_next 33 = .ok (.getfield 14, 3) := by decide +kernel
theorem dX9_next_36 : decode cX9_next 36 = .ok (.iload_n 2, 1) := by decide +kernel
theorem dX9_next_37 : decode cX9_next 37 = .ok (.iaload, 1) := by decide +kernel
theorem dX9_next_38 : decode cX9_next 38 = .ok (.invokevirtual 234, 3) := by decide +kernel
theorem dX9_next_41 : decode cX9_next 41 = .ok (.iconst 0, 1) := by decide +kernel
theorem dX9_next_42 : decode cX9_next 42 = .ok (.istore 5, 2) := by decide +kernel
theorem dX9_next_44 : decode cX9_next 44 = .ok (.bipush 32, 2) := by decide +kernel
theorem dX9_next_46 : decode cX9_next 46 = .ok (.istore 6, 2) := by decide +kernel
theorem dX9_next_48 : decode cX9_next 48 = .ok (.iconst 0, 1) := by decide +kernel
theorem dX9_next_49 : decode cX9_next 49 = .ok (.istore 7, 2) := by decide +kernel
theorem dX9_next_51 : decode cX9_next 51 = .ok (.iload 7, 2) := by decide +kernel
theorem dX9_next_53 : decode cX9_next 53 = .ok (.aload_n 0, 1) := by decide +kernel
theorem dX9_next_54 : decode cX9_next 54 = .ok (.getfield 71, 3) := by decide +kernel
theorem dX9_next_57 : decode cX9_next 57 = .ok (.getfield 127, 3) := by decide +kernel
theorem dX9_next_60 : decode cX9_next 60 = .ok (.if_icmp .ge 36, 3) := by decide +kernel
theorem dX9_next_63 : decode cX9_next 63 = .ok (.aload_n 0, 1) := by decide +kernel
theorem dX9_next_64 : decode cX9_next 64 = .ok (.getfield 39, 3) := by decide +kernel
theorem dX9_next_67 : decode cX9_next 67 = .ok (.iload 7, 2) := by decide +kernel
theorem dX9_next_69 : decode cX9_next 69 = .ok (.aaload, 1) := by decide +kernel
theorem dX9_next_70 : decode cX9_next 70 = .ok (.invokestatic 238, 3) := by decide +kernel
theorem dX9_next_73 : decode cX9_next 73 = .ok (.istore 8, 2) := by decide +kernel
theorem dX9_next_75 : decode cX9_next 75 = .ok (.iload 8, 2) := by decide +kernel
theorem dX9_next_77 : decode cX9_next 77 = .ok (.iload 6, 2) := by decide +kernel
theorem dX9_next_79 : decode cX9_next 79 = .ok (.if_icmp .ge 11, 3) := by decide +kernel
theorem dX9_next_82 : decode cX9_next 82 = .ok (.iload 8, 2) := by decide +kernel
theorem dX9_next_84 : decode cX9_next 84 = .ok (.istore 6, 2) := by decide +kernel
theorem dX9_next_86 : decode cX9_next 86 = .ok (.iload 7, 2) := by decide +kernel
theorem dX9_next_88 : decode cX9_next 88 = .ok (.istore 5, 2) := by decide +kernel
theorem dX9_next_90 : decode cX9_next 90 = .ok (.iinc 7 1, 3) := by decide +kernel
theorem dX9_next_93 : decode cX9_next 93 = .ok (.goto (-42), 3) := by decide +kernel
theorem dX9_next_96 : decode cX9_next 96 = .ok (.aload_n 0, 1) := by decide +kernel
theorem dX9_next_97 : decode cX9_next 97 = .ok (.iload 6, 2) := by decide +kernel
theorem dX9_next_99 : decode cX9_next 99 = .ok (.putfield 49, 3) := by decide +kernel
theorem dX9_next_102 : decode cX9_next 102 = .ok (.iload 5, 2) := by decide +kernel
theorem dX9_next_104 : decode cX9_next 104 = .ok (.ireturn, 1) := by decide +kernel
theorem dX9_sets_0 : decode cX9_sets 0 = .ok (.iload_n 1, 1) := by decide +kernel
theorem dX9_sets_1 : decode cX9_sets 1 = .ok (.ifCond .lt 10, 3) := by decide +kernel
theorem dX9_sets_4 : decode cX9_sets 4 = .ok (.iload_n 1, 1) := by decide +kernel
theorem dX9_sets_5 : decode cX9_sets 5 = .ok (.sipush 180, 3) := by decide +kernel
theorem dX9_sets_8 : decode cX9_sets 8 = .ok (.if_icmp .le 5, 3) := by decide +kernel
theorem dX9_sets_11 : decode cX9_sets 11 = .ok (.iconst (-1), 1) := by decide +kernel
theorem dX9_sets_12 : decode cX9_sets 12 = .ok (.ireturn, 1) := by decide +kernel
theorem dX9_sets_13 : decode cX9_sets 13 = .ok (.aload_n 0, 1) := by decide +kernel
theorem dX9_sets_14 : decode cX9_sets 14 = .ok (.getfield 71, 3) := by decide +kernel
theorem dX9_sets_17 : decode cX9_sets 17 = .ok (.getfield 127, 3) := by decide +kernel
theorem dX9_sets_20 : decode cX9_sets 20 = .ok (.ifCond .ne 6, 3) := by decide +kernel
theorem dX9_sets_23 : decode cX9_sets 23 = .ok (.bipush (-4), 2) := by decide +kernel
theorem dX9_sets_25 : decode cX9_sets 25 = .ok (.ireturn, 1) := by decide +kernel
theorem dX9_sets_26 : decode cX9_sets 26 = .ok (.iconst 0, 1) := by decide +kernel
theorem dX9_sets_27 : decode cX9_sets 27 = .ok (.istore_n 2, 1) := by decide +kernel
theorem dX9_sets_28 : decode cX9_sets 28 = .ok (.bipush (-9), 2) := by decide +kernel
theorem dX9_sets_30 : decode cX9_sets 30 = .ok (.istore_n 3, 1) := by decide +kernel
theorem dX9_sets_31 : decode cX9_sets 31 = .ok (.iconst 0, 1) := by decide +kernel
theorem dX9_sets_32 : decode cX9_sets 32 = .ok (.istore 4, 2) := by decide +kernel
theorem dX9_sets_34 : decode cX9_sets 34 = .ok (.iload 4, 2) := by decide +kernel
theorem dX9_sets_36 : decode cX9_sets 36 = .ok (.iconst 1, 1) := by decide +kernel
theorem dX9_sets_37 : decode cX9_sets 37 = .ok (.aload_n 0, 1) := by decide +kernel
theorem dX9_sets_38 : decode cX9_sets 38 = .ok (.getfield 71, 3) := by decide +kernel
theorem dX9_sets_41 : decode cX9_sets 41 = .ok (.getfield 127, 3) := by decide +kernel
theorem dX9_sets_44 : decode cX9_sets 44 = .ok (.ishl, 1) := by decide +kernel
theorem dX9_sets_45 : decode cX9_sets 45 = .ok (.if_icmp .ge 34, 3) := by decide +kernel
theorem dX9_sets_48 : decode cX9_sets 48 = .ok (.aload_n 0, 1) := by decide +kernel
theorem dX9_sets_49 : decode cX9_sets 49 = .ok (.getfield 71, 3) := by decide +kernel
theorem dX9_sets_52 : decode cX9_sets 52 = .ok (.iload 4, 2) := by decide +kernel
theorem dX9_sets_54 : decode cX9_sets 54 = .ok (.invokevirtual 242, 3) := by decide +kernel
theorem dX9_sets_57 : decode cX9_sets 57 = .ok (.iload_n 1, 1) := by decide +kernel
theorem dX9_sets_58 : decode cX9_sets 58 = .ok (.if_icmp .ne 15, 3) := by decide +kernel
theorem dX9_sets_61 : decode cX9_sets 61 = .ok (.iinc 2 1, 3) := by decide +kernel
theorem dX9_sets_64 : decode cX9_sets 64 = .ok (.iload_n 3, 1) := by decide +kernel
theorem dX9_sets_65 : decode cX9_sets 65 = .ok (.bipush (-9), 2) := by decide +kernel
theorem dX9_sets_67 : decode cX9_sets 67 = .ok (.if_icmp .ne 6, 3) := by decide +kernel
theorem dX9_sets_70 : decode cX9_sets 70 = .ok (.iload 4, 2) := by decide +kernel
theorem dX9_sets_72 : decode cX9_sets 72 = .ok (.istore_n 3, 1) := by decide +kernel
theorem dX9_sets_73 : decode cX9_sets 73 = .ok (.iinc 4 1, 3) := by decide +kernel
theorem dX9_sets_76 : decode cX9_sets 76 = .ok (.goto (-42), 3) := by decide +kernel
theorem dX9_sets_79 : decode cX9_sets 79 = .ok (.aload_n 0, 1) := by decide +kernel
theorem dX9_sets_80 : decode cX9_sets 80 = .ok (.iload_n 3, 1) := by decide +kernel
theorem dX9_sets_81 : decode cX9_sets 81 = .ok (.putfield 49, 3) := by decide +kernel
theorem dX9_sets_84 : decode cX9_sets 84 = .ok (.aload_n 0, 1) := by decide +kernel
theorem dX9_sets_85 : decode cX9_sets 85 = .ok (.iload_n 2, 1) := by decide +kernel
theorem dX9_sets_86 : decode cX9_sets 86 = .ok (.i2l, 1) := by decide +kernel
theorem dX9_sets_87 : decode cX9_sets 87 = .ok (.lconst 1, 1) := by decide +kernel
theorem dX9_sets_88 : decode cX9_sets 88 = .ok (.invokevirtual 245, 3) := by decide +kernel
theorem dX9_sets_91 : decode cX9_sets 91 = .ok (.iconst 1, 1) := by decide +kernel
theorem dX9_sets_92 : decode cX9_sets 92 = .ok (.ireturn, 1) := by decide +kernel
theorem dX9_sure_0 : decode cX9_sure 0 = .ok (.iload_n 1, 1) := by decide +kernel
theorem dX9_sure_1 : decode cX9_sure 1 = .ok (.ifCond .lt 10, 3) := by decide +kernel
theorem dX9_sure_4 : decode cX9_sure 4 = .ok (.iload_n 1, 1) := by decide +kernel
theorem dX9_sure_5 : decode cX9_sure 5 = .ok (.sipush 180, 3) := by decide +kernel
theorem dX9_sure_8 : decode cX9_sure 8 = .ok (.if_icmp .le 5, 3) := by decide +kernel
theorem dX9_sure_11 : decode cX9_sure 11 = .ok (.iconst (-1), 1) := by decide +kernel
theorem dX9_sure_12 : decode cX9_sure 12 = .ok (.ireturn, 1) := by decide +kernel
theorem dX9_sure_13 : decode cX9_sure 13 = .ok (.aload_n 0, 1) := by decide +kernel
theorem dX9_sure_14 : decode cX9_sure 14 = .ok (.getfield 71, 3) := by decide +kernel
theorem dX9_sure_17 : decode cX9_sure 17 = .ok (.getfield 127, 3) := by decide +kernel
theorem dX9_sure_20 : decode cX9_sure 20 = .ok (.ifCond .ne 6, 3) := by decide +kernel
theorem dX9_sure_23 : decode cX9_sure 23 = .ok (.bipush (-4), 2) := by decide +kernel
theorem dX9_sure_25 : decode cX9_sure 25 = .ok (.ireturn, 1) := by decide +kernel
theorem dX9_sure_26 : decode cX9_sure 26 = .ok (.iconst 1, 1) := by decide +kernel
theorem dX9_sure_27 : decode cX9_sure 27 = .ok (.aload_n 0, 1) := by decide +kernel
theorem dX9_sure_28 : decode cX9_sure 28 = .ok (.getfield 71, 3) := by decide +kernel
theorem dX9_sure_31 : decode cX9_sure 31 = .ok (.getfield 127, 3) := by decide +kernel
theorem dX9_sure_34 : decode cX9_sure 34 = .ok (.ishl, 1) := by decide +kernel
theorem dX9_sure_35 : decode cX9_sure 35 = .ok (.iconst 1, 1) := by decide +kernel
theorem dX9_sure_36 : decode cX9_sure 36 = .ok (.isub, 1) := by decide +kernel
theorem dX9_sure_37 : decode cX9_sure 37 = .ok (.istore_n 2, 1) := by decide +kernel
theorem dX9_sure_38 : decode cX9_sure 38 = .ok (.iconst 0, 1) := by decide +kernel
theorem dX9_sure_39 : decode cX9_sure 39 = .ok (.istore_n 3, 1) := by decide +kernel
theorem dX9_sure_40 : decode cX9_sure 40 = .ok (.iload_n 2, 1) := by decide +kernel
theorem dX9_sure_41 : decode cX9_sure 41 = .ok (.istore 4, 2) := by decide +kernel
theorem dX9_sure_43 : decode cX9_sure 43 = .ok (.iconst 0, 1) := by decide +kernel
theorem dX9_sure_44 : decode cX9_sure 44 = .ok (.istore 5, 2) := by decide +kernel
theorem dX9_sure_46 : decode cX9_sure 46 = .ok (.iconst 0, 1) := by decide +kernel
theorem dX9_sure_47 : decode cX9_sure 47 = .ok (.istore 6, 2) := by decide +kernel
theorem dX9_sure_49 : decode cX9_sure 49 = .ok (.iload 6, 2) := by decide +kernel
theorem dX9_sure_51 : decode cX9_sure 51 = .ok (.iload_n 2, 1) := by decide +kernel
theorem dX9_sure_52 : decode cX9_sure 52 = .ok (.if_icmp .gt 39, 3) := by decide +kernel
theorem dX9_sure_55 : decode cX9_sure 55 = .ok (.aload_n 0, 1) := by decide +kernel
theorem dX9_sure_56 : decode cX9_sure 56 = .ok (.getfield 71, 3) := by decide +kernel
theorem dX9_sure_59 : decode cX9_sure 59 = .ok (.iload 6, 2) := by decide +kernel
theorem dX9_sure_61 : decode cX9_sure 61 = .ok (.invokevirtual 242, 3) := by decide +kernel
theorem dX9_sure_64 : decode cX9_sure 64 = .ok (.iload_n 1, 1) := by decide +kernel
theorem dX9_sure_65 : decode cX9_sure 65 = .ok (.if_icmp .ne 20, 3) := by decide +kernel
theorem dX9_sure_68 : decode cX9_sure 68 = .ok (.iinc 3 1, 3) := by decide +kernel
theorem dX9_sure_71 : decode cX9_sure 71 = .ok (.iload 4, 2) := by decide +kernel
theorem dX9_sure_73 : decode cX9_sure 73 = .ok (.iload 6, 2) := by decide +kernel
theorem dX9_sure_75 : decode cX9_sure 75 = .ok (.iand, 1) := by decide +kernel
theorem dX9_sure_76 : decode cX9_sure 76 = .ok (.istore 4, 2) := by decide +kernel
theorem dX9_sure_78 : decode cX9_sure 78 = .ok (.iload 5, 2) := by decide +kernel
theorem dX9_sure_80 : decode cX9_sure 80 = .ok (.iload 6, 2) := by decide +kernel
theorem dX9_sure_82 : decode cX9_sure 82 = .ok (.ior, 1) := by decide +kernel
theorem dX9_sure_83 : decode cX9_sure 83 = .ok (.istore 5, 2) := by decide +kernel
theorem dX9_sure_85 : decode cX9_sure 85 = .ok (.iinc 6 1, 3) := by decide +kernel
theorem dX9_sure_88 : decode cX9_sure 88 = .ok (.goto (-39), 3) := by decide +kernel
theorem dX9_sure_91 : decode cX9_sure 91 = .ok (.iload_n 3, 1) := by decide +kernel
theorem dX9_sure_92 : decode cX9_sure 92 = .ok (.ifCond .ne 9, 3) := by decide +kernel
theorem dX9_sure_95 : decode cX9_sure 95 = .ok (.aload_n 0, 1) := by decide +kernel
theorem dX9_sure_96 : decode cX9_sure 96 = .ok (.iconst 4, 1) := by decide +kernel
theorem dX9_sure_97 : decode cX9_sure 97 = .ok (.invokevirtual 87, 3) := by decide +kernel
theorem dX9_sure_100 : decode cX9_sure 100 = .ok (.ireturn, 1) := by decide +kernel
theorem dX9_sure_101 : decode cX9_sure 101 = .ok (.aload_n 0, 1) := by decide +kernel
theorem dX9_sure_102 : decode cX9_sure 102 = .ok (.iload_n 2, 1) := by decide +kernel
theorem dX9_sure_103 : decode cX9_sure 103 = .ok (.iload 5, 2) := by decide +kernel
theorem dX9_sure_105 : decode cX9_sure 105 = .ok (.iconst (-1), 1) := by decide +kernel
theorem dX9_sure_106 : decode cX9_sure 106 = .ok (.ixor, 1) := by decide +kernel
theorem dX9_sure_107 : decode cX9_sure 107 = .ok (.iand, 1) := by decide +kernel
theorem dX9_sure_108 : decode cX9_sure 108 = .ok (.putfield 49, 3) := by decide +kernel
theorem dX9_sure_111 : decode cX9_sure 111 = .ok (.iload 4, 2) := by decide +kernel
theorem dX9_sure_113 : decode cX9_sure 113 = .ok (.ireturn, 1) := by decide +kernel
theorem dX9_duel_0 : decode cX9_duel 0 = .ok (.aload_n 0, 1) := by decide +kernel
theorem dX9_duel_1 : decode cX9_duel 1 = .ok (.getfield 71, 3) := by decide +kernel
theorem dX9_duel_4 : decode cX9_duel 4 = .ok (.iload_n 1, 1) := by decide +kernel
theorem dX9_duel_5 : decode cX9_duel 5 = .ok (.invokevirtual 130, 3) := by decide +kernel
theorem dX9_duel_8 : decode cX9_duel 8 = .ok (.ifCond .eq 28, 3) := by decide +kernel
theorem dX9_duel_11 : decode cX9_duel 11 = .ok (.aload_n 0, 1) := by decide +kernel
theorem dX9_duel_12 : decode cX9_duel 12 = .ok (.getfield 71, 3) := by decide +kernel
theorem dX9_duel_15 : decode cX9_duel 15 = .ok (.iload_n 2, 1) := by decide +kernel
theorem dX9_duel_16 : decode cX9_duel 16 = .ok (.invokevirtual 130, 3) := by decide +kernel
theorem dX9_duel_19 : decode cX9_duel 19 = .ok (.ifCond .eq 17, 3) := by decide +kernel
theorem dX9_duel_22 : decode cX9_duel 22 = .ok (.iload_n 1, 1) := by decide +kernel
theorem dX9_duel_23 : decode cX9_duel 23 = .ok (.iload_n 2, 1) := by decide +kernel
theorem dX9_duel_24 : decode cX9_duel 24 = .ok (.if_icmp .eq 12, 3) := by decide +kernel
theorem dX9_duel_27 : decode cX9_duel 27 = .ok (.iload_n 3, 1) := by decide +kernel
theorem dX9_duel_28 : decode cX9_duel 28 = .ok (.ifCond .lt 8, 3) := by decide +kernel
theorem dX9_duel_31 : decode cX9_duel 31 = .ok (.iload_n 3, 1) := by decide +kernel
theorem dX9_duel_32 : decode cX9_duel 32 = .ok (.iconst 2, 1) := by decide +kernel
theorem dX9_duel_33 : decode cX9_duel 33 = .ok (.if_icmp .le 5, 3) := by decide +kernel
theorem dX9_duel_36 : decode cX9_duel 36 = .ok (.iconst (-1), 1) := by decide +kernel
theorem dX9_duel_37 : decode cX9_duel 37 = .ok (.ireturn, 1) := by decide +kernel
theorem dX9_duel_38 : decode cX9_duel 38 = .ok (.aload_n 0, 1) := by decide +kernel
theorem dX9_duel_39 : decode cX9_duel 39 = .ok (.aload_n 0, 1) := by decide +kernel
theorem dX9_duel_40 : decode cX9_duel 40 = .ok (.iload_n 1, 1) := by decide +kernel
theorem dX9_duel_41 : decode cX9_duel 41 = .ok (.iload_n 2, 1) := by decide +kernel
theorem dX9_duel_42 : decode cX9_duel 42 = .ok (.aload_n 0, 1) := by decide +kernel
theorem dX9_duel_43 : decode cX9_duel 43 = .ok (.getfield 71, 3) := by decide +kernel
theorem dX9_duel_46 : decode cX9_duel 46 = .ok (.getfield 182, 3) := by decide +kernel
theorem dX9_duel_49 : decode cX9_duel 49 = .ok (.iload_n 1, 1) := by decide +kernel
theorem dX9_duel_50 : decode cX9_duel 50 = .ok (.iaload, 1) := by decide +kernel
theorem dX9_duel_51 : decode cX9_duel 51 = .ok (.aload_n 0, 1) := by decide +kernel
theorem dX9_duel_52 : decode cX9_duel 52 = .ok (.getfield 71, 3) := by decide +kernel
theorem dX9_duel_55 : decode cX9_duel 55 = .ok (.getfield 182, 3) := by decide +kernel
theorem dX9_duel_58 : decode cX9_duel 58 = .ok (.iload_n 2, 1) := by decide +kernel
theorem dX9_duel_59 : decode cX9_duel 59 = .ok (.iaload, 1) := by decide +kernel
theorem dX9_duel_60 : decode cX9_duel 60 = .ok (.iload_n 3, 1) := by decide +kernel
theorem dX9_duel_61 : decode cX9_duel 61 = .ok (.invokevirtual 249, 3) := by decide +kernel
theorem dX9_duel_64 : decode cX9_duel 64 = .ok (.putfield 49, 3) := by decide +kernel
theorem dX9_duel_67 : decode cX9_duel 67 = .ok (.iconst 1, 1) := by decide +kernel
theorem dX9_duel_68 : decode cX9_duel 68 = .ok (.ireturn, 1) := by decide +kernel
theorem dX9_odds_0 : decode cX9_odds 0 = .ok (.aload_n 0, 1) := by decide +kernel
theorem dX9_odds_1 : decode cX9_odds 1 = .ok (.getfield 71, 3) := by decide +kernel
theorem dX9_odds_4 : decode cX9_odds 4 = .ok (.iload_n 1, 1) := by decide +kernel
theorem dX9_odds_5 : decode cX9_odds 5 = .ok (.invokevirtual 130, 3) := by decide +kernel
theorem dX9_odds_8 : decode cX9_odds 8 = .ok (.ifCond .eq 13, 3) := by decide +kernel
theorem dX9_odds_11 : decode cX9_odds 11 = .ok (.iload_n 2, 1) := by decide +kernel
theorem dX9_odds_12 : decode cX9_odds 12 = .ok (.ifCond .lt 9, 3) := by decide +kernel
theorem dX9_odds_15 : decode cX9_odds 15 = .ok (.iload_n 2, 1) := by decide +kernel
theorem dX9_odds_16 : decode cX9_odds 16 = .ok (.bipush 12, 2) := by decide +kernel
theorem dX9_odds_18 : decode cX9_odds 18 = .ok (.if_icmp .le 5, 3) := by decide +kernel
theorem dX9_odds_21 : decode cX9_odds 21 = .ok (.iconst (-1), 1) := by decide +kernel
theorem dX9_odds_22 : decode cX9_odds 22 = .ok (.ireturn, 1) := by decide +kernel
theorem dX9_odds_23 : decode cX9_odds 23 = .ok (.lconst 0, 1) := by decide +kernel
theorem dX9_odds_24 : decode cX9_odds 24 = .ok (.lstore_n 3, 1) := by decide +kernel
theorem dX9_odds_25 : decode cX9_odds 25 = .ok (.iconst 0, 1) := by decide +kernel
theorem dX9_odds_26 : decode cX9_odds 26 = .ok (.istore 5, 2) := by decide +kernel
theorem dX9_odds_28 : decode cX9_odds 28 = .ok (.iload 5, 2) := by decide +kernel
theorem dX9_odds_30 : decode cX9_odds 30 = .ok (.iconst 1, 1) := by decide +kernel
theorem dX9_odds_31 : decode cX9_odds 31 = .ok (.aload_n 0, 1) := by decide +kernel
theorem dX9_odds_32 : decode cX9_odds 32 = .ok (.getfield 71, 3) := by decide +kernel
theorem dX9_odds_35 : decode cX9_odds 35 = .ok (.getfield 127, 3) := by decide +kernel
theorem dX9_odds_38 : decode cX9_odds 38 = .ok (.ishl, 1) := by decide +kernel
theorem dX9_odds_39 : decode cX9_odds 39 = .ok (.if_icmp .ge 47, 3) := by decide +kernel
theorem dX9_odds_42 : decode cX9_odds 42 = .ok (.aload_n 0, 1) := by decide +kernel
theorem dX9_odds_43 : decode cX9_odds 43 = .ok (.getfield 74, 3) := by decide +kernel
theorem dX9_odds_46 : decode cX9_odds 46 = .ok (.aload_n 0, 1) := by decide +kernel
theorem dX9_odds_47 : decode cX9_odds 47 = .ok (.getfield 71, 3) := by decide +kernel
theorem dX9_odds_50 : decode cX9_odds 50 = .ok (.invokevirtual 120, 3) := by decide +kernel
theorem dX9_odds_53 : decode cX9_odds 53 = .ok (.aload_n 0, 1) := by decide +kernel
theorem dX9_odds_54 : decode cX9_odds 54 = .ok (.getfield 74, 3) := by decide +kernel
theorem dX9_odds_57 : decode cX9_odds 57 = .ok (.iload 5, 2) := by decide +kernel
theorem dX9_odds_59 : decode cX9_odds 59 = .ok (.invokevirtual 203, 3) := by decide +kernel
theorem dX9_odds_62 : decode cX9_odds 62 = .ok (.iload_n 1, 1) := by decide +kernel
theorem dX9_odds_63 : decode cX9_odds 63 = .ok (.ishr, 1) := by decide +kernel
theorem dX9_odds_64 : decode cX9_odds 64 = .ok (.iconst 1, 1) := by decide +kernel
theorem dX9_odds_65 : decode cX9_odds 65 = .ok (.iand, 1) := by decide +kernel
theorem dX9_odds_66 : decode cX9_odds 66 = .ok (.iconst 1, 1) := by decide +kernel
theorem dX9_odds_67 : decode cX9_odds 67 = .ok (.if_icmp .ne 13, 3) := by decide +kernel
theorem dX9_odds_70 : decode cX9_odds 70 = .ok (.lload_n 3, 1) := by decide +kernel
theorem dX9_odds_71 : decode cX9_odds 71 = .ok (.aload_n 0, 1) := by decide +kernel
theorem dX9_odds_72 : decode cX9_odds 72 = .ok (.iload 5, 2) := by decide +kernel
theorem dX9_odds_74 : decode cX9_odds 74 = .ok (.iload_n 2, 1) := by decide +kernel
theorem dX9_odds_75 : decode cX9_odds 75 = .ok (.invokevirtual 253, 3) := by decide +kernel
theorem dX9_odds_78 : decode cX9_odds 78 = .ok (.ladd, 1) := by decide +kernel
end
section
theorem dX9_odds_79 : decode cX9_odds 79 = .ok (.lstore_n 3, 1) := by decide +kernel
theorem dX9_odds_80 : decode cX9_odds 80 = .ok (.iinc 5 1, 3) := by decide +kernel
theorem dX9_odds_83 : decode cX9_odds 83 = .ok (.goto (-55), 3) := by decide +kernel
theorem dX9_odds_86 : decode cX9_odds 86 = .ok (.aload_n 0, 1) := by decide +kernel
theorem dX9_odds_87 : decode cX9_odds 87 = .ok (.lload_n 3, 1) := by decide +kernel
theorem dX9_odds_88 : decode cX9_odds 88 = .ok (.ldc2_w 257, 3) := by decide +kernel
theorem dX9_odds_91 : decode cX9_odds 91 = .ok (.aload_n 0, 1) := by decide +kernel
theorem dX9_odds_92 : decode cX9_odds 92 = .ok (.getfield 71, 3) := by decide +kernel
theorem dX9_odds_95 : decode cX9_odds 95 = .ok (.getfield 127, 3) := by decide +kernel
theorem dX9_odds_98 : decode cX9_odds 98 = .ok (.invokestatic 259, 3) := by decide +kernel
theorem dX9_odds_101 : decode cX9_odds 101 = .ok (.invokevirtual 245, 3) := by decide +kernel
theorem dX9_odds_104 : decode cX9_odds 104 = .ok (.iconst 1, 1) := by decide +kernel
theorem dX9_odds_105 : decode cX9_odds 105 = .ok (.ireturn, 1) := by decide +kernel
theorem dX9_mid_0 : decode cX9_mid 0 = .ok (.iload_n 1, 1) := by decide +kernel
theorem dX9_mid_1 : decode cX9_mid 1 = .ok (.ifCond .lt 9, 3) := by decide +kernel
theorem dX9_mid_4 : decode cX9_mid 4 = .ok (.iload_n 1, 1) := by decide +kernel
theorem dX9_mid_5 : decode cX9_mid 5 = .ok (.bipush 12, 2) := by decide +kernel
theorem dX9_mid_7 : decode cX9_mid 7 = .ok (.if_icmp .le 5, 3) := by decide +kernel
theorem dX9_mid_10 : decode cX9_mid 10 = .ok (.iconst (-1), 1) := by decide +kernel
theorem dX9_mid_11 : decode cX9_mid 11 = .ok (.ireturn, 1) := by decide +kernel
theorem dX9_mid_12 : decode cX9_mid 12 = .ok (.aload_n 0, 1) := by decide +kernel
theorem dX9_mid_13 : decode cX9_mid 13 = .ok (.getfield 71, 3) := by decide +kernel
theorem dX9_mid_16 : decode cX9_mid 16 = .ok (.getfield 127, 3) := by decide +kernel
theorem dX9_mid_19 : decode cX9_mid 19 = .ok (.ifCond .ne 6, 3) := by decide +kernel
theorem dX9_mid_22 : decode cX9_mid 22 = .ok (.bipush (-4), 2) := by decide +kernel
theorem dX9_mid_24 : decode cX9_mid 24 = .ok (.ireturn, 1) := by decide +kernel
theorem dX9_mid_25 : decode cX9_mid 25 = .ok (.lconst 0, 1) := by decide +kernel
theorem dX9_mid_26 : decode cX9_mid 26 = .ok (.lstore_n 2, 1) := by decide +kernel
theorem dX9_mid_27 : decode cX9_mid 27 = .ok (.iconst 0, 1) := by decide +kernel
theorem dX9_mid_28 : decode cX9_mid 28 = .ok (.istore 4, 2) := by decide +kernel
theorem dX9_mid_30 : decode cX9_mid 30 = .ok (.iload 4, 2) := by decide +kernel
theorem dX9_mid_32 : decode cX9_mid 32 = .ok (.iconst 1, 1) := by decide +kernel
theorem dX9_mid_33 : decode cX9_mid 33 = .ok (.aload_n 0, 1) := by decide +kernel
theorem dX9_mid_34 : decode cX9_mid 34 = .ok (.getfield 71, 3) := by decide +kernel
theorem dX9_mid_37 : decode cX9_mid 37 = .ok (.getfield 127, 3) := by decide +kernel
theorem dX9_mid_40 : decode cX9_mid 40 = .ok (.ishl, 1) := by decide +kernel
theorem dX9_mid_41 : decode cX9_mid 41 = .ok (.if_icmp .ge 49, 3) := by decide +kernel
theorem dX9_mid_44 : decode cX9_mid 44 = .ok (.aload_n 0, 1) := by decide +kernel
theorem dX9_mid_45 : decode cX9_mid 45 = .ok (.getfield 74, 3) := by decide +kernel
theorem dX9_mid_48 : decode cX9_mid 48 = .ok (.aload_n 0, 1) := by decide +kernel
theorem dX9_mid_49 : decode cX9_mid 49 = .ok (.getfield 71, 3) := by decide +kernel
theorem dX9_mid_52 : decode cX9_mid 52 = .ok (.invokevirtual 120, 3) := by decide +kernel
theorem dX9_mid_55 : decode cX9_mid 55 = .ok (.aload_n 0, 1) := by decide +kernel
theorem dX9_mid_56 : decode cX9_mid 56 = .ok (.getfield 74, 3) := by decide +kernel
theorem dX9_mid_59 : decode cX9_mid 59 = .ok (.iload 4, 2) := by decide +kernel
theorem dX9_mid_61 : decode cX9_mid 61 = .ok (.invokevirtual 203, 3) := by decide +kernel
theorem dX9_mid_64 : decode cX9_mid 64 = .ok (.pop, 1) := by decide +kernel
theorem dX9_mid_65 : decode cX9_mid 65 = .ok (.lload_n 2, 1) := by decide +kernel
theorem dX9_mid_66 : decode cX9_mid 66 = .ok (.aload_n 0, 1) := by decide +kernel
theorem dX9_mid_67 : decode cX9_mid 67 = .ok (.getfield 74, 3) := by decide +kernel
theorem dX9_mid_70 : decode cX9_mid 70 = .ok (.getfield 159, 3) := by decide +kernel
theorem dX9_mid_73 : decode cX9_mid 73 = .ok (.i2l, 1) := by decide +kernel
theorem dX9_mid_74 : decode cX9_mid 74 = .ok (.aload_n 0, 1) := by decide +kernel
theorem dX9_mid_75 : decode cX9_mid 75 = .ok (.iload 4, 2) := by decide +kernel
theorem dX9_mid_77 : decode cX9_mid 77 = .ok (.iload_n 1, 1) := by decide +kernel
theorem dX9_mid_78 : decode cX9_mid 78 = .ok (.invokevirtual 253, 3) := by decide +kernel
theorem dX9_mid_81 : decode cX9_mid 81 = .ok (.lmul, 1) := by decide +kernel
theorem dX9_mid_82 : decode cX9_mid 82 = .ok (.ladd, 1) := by decide +kernel
theorem dX9_mid_83 : decode cX9_mid 83 = .ok (.lstore_n 2, 1) := by decide +kernel
theorem dX9_mid_84 : decode cX9_mid 84 = .ok (.iinc 4 1, 3) := by decide +kernel
theorem dX9_mid_87 : decode cX9_mid 87 = .ok (.goto (-57), 3) := by decide +kernel
theorem dX9_mid_90 : decode cX9_mid 90 = .ok (.aload_n 0, 1) := by decide +kernel
theorem dX9_mid_91 : decode cX9_mid 91 = .ok (.lload_n 2, 1) := by decide +kernel
theorem dX9_mid_92 : decode cX9_mid 92 = .ok (.ldc2_w 257, 3) := by decide +kernel
theorem dX9_mid_95 : decode cX9_mid 95 = .ok (.aload_n 0, 1) := by decide +kernel
theorem dX9_mid_96 : decode cX9_mid 96 = .ok (.getfield 71, 3) := by decide +kernel
theorem dX9_mid_99 : decode cX9_mid 99 = .ok (.getfield 127, 3) := by decide +kernel
theorem dX9_mid_102 : decode cX9_mid 102 = .ok (.invokestatic 259, 3) := by decide +kernel
theorem dX9_mid_105 : decode cX9_mid 105 = .ok (.invokevirtual 245, 3) := by decide +kernel
theorem dX9_mid_108 : decode cX9_mid 108 = .ok (.iconst 1, 1) := by decide +kernel
theorem dX9_mid_109 : decode cX9_mid 109 = .ok (.ireturn, 1) := by decide +kernel
theorem dX9_lots_0 : decode cX9_lots 0 = .ok (.iload_n 1, 1) := by decide +kernel
theorem dX9_lots_1 : decode cX9_lots 1 = .ok (.iconst 1, 1) := by decide +kernel
theorem dX9_lots_2 : decode cX9_lots 2 = .ok (.if_icmp .lt 23, 3) := by decide +kernel
theorem dX9_lots_5 : decode cX9_lots 5 = .ok (.iload_n 1, 1) := by decide +kernel
theorem dX9_lots_6 : decode cX9_lots 6 = .ok (.bipush 20, 2) := by decide +kernel
theorem dX9_lots_8 : decode cX9_lots 8 = .ok (.if_icmp .gt 17, 3) := by decide +kernel
theorem dX9_lots_11 : decode cX9_lots 11 = .ok (.iload_n 2, 1) := by decide +kernel
theorem dX9_lots_12 : decode cX9_lots 12 = .ok (.iconst 1, 1) := by decide +kernel
theorem dX9_lots_13 : decode cX9_lots 13 = .ok (.if_icmp .lt 12, 3) := by decide +kernel
theorem dX9_lots_16 : decode cX9_lots 16 = .ok (.iload_n 2, 1) := by decide +kernel
theorem dX9_lots_17 : decode cX9_lots 17 = .ok (.i2l, 1) := by decide +kernel
theorem dX9_lots_18 : decode cX9_lots 18 = .ok (.ldc2_w 263, 3) := by decide +kernel
theorem dX9_lots_21 : decode cX9_lots 21 = .ok (.lcmp, 1) := by decide +kernel
theorem dX9_lots_22 : decode cX9_lots 22 = .ok (.ifCond .lt 5, 3) := by decide +kernel
theorem dX9_lots_25 : decode cX9_lots 25 = .ok (.iconst (-1), 1) := by decide +kernel
theorem dX9_lots_26 : decode cX9_lots 26 = .ok (.ireturn, 1) := by decide +kernel
theorem dX9_lots_27 : decode cX9_lots 27 = .ok (.aload_n 0, 1) := by decide +kernel
theorem dX9_lots_28 : decode cX9_lots 28 = .ok (.getfield 71, 3) := by decide +kernel
theorem dX9_lots_31 : decode cX9_lots 31 = .ok (.getfield 127, 3) := by decide +kernel
theorem dX9_lots_34 : decode cX9_lots 34 = .ok (.ifCond .ne 6, 3) := by decide +kernel
theorem dX9_lots_37 : decode cX9_lots 37 = .ok (.bipush (-4), 2) := by decide +kernel
theorem dX9_lots_39 : decode cX9_lots 39 = .ok (.ireturn, 1) := by decide +kernel
theorem dX9_lots_40 : decode cX9_lots 40 = .ok (.aload_n 0, 1) := by decide +kernel
theorem dX9_lots_41 : decode cX9_lots 41 = .ok (.getfield 31, 3) := by decide +kernel
theorem dX9_lots_44 : decode cX9_lots 44 = .ok (.getfield 124, 3) := by decide +kernel
theorem dX9_lots_47 : decode cX9_lots 47 = .ok (.iload_n 1, 1) := by decide +kernel
theorem dX9_lots_48 : decode cX9_lots 48 = .ok (.iadd, 1) := by decide +kernel
theorem dX9_lots_49 : decode cX9_lots 49 = .ok (.bipush 40, 2) := by decide +kernel
theorem dX9_lots_51 : decode cX9_lots 51 = .ok (.if_icmp .le 6, 3) := by decide +kernel
theorem dX9_lots_54 : decode cX9_lots 54 = .ok (.bipush (-2), 2) := by decide +kernel
theorem dX9_lots_56 : decode cX9_lots 56 = .ok (.ireturn, 1) := by decide +kernel
theorem dX9_lots_57 : decode cX9_lots 57 = .ok (.iload_n 2, 1) := by decide +kernel
theorem dX9_lots_58 : decode cX9_lots 58 = .ok (.i2l, 1) := by decide +kernel
theorem dX9_lots_59 : decode cX9_lots 59 = .ok (.lstore_n 3, 1) := by decide +kernel
theorem dX9_lots_60 : decode cX9_lots 60 = .ok (.iconst 0, 1) := by decide +kernel
theorem dX9_lots_61 : decode cX9_lots 61 = .ok (.istore 5, 2) := by decide +kernel
theorem dX9_lots_63 : decode cX9_lots 63 = .ok (.iload 5, 2) := by decide +kernel
theorem dX9_lots_65 : decode cX9_lots 65 = .ok (.iload_n 1, 1) := by decide +kernel
theorem dX9_lots_66 : decode cX9_lots 66 = .ok (.if_icmp .ge 25, 3) := by decide +kernel
theorem dX9_lots_69 : decode cX9_lots 69 = .ok (.lload_n 3, 1) := by decide +kernel
theorem dX9_lots_70 : decode cX9_lots 70 = .ok (.ldc2_w 265, 3) := by decide +kernel
theorem dX9_lots_73 : decode cX9_lots 73 = .ok (.lmul, 1) := by decide +kernel
theorem dX9_lots_74 : decode cX9_lots 74 = .ok (.ldc2_w 263, 3) := by decide +kernel
theorem dX9_lots_77 : decode cX9_lots 77 = .ok (.lrem, 1) := by decide +kernel
theorem dX9_lots_78 : decode cX9_lots 78 = .ok (.lstore_n 3, 1) := by decide +kernel
theorem dX9_lots_79 : decode cX9_lots 79 = .ok (.aload_n 0, 1) := by decide +kernel
theorem dX9_lots_80 : decode cX9_lots 80 = .ok (.lload_n 3, 1) := by decide +kernel
theorem dX9_lots_81 : decode cX9_lots 81 = .ok (.l2i, 1) := by decide +kernel
theorem dX9_lots_82 : decode cX9_lots 82 = .ok (.invokevirtual 267, 3) := by decide +kernel
theorem dX9_lots_85 : decode cX9_lots 85 = .ok (.iinc 5 1, 3) := by decide +kernel
theorem dX9_lots_88 : decode cX9_lots 88 = .ok (.goto (-25), 3) := by decide +kernel
theorem dX9_lots_91 : decode cX9_lots 91 = .ok (.aload_n 0, 1) := by decide +kernel
theorem dX9_lots_92 : decode cX9_lots 92 = .ok (.getfield 71, 3) := by decide +kernel
theorem dX9_lots_95 : decode cX9_lots 95 = .ok (.invokevirtual 142, 3) := by decide +kernel
theorem dX9_lots_98 : decode cX9_lots 98 = .ok (.ireturn, 1) := by decide +kernel
theorem dX9_asked_0 : decode cX9_asked 0 = .ok (.aload_n 0, 1) := by decide +kernel
theorem dX9_asked_1 : decode cX9_asked 1 = .ok (.getfield 49, 3) := by decide +kernel
theorem dX9_asked_4 : decode cX9_asked 4 = .ok (.ireturn, 1) := by decide +kernel
theorem dX9_upper_0 : decode cX9_upper 0 = .ok (.aload_n 0, 1) := by decide +kernel
theorem dX9_upper_1 : decode cX9_upper 1 = .ok (.getfield 52, 3) := by decide +kernel
theorem dX9_upper_4 : decode cX9_upper 4 = .ok (.lreturn, 1) := by decide +kernel
theorem dX9_lower_0 : decode cX9_lower 0 = .ok (.aload_n 0, 1) := by decide +kernel
theorem dX9_lower_1 : decode cX9_lower 1 = .ok (.getfield 56, 3) := by decide +kernel
theorem dX9_lower_4 : decode cX9_lower 4 = .ok (.lreturn, 1) := by decide +kernel
theorem dX9_count_0 : decode cX9_count 0 = .ok (.iload_n 1, 1) := by decide +kernel
theorem dX9_count_1 : decode cX9_count 1 = .ok (.tableswitch 186 0 14 #[75, 83, 91, 99, 107, 115, 123, 131, 139, 147, 155, 160, 165, 173, 181], 75) := by decide +kernel
theorem dX9_count_76 : decode cX9_count 76 = .ok (.aload_n 0, 1) := by decide +kernel
theorem dX9_count_77 : decode cX9_count 77 = .ok (.getfield 71, 3) := by decide +kernel
theorem dX9_count_80 : decode cX9_count 80 = .ok (.getfield 127, 3) := by decide +kernel
theorem dX9_count_83 : decode cX9_count 83 = .ok (.ireturn, 1) := by decide +kernel
theorem dX9_count_84 : decode cX9_count 84 = .ok (.aload_n 0, 1) := by decide +kernel
theorem dX9_count_85 : decode cX9_count 85 = .ok (.getfield 71, 3) := by decide +kernel
theorem dX9_count_88 : decode cX9_count 88 = .ok (.getfield 159, 3) := by decide +kernel
theorem dX9_count_91 : decode cX9_count 91 = .ok (.ireturn, 1) := by decide +kernel
theorem dX9_count_92 : decode cX9_count 92 = .ok (.aload_n 0, 1) := by decide +kernel
theorem dX9_count_93 : decode cX9_count 93 = .ok (.getfield 71, 3) := by decide +kernel
theorem dX9_count_96 : decode cX9_count 96 = .ok (.getfield 200, 3) := by decide +kernel
theorem dX9_count_99 : decode cX9_count 99 = .ok (.ireturn, 1) := by decide +kernel
theorem dX9_count_100 : decode cX9_count 100 = .ok (.aload_n 0, 1) := by decide +kernel
theorem dX9_count_101 : decode cX9_count 101 = .ok (.getfield 71, 3) := by decide +kernel
theorem dX9_count_104 : decode cX9_count 104 = .ok (.getfield 176, 3) := by decide +kernel
theorem dX9_count_107 : decode cX9_count 107 = .ok (.ireturn, 1) := by decide +kernel
theorem dX9_count_108 : decode cX9_count 108 = .ok (.aload_n 0, 1) := by decide +kernel
theorem dX9_count_109 : decode cX9_count 109 = .ok (.getfield 71, 3) := by decide +kernel
theorem dX9_count_112 : decode cX9_count 112 = .ok (.getfield 179, 3) := by decide +kernel
theorem dX9_count_115 : decode cX9_count 115 = .ok (.ireturn, 1) := by decide +kernel
theorem dX9_count_116 : decode cX9_count 116 = .ok (.aload_n 0, 1) := by decide +kernel
theorem dX9_count_117 : decode cX9_count 117 = .ok (.getfield 71, 3) := by decide +kernel
theorem dX9_count_120 : decode cX9_count 120 = .ok (.getfield 270, 3) := by decide +kernel
theorem dX9_count_123 : decode cX9_count 123 = .ok (.ireturn, 1) := by decide +kernel
theorem dX9_count_124 : decode cX9_count 124 = .ok (.aload_n 0, 1) := by decide +kernel
theorem dX9_count_125 : decode cX9_count 125 = .ok (.getfield 31, 3) := by decide +kernel
theorem dX9_count_128 : decode cX9_count 128 = .ok (.getfield 124, 3) := by decide +kernel
theorem dX9_count_131 : decode cX9_count 131 = .ok (.ireturn, 1) := by decide +kernel
theorem dX9_count_132 : decode cX9_count 132 = .ok (.aload_n 0, 1) := by decide +kernel
theorem dX9_count_133 : decode cX9_count 133 = .ok (.getfield 71, 3) := by decide +kernel
theorem dX9_count_136 : decode cX9_count 136 = .ok (.getfield 273, 3) := by decide +kernel
theorem dX9_count_139 : decode cX9_count 139 = .ok (.ireturn, 1) := by decide +kernel
theorem dX9_count_140 : decode cX9_count 140 = .ok (.aload_n 0, 1) := by decide +kernel
theorem dX9_count_141 : decode cX9_count 141 = .ok (.getfield 71, 3) := by decide +kernel
theorem dX9_count_144 : decode cX9_count 144 = .ok (.getfield 276, 3) := by decide +kernel
theorem dX9_count_147 : decode cX9_count 147 = .ok (.ireturn, 1) := by decide +kernel
theorem dX9_count_148 : decode cX9_count 148 = .ok (.aload_n 0, 1) := by decide +kernel
theorem dX9_count_149 : decode cX9_count 149 = .ok (.getfield 71, 3) := by decide +kernel
theorem dX9_count_152 : decode cX9_count 152 = .ok (.invokevirtual 142, 3) := by decide +kernel
theorem dX9_count_155 : decode cX9_count 155 = .ok (.ireturn, 1) := by decide +kernel
theorem dX9_count_156 : decode cX9_count 156 = .ok (.aload_n 0, 1) := by decide +kernel
theorem dX9_count_157 : decode cX9_count 157 = .ok (.invokevirtual 279, 3) := by decide +kernel
theorem dX9_count_160 : decode cX9_count 160 = .ok (.ireturn, 1) := by decide +kernel
theorem dX9_count_161 : decode cX9_count 161 = .ok (.aload_n 0, 1) := by decide +kernel
theorem dX9_count_162 : decode cX9_count 162 = .ok (.invokevirtual 282, 3) := by decide +kernel
theorem dX9_count_165 : decode cX9_count 165 = .ok (.ireturn, 1) := by decide +kernel
theorem dX9_count_166 : decode cX9_count 166 = .ok (.aload_n 0, 1) := by decide +kernel
theorem dX9_count_167 : decode cX9_count 167 = .ok (.getfield 14, 3) := by decide +kernel
theorem dX9_count_170 : decode cX9_count 170 = .ok (.invokestatic 285, 3) := by decide +kernel
theorem dX9_count_173 : decode cX9_count 173 = .ok (.ireturn, 1) := by decide +kernel
theorem dX9_count_174 : decode cX9_count 174 = .ok (.aload_n 0, 1) := by decide +kernel
theorem dX9_count_175 : decode cX9_count 175 = .ok (.getfield 23, 3) := by decide +kernel
theorem dX9_count_178 : decode cX9_count 178 = .ok (.invokestatic 285, 3) := by decide +kernel
theorem dX9_count_181 : decode cX9_count 181 = .ok (.ireturn, 1) := by decide +kernel
theorem dX9_count_182 : decode cX9_count 182 = .ok (.aload_n 0, 1) := by decide +kernel
theorem dX9_count_183 : decode cX9_count 183 = .ok (.invokevirtual 288, 3) := by decide +kernel
theorem dX9_count_186 : decode cX9_count 186 = .ok (.ireturn, 1) := by decide +kernel
theorem dX9_count_187 : decode cX9_count 187 = .ok (.iconst (-1), 1) := by decide +kernel
theorem dX9_count_188 : decode cX9_count 188 = .ok (.ireturn, 1) := by decide +kernel
theorem dX9_finding_0 : decode cX9_finding 0 = .ok (.aload_n 0, 1) := by decide +kernel
theorem dX9_finding_1 : decode cX9_finding 1 = .ok (.getfield 45, 3) := by decide +kernel
theorem dX9_finding_4 : decode cX9_finding 4 = .ok (.ireturn, 1) := by decide +kernel
theorem dX9_findings_0 : decode cX9_findings 0 = .ok (.iload_n 1, 1) := by decide +kernel
theorem dX9_findings_1 : decode cX9_findings 1 = .ok (.iconst 1, 1) := by decide +kernel
theorem dX9_findings_2 : decode cX9_findings 2 = .ok (.if_icmp .lt 8, 3) := by decide +kernel
theorem dX9_findings_5 : decode cX9_findings 5 = .ok (.iload_n 1, 1) := by decide +kernel
theorem dX9_findings_6 : decode cX9_findings 6 = .ok (.iconst 5, 1) := by decide +kernel
theorem dX9_findings_7 : decode cX9_findings 7 = .ok (.if_icmp .le 5, 3) := by decide +kernel
theorem dX9_findings_10 : decode cX9_findings 10 = .ok (.iconst (-1), 1) := by decide +kernel
theorem dX9_findings_11 : decode cX9_findings 11 = .ok (.ireturn, 1) := by decide +kernel
theorem dX9_findings_12 : decode cX9_findings 12 = .ok (.aload_n 0, 1) := by decide +kernel
theorem dX9_findings_13 : decode cX9_findings 13 = .ok (.getfield 42, 3) := by decide +kernel
theorem dX9_findings_16 : decode cX9_findings 16 = .ok (.iload_n 1, 1) := by decide +kernel
theorem dX9_findings_17 : decode cX9_findings 17 = .ok (.iaload, 1) := by decide +kernel
theorem dX9_findings_18 : decode cX9_findings 18 = .ok (.ireturn, 1) := by decide +kernel
theorem dX9_digest_0 : decode cX9_digest 0 = .ok (.ldc2_w 291, 3) := by decide +kernel
theorem dX9_digest_3 : decode cX9_digest 3 = .ok (.lstore_n 1, 1) := by decide +kernel
theorem dX9_digest_4 : decode cX9_digest 4 = .ok (.iconst 0, 1) := by decide +kernel
theorem dX9_digest_5 : decode cX9_digest 5 = .ok (.istore_n 3, 1) := by decide +kernel
theorem dX9_digest_6 : decode cX9_digest 6 = .ok (.iload_n 3, 1) := by decide +kernel
theorem dX9_digest_7 : decode cX9_digest 7 = .ok (.bipush 15, 2) := by decide +kernel
theorem dX9_digest_9 : decode cX9_digest 9 = .ok (.if_icmp .ge 22, 3) := by decide +kernel
theorem dX9_digest_12 : decode cX9_digest 12 = .ok (.ldc2_w 293, 3) := by decide +kernel
theorem dX9_digest_15 : decode cX9_digest 15 = .ok (.lload_n 1, 1) := by decide +kernel
theorem dX9_digest_16 : decode cX9_digest 16 = .ok (.lmul, 1) := by decide +kernel
theorem dX9_digest_17 : decode cX9_digest 17 = .ok (.aload_n 0, 1) := by decide +kernel
theorem dX9_digest_18 : decode cX9_digest 18 = .ok (.iload_n 3, 1) := by decide +kernel
theorem dX9_digest_19 : decode cX9_digest 19 = .ok (.invokevirtual 295, 3) := by decide +kernel
theorem dX9_digest_22 : decode cX9_digest 22 = .ok (.i2l, 1) := by decide +kernel
theorem dX9_digest_23 : decode cX9_digest 23 = .ok (.ladd, 1) := by decide +kernel
theorem dX9_digest_24 : decode cX9_digest 24 = .ok (.lstore_n 1, 1) := by decide +kernel
theorem dX9_digest_25 : decode cX9_digest 25 = .ok (.iinc 3 1, 3) := by decide +kernel
theorem dX9_digest_28 : decode cX9_digest 28 = .ok (.goto (-22), 3) := by decide +kernel
theorem dX9_digest_31 : decode cX9_digest 31 = .ok (.iconst 0, 1) := by decide +kernel
theorem dX9_digest_32 : decode cX9_digest 32 = .ok (.istore_n 3, 1) := by decide +kernel
theorem dX9_digest_33 : decode cX9_digest 33 = .ok (.iload_n 3, 1) := by decide +kernel
theorem dX9_digest_34 : decode cX9_digest 34 = .ok (.aload_n 0, 1) := by decide +kernel
theorem dX9_digest_35 : decode cX9_digest 35 = .ok (.getfield 71, 3) := by decide +kernel
theorem dX9_digest_38 : decode cX9_digest 38 = .ok (.getfield 127, 3) := by decide +kernel
theorem dX9_digest_41 : decode cX9_digest 41 = .ok (.if_icmp .ge 39, 3) := by decide +kernel
theorem dX9_digest_44 : decode cX9_digest 44 = .ok (.iconst 0, 1) := by decide +kernel
theorem dX9_digest_45 : decode cX9_digest 45 = .ok (.istore 4, 2) := by decide +kernel
theorem dX9_digest_47 : decode cX9_digest 47 = .ok (.iload 4, 2) := by decide +kernel
theorem dX9_digest_49 : decode cX9_digest 49 = .ok (.iconst 5, 1) := by decide +kernel
theorem dX9_digest_50 : decode cX9_digest 50 = .ok (.if_icmp .ge 24, 3) := by decide +kernel
theorem dX9_digest_53 : decode cX9_digest 53 = .ok (.ldc2_w 293, 3) := by decide +kernel
theorem dX9_digest_56 : decode cX9_digest 56 = .ok (.lload_n 1, 1) := by decide +kernel
theorem dX9_digest_57 : decode cX9_digest 57 = .ok (.lmul, 1) := by decide +kernel
theorem dX9_digest_58 : decode cX9_digest 58 = .ok (.aload_n 0, 1) := by decide +kernel
theorem dX9_digest_59 : decode cX9_digest 59 = .ok (.iload_n 3, 1) := by decide +kernel
theorem dX9_digest_60 : decode cX9_digest 60 = .ok (.iload 4, 2) := by decide +kernel
theorem dX9_digest_62 : decode cX9_digest 62 = .ok (.invokevirtual 133, 3) := by decide +kernel
theorem dX9_digest_65 : decode cX9_digest 65 = .ok (.i2l, 1) := by decide +kernel
theorem dX9_digest_66 : decode cX9_digest 66 = .ok (.ladd, 1) := by decide +kernel
theorem dX9_digest_67 : decode cX9_digest 67 = .ok (.lstore_n 1, 1) := by decide +kernel
theorem dX9_digest_68 : decode cX9_digest 68 = .ok (.iinc 4 1, 3) := by decide +kernel
theorem dX9_digest_71 : decode cX9_digest 71 = .ok (.goto (-24), 3) := by decide +kernel
theorem dX9_digest_74 : decode cX9_digest 74 = .ok (.iinc 3 1, 3) := by decide +kernel
theorem dX9_digest_77 : decode cX9_digest 77 = .ok (.goto (-44), 3) := by decide +kernel
theorem dX9_digest_80 : decode cX9_digest 80 = .ok (.iconst 0, 1) := by decide +kernel
theorem dX9_digest_81 : decode cX9_digest 81 = .ok (.istore_n 3, 1) := by decide +kernel
theorem dX9_digest_82 : decode cX9_digest 82 = .ok (.iload_n 3, 1) := by decide +kernel
theorem dX9_digest_83 : decode cX9_digest 83 = .ok (.iconst 3, 1) := by decide +kernel
theorem dX9_digest_84 : decode cX9_digest 84 = .ok (.if_icmp .ge 26, 3) := by decide +kernel
theorem dX9_digest_87 : decode cX9_digest 87 = .ok (.ldc2_w 293, 3) := by decide +kernel
theorem dX9_digest_90 : decode cX9_digest 90 = .ok (.lload_n 1, 1) := by decide +kernel
theorem dX9_digest_91 : decode cX9_digest 91 = .ok (.lmul, 1) := by decide +kernel
theorem dX9_digest_92 : decode cX9_digest 92 = .ok (.aload_n 0, 1) := by decide +kernel
theorem dX9_digest_93 : decode cX9_digest 93 = .ok (.getfield 35, 3) := by decide +kernel
theorem dX9_digest_96 : decode cX9_digest 96 = .ok (.iload_n 3, 1) := by decide +kernel
theorem dX9_digest_97 : decode cX9_digest 97 = .ok (.aaload, 1) := by decide +kernel
theorem dX9_digest_98 : decode cX9_digest 98 = .ok (.getfield 124, 3) := by decide +kernel
theorem dX9_digest_101 : decode cX9_digest 101 = .ok (.i2l, 1) := by decide +kernel
theorem dX9_digest_102 : decode cX9_digest 102 = .ok (.ladd, 1) := by decide +kernel
theorem dX9_digest_103 : decode cX9_digest 103 = .ok (.lstore_n 1, 1) := by decide +kernel
theorem dX9_digest_104 : decode cX9_digest 104 = .ok (.iinc 3 1, 3) := by decide +kernel
theorem dX9_digest_107 : decode cX9_digest 107 = .ok (.goto (-25), 3) := by decide +kernel
theorem dX9_digest_110 : decode cX9_digest 110 = .ok (.iconst 0, 1) := by decide +kernel
theorem dX9_digest_111 : decode cX9_digest 111 = .ok (.istore_n 3, 1) := by decide +kernel
theorem dX9_digest_112 : decode cX9_digest 112 = .ok (.iload_n 3, 1) := by decide +kernel
theorem dX9_digest_113 : decode cX9_digest 113 = .ok (.bipush 6, 2) := by decide +kernel
theorem dX9_digest_115 : decode cX9_digest 115 = .ok (.if_icmp .ge 60, 3) := by decide +kernel
theorem dX9_digest_118 : decode cX9_digest 118 = .ok (.ldc2_w 293, 3) := by decide +kernel
theorem dX9_digest_121 : decode cX9_digest 121 = .ok (.lload_n 1, 1) := by decide +kernel
theorem dX9_digest_122 : decode cX9_digest 122 = .ok (.lmul, 1) := by decide +kernel
theorem dX9_digest_123 : decode cX9_digest 123 = .ok (.aload_n 0, 1) := by decide +kernel
theorem dX9_digest_124 : decode cX9_digest 124 = .ok (.getfield 14, 3) := by decide +kernel
theorem dX9_digest_127 : decode cX9_digest 127 = .ok (.iload_n 3, 1) := by decide +kernel
theorem dX9_digest_128 : decode cX9_digest 128 = .ok (.iaload, 1) := by decide +kernel
theorem dX9_digest_129 : decode cX9_digest 129 = .ok (.i2l, 1) := by decide +kernel
theorem dX9_digest_130 : decode cX9_digest 130 = .ok (.ladd, 1) := by decide +kernel
theorem dX9_digest_131 : decode cX9_digest 131 = .ok (.lstore_n 1, 1) := by decide +kernel
theorem dX9_digest_132 : decode cX9_digest 132 = .ok (.iconst 0, 1) := by decide +kernel
theorem dX9_digest_133 : decode cX9_digest 133 = .ok (.istore 4, 2) := by decide +kernel
theorem dX9_digest_135 : decode cX9_digest 135 = .ok (.iload 4, 2) := by decide +kernel
theorem dX9_digest_137 : decode cX9_digest 137 = .ok (.aload_n 0, 1) := by decide +kernel
theorem dX9_digest_138 : decode cX9_digest 138 = .ok (.getfield 14, 3) := by decide +kernel
theorem dX9_digest_141 : decode cX9_digest 141 = .ok (.iload_n 3, 1) := by decide +kernel
theorem dX9_digest_142 : decode cX9_digest 142 = .ok (.iaload, 1) := by decide +kernel
theorem dX9_digest_143 : decode cX9_digest 143 = .ok (.if_icmp .ge 26, 3) := by decide +kernel
theorem dX9_digest_146 : decode cX9_digest 146 = .ok (.ldc2_w 293, 3) := by decide +kernel
theorem dX9_digest_149 : decode cX9_digest 149 = .ok (.lload_n 1, 1) := by decide +kernel
theorem dX9_digest_150 : decode cX9_digest 150 = .ok (.lmul, 1) := by decide +kernel
theorem dX9_digest_151 : decode cX9_digest 151 = .ok (.aload_n 0, 1) := by decide +kernel
theorem dX9_digest_152 : decode cX9_digest 152 = .ok (.getfield 11, 3) := by decide +kernel
theorem dX9_digest_155 : decode cX9_digest 155 = .ok (.iload_n 3, 1) := by decide +kernel
theorem dX9_digest_156 : decode cX9_digest 156 = .ok (.aaload, 1) := by decide +kernel
theorem dX9_digest_157 : decode cX9_digest 157 = .ok (.iload 4, 2) := by decide +kernel
theorem dX9_digest_159 : decode cX9_digest 159 = .ok (.iaload, 1) := by decide +kernel
theorem dX9_digest_160 : decode cX9_digest 160 = .ok (.i2l, 1) := by decide +kernel
theorem dX9_digest_161 : decode cX9_digest 161 = .ok (.ladd, 1) := by decide +kernel
theorem dX9_digest_162 : decode cX9_digest 162 = .ok (.lstore_n 1, 1) := by decide +kernel
theorem dX9_digest_163 : decode cX9_digest 163 = .ok (.iinc 4 1, 3) := by decide +kernel
theorem dX9_digest_166 : decode cX9_digest 166 = .ok (.goto (-31), 3) := by decide +kernel
theorem dX9_digest_169 : decode cX9_digest 169 = .ok (.iinc 3 1, 3) := by decide +kernel
theorem dX9_digest_172 : decode cX9_digest 172 = .ok (.goto (-60), 3) := by decide +kernel
theorem dX9_digest_175 : decode cX9_digest 175 = .ok (.iconst 0, 1) := by decide +kernel
theorem dX9_digest_176 : decode cX9_digest 176 = .ok (.istore_n 3, 1) := by decide +kernel
theorem dX9_digest_177 : decode cX9_digest 177 = .ok (.iload_n 3, 1) := by decide +kernel
theorem dX9_digest_178 : decode cX9_digest 178 = .ok (.iconst 4, 1) := by decide +kernel
theorem dX9_digest_179 : decode cX9_digest 179 = .ok (.if_icmp .ge 60, 3) := by decide +kernel
theorem dX9_digest_182 : decode cX9_digest 182 = .ok (.ldc2_w 293, 3) := by decide +kernel
theorem dX9_digest_185 : decode cX9_digest 185 = .ok (.lload_n 1, 1) := by decide +kernel
theorem dX9_digest_186 : decode cX9_digest 186 = .ok (.lmul, 1) := by decide +kernel
theorem dX9_digest_187 : decode cX9_digest 187 = .ok (.aload_n 0, 1) := by decide +kernel
theorem dX9_digest_188 : decode cX9_digest 188 = .ok (.getfield 23, 3) := by decide +kernel
theorem dX9_digest_191 : decode cX9_digest 191 = .ok (.iload_n 3, 1) := by decide +kernel
theorem dX9_digest_192 : decode cX9_digest 192 = .ok (.iaload, 1) := by decide +kernel
theorem dX9_digest_193 : decode cX9_digest 193 = .ok (.i2l, 1) := by decide +kernel
theorem dX9_digest_194 : decode cX9_digest 194 = .ok (.ladd, 1) := by decide +kernel
theorem dX9_digest_195 : decode cX9_digest 195 = .ok (.lstore_n 1, 1) := by decide +kernel
theorem dX9_digest_196 : decode cX9_digest 196 = .ok (.iconst 0, 1) := by decide +kernel
theorem dX9_digest_197 : decode cX9_digest 197 = .ok (.istore 4, 2) := by decide +kernel
theorem dX9_digest_199 : decode cX9_digest 199 = .ok (.iload 4, 2) := by decide +kernel
theorem dX9_digest_201 : decode cX9_digest 201 = .ok (.aload_n 0, 1) := by decide +kernel
theorem dX9_digest_202 : decode cX9_digest 202 = .ok (.getfield 23, 3) := by decide +kernel
theorem dX9_digest_205 : decode cX9_digest 205 = .ok (.iload_n 3, 1) := by decide +kernel
theorem dX9_digest_206 : decode cX9_digest 206 = .ok (.iaload, 1) := by decide +kernel
theorem dX9_digest_207 : decode cX9_digest 207 = .ok (.if_icmp .ge 26, 3) := by decide +kernel
theorem dX9_digest_210 : decode cX9_digest 210 = .ok (.ldc2_w 293, 3) := by decide +kernel
theorem dX9_digest_213 : decode cX9_digest 213 = .ok (.lload_n 1, 1) := by decide +kernel
theorem dX9_digest_214 : decode cX9_digest 214 = .ok (.lmul, 1) := by decide +kernel
theorem dX9_digest_215 : decode cX9_digest 215 = .ok (.aload_n 0, 1) := by decide +kernel
theorem dX9_digest_216 : decode cX9_digest 216 = .ok (.getfield 20, 3) := by decide +kernel
theorem dX9_digest_219 : decode cX9_digest 219 = .ok (.iload_n 3, 1) := by decide +kernel
theorem dX9_digest_220 : decode cX9_digest 220 = .ok (.aaload, 1) := by decide +kernel
theorem dX9_digest_221 : decode cX9_digest 221 = .ok (.iload 4, 2) := by decide +kernel
theorem dX9_digest_223 : decode cX9_digest 223 = .ok (.baload, 1) := by decide +kernel
theorem dX9_digest_224 : decode cX9_digest 224 = .ok (.i2l, 1) := by decide +kernel
theorem dX9_digest_225 : decode cX9_digest 225 = .ok (.ladd, 1) := by decide +kernel
theorem dX9_digest_226 : decode cX9_digest 226 = .ok (.lstore_n 1, 1) := by decide +kernel
theorem dX9_digest_227 : decode cX9_digest 227 = .ok (.iinc 4 1, 3) := by decide +kernel
theorem dX9_digest_230 : decode cX9_digest 230 = .ok (.goto (-31), 3) := by decide +kernel
theorem dX9_digest_233 : decode cX9_digest 233 = .ok (.iinc 3 1, 3) := by decide +kernel
theorem dX9_digest_236 : decode cX9_digest 236 = .ok (.goto (-59), 3) := by decide +kernel
theorem dX9_digest_239 : decode cX9_digest 239 = .ok (.lload_n 1, 1) := by decide +kernel
theorem dX9_digest_240 : decode cX9_digest 240 = .ok (.lreturn, 1) := by decide +kernel
theorem dX9_answerFinding_0 : decode cX9_answerFinding 0 = .ok (.aload_n 0, 1) := by decide +kernel
theorem dX9_answerFinding_1 : decode cX9_answerFinding 1 = .ok (.iload_n 1, 1) := by decide +kernel
theorem dX9_answerFinding_2 : decode cX9_answerFinding 2 = .ok (.putfield 45, 3) := by decide +kernel
theorem dX9_answerFinding_5 : decode cX9_answerFinding 5 = .ok (.aload_n 0, 1) := by decide +kernel
theorem dX9_answerFinding_6 : decode cX9_answerFinding 6 = .ok (.getfield 42, 3) := by decide +kernel
theorem dX9_answerFinding_9 : decode cX9_answerFinding 9 = .ok (.iload_n 1, 1) := by decide +kernel
theorem dX9_answerFinding_10 : decode cX9_answerFinding 10 = .ok (.dup2, 1) := by decide +kernel
theorem dX9_answerFinding_11 : decode cX9_answerFinding 11 = .ok (.iaload, 1) := by decide +kernel
theorem dX9_answerFinding_12 : decode cX9_answerFinding 12 = .ok (.iconst 1, 1) := by decide +kernel
theorem dX9_answerFinding_13 : decode cX9_answerFinding 13 = .ok (.iadd, 1) := by decide +kernel
theorem dX9_answerFinding_14 : decode cX9_answerFinding 14 = .ok (.iastore, 1) := by decide +kernel
theorem dX9_answerFinding_15 : decode cX9_answerFinding 15 = .ok (.bipush (-3), 2) := by decide +kernel
theorem dX9_answerFinding_17 : decode cX9_answerFinding 17 = .ok (.ireturn, 1) := by decide +kernel
theorem dX9_isRow_0 : decode cX9_isRow 0 = .ok (.iload_n 0, 1) := by decide +kernel
theorem dX9_isRow_1 : decode cX9_isRow 1 = .ok (.ifCond .lt 13, 3) := by decide +kernel
theorem dX9_isRow_4 : decode cX9_isRow 4 = .ok (.iload_n 0, 1) := by decide +kernel
theorem dX9_isRow_5 : decode cX9_isRow 5 = .ok (.bipush 6, 2) := by decide +kernel
theorem dX9_isRow_7 : decode cX9_isRow 7 = .ok (.if_icmp .ge 7, 3) := by decide +kernel
theorem dX9_isRow_10 : decode cX9_isRow 10 = .ok (.iconst 1, 1) := by decide +kernel
theorem dX9_isRow_11 : decode cX9_isRow 11 = .ok (.goto 4, 3) := by decide +kernel
theorem dX9_isRow_14 : decode cX9_isRow 14 = .ok (.iconst 0, 1) := by decide +kernel
theorem dX9_isRow_15 : decode cX9_isRow 15 = .ok (.ireturn, 1) := by decide +kernel
theorem dX9_isText_0 : decode cX9_isText 0 = .ok (.iload_n 0, 1) := by decide +kernel
theorem dX9_isText_1 : decode cX9_isText 1 = .ok (.ifCond .lt 12, 3) := by decide +kernel
theorem dX9_isText_4 : decode cX9_isText 4 = .ok (.iload_n 0, 1) := by decide +kernel
theorem dX9_isText_5 : decode cX9_isText 5 = .ok (.iconst 4, 1) := by decide +kernel
theorem dX9_isText_6 : decode cX9_isText 6 = .ok (.if_icmp .ge 7, 3) := by decide +kernel
theorem dX9_isText_9 : decode cX9_isText 9 = .ok (.iconst 1, 1) := by decide +kernel
theorem dX9_isText_10 : decode cX9_isText 10 = .ok (.goto 4, 3) := by decide +kernel
theorem dX9_isText_13 : decode cX9_isText 13 = .ok (.iconst 0, 1) := by decide +kernel
theorem dX9_isText_14 : decode cX9_isText 14 = .ok (.ireturn, 1) := by decide +kernel
theorem dX9_isKeepingPlace_0 : decode cX9_isKeepingPlace 0 = .ok (.iload_n 0, 1) := by decide +kernel
theorem dX9_isKeepingPlace_1 : decode cX9_isKeepingPlace 1 = .ok (.ifCond .lt 12, 3) := by decide +kernel
theorem dX9_isKeepingPlace_4 : decode cX9_isKeepingPlace 4 = .ok (.iload_n 0, 1) := by decide +kernel
theorem dX9_isKeepingPlace_5 : decode cX9_isKeepingPlace 5 = .ok (.iconst 3, 1) := by decide +kernel
theorem dX9_isKeepingPlace_6 : decode cX9_isKeepingPlace 6 = .ok (.if_icmp .ge 7, 3) := by decide +kernel
theorem dX9_isKeepingPlace_9 : decode cX9_isKeepingPlace 9 = .ok (.iconst 1, 1) := by decide +kernel
theorem dX9_isKeepingPlace_10 : decode cX9_isKeepingPlace 10 = .ok (.goto 4, 3) := by decide +kernel
theorem dX9_isKeepingPlace_13 : decode cX9_isKeepingPlace 13 = .ok (.iconst 0, 1) := by decide +kernel
theorem dX9_isKeepingPlace_14 : decode cX9_isKeepingPlace 14 = .ok (.ireturn, 1) := by decide +kernel
theorem dX9_isPlan_0 : decode cX9_isPlan 0 = .ok (.iload_n 0, 1) := by decide +kernel
theorem dX9_isPlan_1 : decode cX9_isPlan 1 = .ok (.iconst 1, 1) := by decide +kernel
theorem dX9_isPlan_2 : decode cX9_isPlan 2 = .ok (.if_icmp .lt 13, 3) := by decide +kernel
theorem dX9_isPlan_5 : decode cX9_isPlan 5 = .ok (.iload_n 0, 1) := by decide +kernel
theorem dX9_isPlan_6 : decode cX9_isPlan 6 = .ok (.bipush 20, 2) := by decide +kernel
theorem dX9_isPlan_8 : decode cX9_isPlan 8 = .ok (.if_icmp .gt 7, 3) := by decide +kernel
theorem dX9_isPlan_11 : decode cX9_isPlan 11 = .ok (.iconst 1, 1) := by decide +kernel
theorem dX9_isPlan_12 : decode cX9_isPlan 12 = .ok (.goto 4, 3) := by decide +kernel
theorem dX9_isPlan_15 : decode cX9_isPlan 15 = .ok (.iconst 0, 1) := by decide +kernel
theorem dX9_isPlan_16 : decode cX9_isPlan 16 = .ok (.ireturn, 1) := by decide +kernel
theorem dX9_hasPlaces_0 : decode cX9_hasPlaces 0 = .ok (.iload_n 2, 1) := by decide +kernel
theorem dX9_hasPlaces_1 : decode cX9_hasPlaces 1 = .ok (.ifCond .lt 29, 3) := by decide +kernel
theorem dX9_hasPlaces_4 : decode cX9_hasPlaces 4 = .ok (.iload_n 3, 1) := by decide +kernel
theorem dX9_hasPlaces_5 : decode cX9_hasPlaces 5 = .ok (.aload_n 0, 1) := by decide +kernel
theorem dX9_hasPlaces_6 : decode cX9_hasPlaces 6 = .ok (.getfield 14, 3) := by decide +kernel
theorem dX9_hasPlaces_9 : decode cX9_hasPlaces 9 = .ok (.iload_n 1, 1) := by decide +kernel
theorem dX9_hasPlaces_10 : decode cX9_hasPlaces 10 = .ok (.iaload, 1) := by decide +kernel
theorem dX9_hasPlaces_11 : decode cX9_hasPlaces 11 = .ok (.if_icmp .gt 19, 3) := by decide +kernel
theorem dX9_hasPlaces_14 : decode cX9_hasPlaces 14 = .ok (.iload_n 2, 1) := by decide +kernel
theorem dX9_hasPlaces_15 : decode cX9_hasPlaces 15 = .ok (.aload_n 0, 1) := by decide +kernel
theorem dX9_hasPlaces_16 : decode cX9_hasPlaces 16 = .ok (.getfield 14, 3) := by decide +kernel
theorem dX9_hasPlaces_19 : decode cX9_hasPlaces 19 = .ok (.iload_n 1, 1) := by decide +kernel
theorem dX9_hasPlaces_20 : decode cX9_hasPlaces 20 = .ok (.iaload, 1) := by decide +kernel
theorem dX9_hasPlaces_21 : decode cX9_hasPlaces 21 = .ok (.iload_n 3, 1) := by decide +kernel
theorem dX9_hasPlaces_22 : decode cX9_hasPlaces 22 = .ok (.isub, 1) := by decide +kernel
theorem dX9_hasPlaces_23 : decode cX9_hasPlaces 23 = .ok (.if_icmp .gt 7, 3) := by decide +kernel
theorem dX9_hasPlaces_26 : decode cX9_hasPlaces 26 = .ok (.iconst 1, 1) := by decide +kernel
theorem dX9_hasPlaces_27 : decode cX9_hasPlaces 27 = .ok (.goto 4, 3) := by decide +kernel
theorem dX9_hasPlaces_30 : decode cX9_hasPlaces 30 = .ok (.iconst 0, 1) := by decide +kernel
theorem dX9_hasPlaces_31 : decode cX9_hasPlaces 31 = .ok (.ireturn, 1) := by decide +kernel
theorem dX9_refusedRow_0 : decode cX9_refusedRow 0 = .ok (.iload_n 1, 1) := by decide +kernel
theorem dX9_refusedRow_1 : decode cX9_refusedRow 1 = .ok (.invokestatic 83, 3) := by decide +kernel
theorem dX9_refusedRow_4 : decode cX9_refusedRow 4 = .ok (.ifCond .ne 5, 3) := by decide +kernel
theorem dX9_refusedRow_7 : decode cX9_refusedRow 7 = .ok (.iconst (-1), 1) := by decide +kernel
theorem dX9_refusedRow_8 : decode cX9_refusedRow 8 = .ok (.ireturn, 1) := by decide +kernel
theorem dX9_refusedRow_9 : decode cX9_refusedRow 9 = .ok (.aload_n 0, 1) := by decide +kernel
theorem dX9_refusedRow_10 : decode cX9_refusedRow 10 = .ok (.getfield 14, 3) := by decide +kernel
theorem dX9_refusedRow_13 : decode cX9_refusedRow 13 = .ok (.iload_n 1, 1) := by decide +kernel
theorem dX9_refusedRow_14 : decode cX9_refusedRow 14 = .ok (.iaload, 1) := by decide +kernel
theorem dX9_refusedRow_15 : decode cX9_refusedRow 15 = .ok (.iconst (-1), 1) := by decide +kernel
theorem dX9_refusedRow_16 : decode cX9_refusedRow 16 = .ok (.if_icmp .ne 11, 3) := by decide +kernel
theorem dX9_refusedRow_19 : decode cX9_refusedRow 19 = .ok (.aload_n 0, 1) := by decide +kernel
theorem dX9_refusedRow_20 : decode cX9_refusedRow 20 = .ok (.iconst 1, 1) := by decide +kernel
theorem dX9_refusedRow_21 : decode cX9_refusedRow 21 = .ok (.invokevirtual 87, 3) := by decide +kernel
theorem dX9_refusedRow_24 : decode cX9_refusedRow 24 = .ok (.goto 4, 3) := by decide +kernel
theorem dX9_refusedRow_27 : decode cX9_refusedRow 27 = .ok (.iconst 0, 1) := by decide +kernel
theorem dX9_refusedRow_28 : decode cX9_refusedRow 28 = .ok (.ireturn, 1) := by decide +kernel
theorem dX9_refusedPlace_0 : decode cX9_refusedPlace 0 = .ok (.aload_n 0, 1) := by decide +kernel
theorem dX9_refusedPlace_1 : decode cX9_refusedPlace 1 = .ok (.iload_n 1, 1) := by decide +kernel
theorem dX9_refusedPlace_2 : decode cX9_refusedPlace 2 = .ok (.invokevirtual 95, 3) := by decide +kernel
theorem dX9_refusedPlace_5 : decode cX9_refusedPlace 5 = .ok (.istore_n 3, 1) := by decide +kernel
theorem dX9_refusedPlace_6 : decode cX9_refusedPlace 6 = .ok (.iload_n 3, 1) := by decide +kernel
theorem dX9_refusedPlace_7 : decode cX9_refusedPlace 7 = .ok (.ifCond .eq 5, 3) := by decide +kernel
theorem dX9_refusedPlace_10 : decode cX9_refusedPlace 10 = .ok (.iload_n 3, 1) := by decide +kernel
theorem dX9_refusedPlace_11 : decode cX9_refusedPlace 11 = .ok (.ireturn, 1) := by decide +kernel
theorem dX9_refusedPlace_12 : decode cX9_refusedPlace 12 = .ok (.aload_n 0, 1) := by decide +kernel
theorem dX9_refusedPlace_13 : decode cX9_refusedPlace 13 = .ok (.iload_n 1, 1) := by decide +kernel
theorem dX9_refusedPlace_14 : decode cX9_refusedPlace 14 = .ok (.iload_n 2, 1) := by decide +kernel
theorem dX9_refusedPlace_15 : decode cX9_refusedPlace 15 = .ok (.iconst 1, 1) := by decide +kernel
theorem dX9_refusedPlace_16 : decode cX9_refusedPlace 16 = .ok (.invokevirtual 98, 3) := by decide +kernel
theorem dX9_refusedPlace_19 : decode cX9_refusedPlace 19 = .ok (.ifCond .eq 7, 3) := by decide +kernel
theorem dX9_refusedPlace_22 : decode cX9_refusedPlace 22 = .ok (.iconst 0, 1) := by decide +kernel
theorem dX9_refusedPlace_23 : decode cX9_refusedPlace 23 = .ok (.goto 8, 3) := by decide +kernel
theorem dX9_refusedPlace_26 : decode cX9_refusedPlace 26 = .ok (.aload_n 0, 1) := by decide +kernel
theorem dX9_refusedPlace_27 : decode cX9_refusedPlace 27 = .ok (.iconst 2, 1) := by decide +kernel
theorem dX9_refusedPlace_28 : decode cX9_refusedPlace 28 = .ok (.invokevirtual 87, 3) := by decide +kernel
theorem dX9_refusedPlace_31 : decode cX9_refusedPlace 31 = .ok (.ireturn, 1) := by decide +kernel
theorem dX9_refusedText_0 : decode cX9_refusedText 0 = .ok (.iload_n 1, 1) := by decide +kernel
theorem dX9_refusedText_1 : decode cX9_refusedText 1 = .ok (.invokestatic 108, 3) := by decide +kernel
theorem dX9_refusedText_4 : decode cX9_refusedText 4 = .ok (.ifCond .ne 5, 3) := by decide +kernel
theorem dX9_refusedText_7 : decode cX9_refusedText 7 = .ok (.iconst (-1), 1) := by decide +kernel
theorem dX9_refusedText_8 : decode cX9_refusedText 8 = .ok (.ireturn, 1) := by decide +kernel
theorem dX9_refusedText_9 : decode cX9_refusedText 9 = .ok (.aload_n 0, 1) := by decide +kernel
theorem dX9_refusedText_10 : decode cX9_refusedText 10 = .ok (.getfield 23, 3) := by decide +kernel
theorem dX9_refusedText_13 : decode cX9_refusedText 13 = .ok (.iload_n 1, 1) := by decide +kernel
theorem dX9_refusedText_14 : decode cX9_refusedText 14 = .ok (.iaload, 1) := by decide +kernel
theorem dX9_refusedText_15 : decode cX9_refusedText 15 = .ok (.iconst (-1), 1) := by decide +kernel
theorem dX9_refusedText_16 : decode cX9_refusedText 16 = .ok (.if_icmp .ne 11, 3) := by decide +kernel
theorem dX9_refusedText_19 : decode cX9_refusedText 19 = .ok (.aload_n 0, 1) := by decide +kernel
theorem dX9_refusedText_20 : decode cX9_refusedText 20 = .ok (.iconst 1, 1) := by decide +kernel
theorem dX9_refusedText_21 : decode cX9_refusedText 21 = .ok (.invokevirtual 87, 3) := by decide +kernel
theorem dX9_refusedText_24 : decode cX9_refusedText 24 = .ok (.goto 4, 3) := by decide +kernel
theorem dX9_refusedText_27 : decode cX9_refusedText 27 = .ok (.iconst 0, 1) := by decide +kernel
theorem dX9_refusedText_28 : decode cX9_refusedText 28 = .ok (.ireturn, 1) := by decide +kernel
theorem dX9_refusedHad_0 : decode cX9_refusedHad 0 = .ok (.aload_n 0, 1) := by decide +kernel
theorem dX9_refusedHad_1 : decode cX9_refusedHad 1 = .ok (.getfield 71, 3) := by decide +kernel
theorem dX9_refusedHad_4 : decode cX9_refusedHad 4 = .ok (.iload_n 1, 1) := by decide +kernel
theorem dX9_refusedHad_5 : decode cX9_refusedHad 5 = .ok (.invokevirtual 130, 3) := by decide +kernel
theorem dX9_refusedHad_8 : decode cX9_refusedHad 8 = .ok (.ifCond .ne 5, 3) := by decide +kernel
theorem dX9_refusedHad_11 : decode cX9_refusedHad 11 = .ok (.iconst (-1), 1) := by decide +kernel
theorem dX9_refusedHad_12 : decode cX9_refusedHad 12 = .ok (.ireturn, 1) := by decide +kernel
theorem dX9_refusedHad_13 : decode cX9_refusedHad 13 = .ok (.aload_n 0, 1) := by decide +kernel
theorem dX9_refusedHad_14 : decode cX9_refusedHad 14 = .ok (.iload_n 2, 1) := by decide +kernel
theorem dX9_refusedHad_15 : decode cX9_refusedHad 15 = .ok (.invokevirtual 95, 3) := by decide +kernel
theorem dX9_refusedHad_18 : decode cX9_refusedHad 18 = .ok (.istore_n 3, 1) := by decide +kernel
theorem dX9_refusedHad_19 : decode cX9_refusedHad 19 = .ok (.iload_n 3, 1) := by decide +kernel
theorem dX9_refusedHad_20 : decode cX9_refusedHad 20 = .ok (.ifCond .eq 5, 3) := by decide +kernel
theorem dX9_refusedHad_23 : decode cX9_refusedHad 23 = .ok (.iload_n 3, 1) := by decide +kernel
theorem dX9_refusedHad_24 : decode cX9_refusedHad 24 = .ok (.ireturn, 1) := by decide +kernel
theorem dX9_refusedHad_25 : decode cX9_refusedHad 25 = .ok (.aload_n 0, 1) := by decide +kernel
theorem dX9_refusedHad_26 : decode cX9_refusedHad 26 = .ok (.getfield 14, 3) := by decide +kernel
theorem dX9_refusedHad_29 : decode cX9_refusedHad 29 = .ok (.iload_n 2, 1) := by decide +kernel
theorem dX9_refusedHad_30 : decode cX9_refusedHad 30 = .ok (.iaload, 1) := by decide +kernel
theorem dX9_refusedHad_31 : decode cX9_refusedHad 31 = .ok (.iconst 1, 1) := by decide +kernel
theorem dX9_refusedHad_32 : decode cX9_refusedHad 32 = .ok (.if_icmp .lt 14, 3) := by decide +kernel
theorem dX9_refusedHad_35 : decode cX9_refusedHad 35 = .ok (.aload_n 0, 1) := by decide +kernel
theorem dX9_refusedHad_36 : decode cX9_refusedHad 36 = .ok (.getfield 14, 3) := by decide +kernel
theorem dX9_refusedHad_39 : decode cX9_refusedHad 39 = .ok (.iload_n 2, 1) := by decide +kernel
theorem dX9_refusedHad_40 : decode cX9_refusedHad 40 = .ok (.iaload, 1) := by decide +kernel
theorem dX9_refusedHad_41 : decode cX9_refusedHad 41 = .ok (.bipush 10, 2) := by decide +kernel
theorem dX9_refusedHad_43 : decode cX9_refusedHad 43 = .ok (.if_icmp .le 9, 3) := by decide +kernel
theorem dX9_refusedHad_46 : decode cX9_refusedHad 46 = .ok (.aload_n 0, 1) := by decide +kernel
theorem dX9_refusedHad_47 : decode cX9_refusedHad 47 = .ok (.iconst 5, 1) := by decide +kernel
theorem dX9_refusedHad_48 : decode cX9_refusedHad 48 = .ok (.invokevirtual 87, 3) := by decide +kernel
theorem dX9_refusedHad_51 : decode cX9_refusedHad 51 = .ok (.ireturn, 1) := by decide +kernel
theorem dX9_refusedHad_52 : decode cX9_refusedHad 52 = .ok (.iconst 0, 1) := by decide +kernel
theorem dX9_refusedHad_53 : decode cX9_refusedHad 53 = .ok (.istore 4, 2) := by decide +kernel
theorem dX9_refusedHad_55 : decode cX9_refusedHad 55 = .ok (.iload 4, 2) := by decide +kernel
theorem dX9_refusedHad_57 : decode cX9_refusedHad 57 = .ok (.aload_n 0, 1) := by decide +kernel
theorem dX9_refusedHad_58 : decode cX9_refusedHad 58 = .ok (.getfield 14, 3) := by decide +kernel
theorem dX9_refusedHad_61 : decode cX9_refusedHad 61 = .ok (.iload_n 2, 1) := by decide +kernel
theorem dX9_refusedHad_62 : decode cX9_refusedHad 62 = .ok (.iaload, 1) := by decide +kernel
theorem dX9_refusedHad_63 : decode cX9_refusedHad 63 = .ok (.if_icmp .ge 41, 3) := by decide +kernel
theorem dX9_refusedHad_66 : decode cX9_refusedHad 66 = .ok (.aload_n 0, 1) := by decide +kernel
theorem dX9_refusedHad_67 : decode cX9_refusedHad 67 = .ok (.getfield 11, 3) := by decide +kernel
theorem dX9_refusedHad_70 : decode cX9_refusedHad 70 = .ok (.iload_n 2, 1) := by decide +kernel
theorem dX9_refusedHad_71 : decode cX9_refusedHad 71 = .ok (.aaload, 1) := by decide +kernel
theorem dX9_refusedHad_72 : decode cX9_refusedHad 72 = .ok (.iload 4, 2) := by decide +kernel
theorem dX9_refusedHad_74 : decode cX9_refusedHad 74 = .ok (.iaload, 1) := by decide +kernel
theorem dX9_refusedHad_75 : decode cX9_refusedHad 75 = .ok (.ifCond .lt 17, 3) := by decide +kernel
theorem dX9_refusedHad_78 : decode cX9_refusedHad 78 = .ok (.aload_n 0, 1) := by decide +kernel
theorem dX9_refusedHad_79 : decode cX9_refusedHad 79 = .ok (.getfield 11, 3) := by decide +kernel
theorem dX9_refusedHad_82 : decode cX9_refusedHad 82 = .ok (.iload_n 2, 1) := by decide +kernel
theorem dX9_refusedHad_83 : decode cX9_refusedHad 83 = .ok (.aaload, 1) := by decide +kernel
theorem dX9_refusedHad_84 : decode cX9_refusedHad 84 = .ok (.iload 4, 2) := by decide +kernel
theorem dX9_refusedHad_86 : decode cX9_refusedHad 86 = .ok (.iaload, 1) := by decide +kernel
theorem dX9_refusedHad_87 : decode cX9_refusedHad 87 = .ok (.bipush 30, 2) := by decide +kernel
theorem dX9_refusedHad_89 : decode cX9_refusedHad 89 = .ok (.if_icmp .le 9, 3) := by decide +kernel
theorem dX9_refusedHad_92 : decode cX9_refusedHad 92 = .ok (.aload_n 0, 1) := by decide +kernel
theorem dX9_refusedHad_93 : decode cX9_refusedHad 93 = .ok (.iconst 3, 1) := by decide +kernel
theorem dX9_refusedHad_94 : decode cX9_refusedHad 94 = .ok (.invokevirtual 87, 3) := by decide +kernel
theorem dX9_refusedHad_97 : decode cX9_refusedHad 97 = .ok (.ireturn, 1) := by decide +kernel
theorem dX9_refusedHad_98 : decode cX9_refusedHad 98 = .ok (.iinc 4 1, 3) := by decide +kernel
theorem dX9_refusedHad_101 : decode cX9_refusedHad 101 = .ok (.goto (-46), 3) := by decide +kernel
theorem dX9_refusedHad_104 : decode cX9_refusedHad 104 = .ok (.iconst 0, 1) := by decide +kernel
theorem dX9_refusedHad_105 : decode cX9_refusedHad 105 = .ok (.ireturn, 1) := by decide +kernel
theorem dX9_readFront_0 : decode cX9_readFront 0 = .ok (.aload_n 0, 1) := by decide +kernel
theorem dX9_readFront_1 : decode cX9_readFront 1 = .ok (.getfield 20, 3) := by decide +kernel
theorem dX9_readFront_4 : decode cX9_readFront 4 = .ok (.iload_n 1, 1) := by decide +kernel
theorem dX9_readFront_5 : decode cX9_readFront 5 = .ok (.aaload, 1) := by decide +kernel
theorem dX9_readFront_6 : decode cX9_readFront 6 = .ok (.astore_n 2, 1) := by decide +kernel
theorem dX9_readFront_7 : decode cX9_readFront 7 = .ok (.aload_n 0, 1) := by decide +kernel
theorem dX9_readFront_8 : decode cX9_readFront 8 = .ok (.getfield 23, 3) := by decide +kernel
theorem dX9_readFront_11 : decode cX9_readFront 11 = .ok (.iload_n 1, 1) := by decide +kernel
theorem dX9_readFront_12 : decode cX9_readFront 12 = .ok (.iaload, 1) := by decide +kernel
theorem dX9_readFront_13 : decode cX9_readFront 13 = .ok (.istore_n 3, 1) := by decide +kernel
theorem dX9_readFront_14 : decode cX9_readFront 14 = .ok (.aload_n 2, 1) := by decide +kernel
theorem dX9_readFront_15 : decode cX9_readFront 15 = .ok (.iload_n 3, 1) := by decide +kernel
theorem dX9_readFront_16 : decode cX9_readFront 16 = .ok (.iconst 0, 1) := by decide +kernel
theorem dX9_readFront_17 : decode cX9_readFront 17 = .ok (.invokestatic 298, 3) := by decide +kernel
theorem dX9_readFront_20 : decode cX9_readFront 20 = .ok (.istore 4, 2) := by decide +kernel
theorem dX9_readFront_22 : decode cX9_readFront 22 = .ok (.iload 4, 2) := by decide +kernel
theorem dX9_readFront_24 : decode cX9_readFront 24 = .ok (.iload_n 3, 1) := by decide +kernel
theorem dX9_readFront_25 : decode cX9_readFront 25 = .ok (.if_icmp .ge 12, 3) := by decide +kernel
theorem dX9_readFront_28 : decode cX9_readFront 28 = .ok (.aload_n 2, 1) := by decide +kernel
theorem dX9_readFront_29 : decode cX9_readFront 29 = .ok (.iload 4, 2) := by decide +kernel
theorem dX9_readFront_31 : decode cX9_readFront 31 = .ok (.baload, 1) := by decide +kernel
theorem dX9_readFront_32 : decode cX9_readFront 32 = .ok (.bipush 100, 2) := by decide +kernel
theorem dX9_readFront_34 : decode cX9_readFront 34 = .ok (.if_icmp .eq 6, 3) := by decide +kernel
theorem dX9_readFront_37 : decode cX9_readFront 37 = .ok (.iload 4, 2) := by decide +kernel
theorem dX9_readFront_39 : decode cX9_readFront 39 = .ok (.ireturn, 1) := by decide +kernel
theorem dX9_readFront_40 : decode cX9_readFront 40 = .ok (.aload_n 2, 1) := by decide +kernel
theorem dX9_readFront_41 : decode cX9_readFront 41 = .ok (.iload_n 3, 1) := by decide +kernel
theorem dX9_readFront_42 : decode cX9_readFront 42 = .ok (.iload 4, 2) := by decide +kernel
theorem dX9_readFront_44 : decode cX9_readFront 44 = .ok (.iconst 1, 1) := by decide +kernel
theorem dX9_readFront_45 : decode cX9_readFront 45 = .ok (.iadd, 1) := by decide +kernel
theorem dX9_readFront_46 : decode cX9_readFront 46 = .ok (.iconst 2, 1) := by decide +kernel
theorem dX9_readFront_47 : decode cX9_readFront 47 = .ok (.invokestatic 302, 3) := by decide +kernel
theorem dX9_readFront_50 : decode cX9_readFront 50 = .ok (.istore 5, 2) := by decide +kernel
theorem dX9_readFront_52 : decode cX9_readFront 52 = .ok (.iload 5, 2) := by decide +kernel
theorem dX9_readFront_54 : decode cX9_readFront 54 = .ok (.iload 4, 2) := by decide +kernel
theorem dX9_readFront_56 : decode cX9_readFront 56 = .ok (.iconst 3, 1) := by decide +kernel
theorem dX9_readFront_57 : decode cX9_readFront 57 = .ok (.iadd, 1) := by decide +kernel
theorem dX9_readFront_58 : decode cX9_readFront 58 = .ok (.if_icmp .ge 6, 3) := by decide +kernel
theorem dX9_readFront_61 : decode cX9_readFront 61 = .ok (.iload 5, 2) := by decide +kernel
theorem dX9_readFront_63 : decode cX9_readFront 63 = .ok (.ireturn, 1) := by decide +kernel
theorem dX9_readFront_64 : decode cX9_readFront 64 = .ok (.aload_n 0, 1) := by decide +kernel
theorem dX9_readFront_65 : decode cX9_readFront 65 = .ok (.getfield 74, 3) := by decide +kernel
theorem dX9_readFront_68 : decode cX9_readFront 68 = .ok (.aload_n 2, 1) := by decide +kernel
theorem dX9_readFront_69 : decode cX9_readFront 69 = .ok (.iload 4, 2) := by decide +kernel
theorem dX9_readFront_71 : decode cX9_readFront 71 = .ok (.iconst 1, 1) := by decide +kernel
theorem dX9_readFront_72 : decode cX9_readFront 72 = .ok (.iadd, 1) := by decide +kernel
theorem dX9_readFront_73 : decode cX9_readFront 73 = .ok (.baload, 1) := by decide +kernel
theorem dX9_readFront_74 : decode cX9_readFront 74 = .ok (.invokestatic 306, 3) := by decide +kernel
theorem dX9_readFront_77 : decode cX9_readFront 77 = .ok (.aload_n 2, 1) := by decide +kernel
theorem dX9_readFront_78 : decode cX9_readFront 78 = .ok (.iload 4, 2) := by decide +kernel
theorem dX9_readFront_80 : decode cX9_readFront 80 = .ok (.iconst 2, 1) := by decide +kernel
theorem dX9_readFront_81 : decode cX9_readFront 81 = .ok (.iadd, 1) := by decide +kernel
theorem dX9_readFront_82 : decode cX9_readFront 82 = .ok (.baload, 1) := by decide +kernel
theorem dX9_readFront_83 : decode cX9_readFront 83 = .ok (.invokestatic 306, 3) := by decide +kernel
theorem dX9_readFront_86 : decode cX9_readFront 86 = .ok (.invokevirtual 310, 3) := by decide +kernel
theorem dX9_readFront_89 : decode cX9_readFront 89 = .ok (.aload_n 2, 1) := by decide +kernel
theorem dX9_readFront_90 : decode cX9_readFront 90 = .ok (.iload_n 3, 1) := by decide +kernel
theorem dX9_readFront_91 : decode cX9_readFront 91 = .ok (.iload 4, 2) := by decide +kernel
theorem dX9_readFront_93 : decode cX9_readFront 93 = .ok (.iconst 3, 1) := by decide +kernel
theorem dX9_readFront_94 : decode cX9_readFront 94 = .ok (.iadd, 1) := by decide +kernel
theorem dX9_readFront_95 : decode cX9_readFront 95 = .ok (.invokestatic 298, 3) := by decide +kernel
theorem dX9_readFront_98 : decode cX9_readFront 98 = .ok (.istore 4, 2) := by decide +kernel
theorem dX9_readFront_100 : decode cX9_readFront 100 = .ok (.iconst 0, 1) := by decide +kernel
theorem dX9_readFront_101 : decode cX9_readFront 101 = .ok (.istore 6, 2) := by decide +kernel
theorem dX9_readFront_103 : decode cX9_readFront 103 = .ok (.iload 6, 2) := by decide +kernel
theorem dX9_readFront_105 : decode cX9_readFront 105 = .ok (.bipush 6, 2) := by decide +kernel
theorem dX9_readFront_107 : decode cX9_readFront 107 = .ok (.if_icmp .gt 46, 3) := by decide +kernel
theorem dX9_readFront_110 : decode cX9_readFront 110 = .ok (.iload 4, 2) := by decide +kernel
theorem dX9_readFront_112 : decode cX9_readFront 112 = .ok (.iload_n 3, 1) := by decide +kernel
theorem dX9_readFront_113 : decode cX9_readFront 113 = .ok (.if_icmp .ge 40, 3) := by decide +kernel
theorem dX9_readFront_116 : decode cX9_readFront 116 = .ok (.aload_n 0, 1) := by decide +kernel
theorem dX9_readFront_117 : decode cX9_readFront 117 = .ok (.aload_n 2, 1) := by decide +kernel
theorem dX9_readFront_118 : decode cX9_readFront 118 = .ok (.iload_n 3, 1) := by decide +kernel
theorem dX9_readFront_119 : decode cX9_readFront 119 = .ok (.iload 4, 2) := by decide +kernel
theorem dX9_readFront_121 : decode cX9_readFront 121 = .ok (.invokevirtual 313, 3) := by decide +kernel
theorem dX9_readFront_124 : decode cX9_readFront 124 = .ok (.istore 7, 2) := by decide +kernel
theorem dX9_readFront_126 : decode cX9_readFront 126 = .ok (.iload 7, 2) := by decide +kernel
theorem dX9_readFront_128 : decode cX9_readFront 128 = .ok (.bipush (-9), 2) := by decide +kernel
theorem dX9_readFront_130 : decode cX9_readFront 130 = .ok (.if_icmp .eq 6, 3) := by decide +kernel
theorem dX9_readFront_133 : decode cX9_readFront 133 = .ok (.iload 7, 2) := by decide +kernel
theorem dX9_readFront_135 : decode cX9_readFront 135 = .ok (.ireturn, 1) := by decide +kernel
theorem dX9_readFront_136 : decode cX9_readFront 136 = .ok (.aload_n 2, 1) := by decide +kernel
theorem dX9_readFront_137 : decode cX9_readFront 137 = .ok (.iload_n 3, 1) := by decide +kernel
theorem dX9_readFront_138 : decode cX9_readFront 138 = .ok (.iload 4, 2) := by decide +kernel
theorem dX9_readFront_140 : decode cX9_readFront 140 = .ok (.iconst 4, 1) := by decide +kernel
theorem dX9_readFront_141 : decode cX9_readFront 141 = .ok (.iadd, 1) := by decide +kernel
theorem dX9_readFront_142 : decode cX9_readFront 142 = .ok (.invokestatic 298, 3) := by decide +kernel
theorem dX9_readFront_145 : decode cX9_readFront 145 = .ok (.istore 4, 2) := by decide +kernel
theorem dX9_readFront_147 : decode cX9_readFront 147 = .ok (.iinc 6 1, 3) := by decide +kernel
theorem dX9_readFront_150 : decode cX9_readFront 150 = .ok (.goto (-47), 3) := by decide +kernel
theorem dX9_readFront_153 : decode cX9_readFront 153 = .ok (.aload_n 0, 1) := by decide +kernel
theorem dX9_readFront_154 : decode cX9_readFront 154 = .ok (.getfield 74, 3) := by decide +kernel
theorem dX9_readFront_157 : decode cX9_readFront 157 = .ok (.getfield 127, 3) := by decide +kernel
theorem dX9_readFront_160 : decode cX9_readFront 160 = .ok (.ifCond .ne 7, 3) := by decide +kernel
theorem dX9_readFront_163 : decode cX9_readFront 163 = .ok (.iload_n 3, 1) := by decide +kernel
theorem dX9_readFront_164 : decode cX9_readFront 164 = .ok (.goto 5, 3) := by decide +kernel
theorem dX9_readFront_167 : decode cX9_readFront 167 = .ok (.bipush (-9), 2) := by decide +kernel
theorem dX9_readFront_169 : decode cX9_readFront 169 = .ok (.ireturn, 1) := by decide +kernel
theorem dX9_readOne_0 : decode cX9_readOne 0 = .ok (.aload_n 1, 1) := by decide +kernel
theorem dX9_readOne_1 : decode cX9_readOne 1 = .ok (.iload_n 3, 1) := by decide +kernel
theorem dX9_readOne_2 : decode cX9_readOne 2 = .ok (.baload, 1) := by decide +kernel
theorem dX9_readOne_3 : decode cX9_readOne 3 = .ok (.invokestatic 316, 3) := by decide +kernel
theorem dX9_readOne_6 : decode cX9_readOne 6 = .ok (.istore 4, 2) := by decide +kernel
theorem dX9_readOne_8 : decode cX9_readOne 8 = .ok (.iload 4, 2) := by decide +kernel
theorem dX9_readOne_10 : decode cX9_readOne 10 = .ok (.bipush (-9), 2) := by decide +kernel
theorem dX9_readOne_12 : decode cX9_readOne 12 = .ok (.if_icmp .eq 15, 3) := by decide +kernel
theorem dX9_readOne_15 : decode cX9_readOne 15 = .ok (.aload_n 0, 1) := by decide +kernel
theorem dX9_readOne_16 : decode cX9_readOne 16 = .ok (.getfield 74, 3) := by decide +kernel
theorem dX9_readOne_19 : decode cX9_readOne 19 = .ok (.getfield 127, 3) := by decide +kernel
theorem dX9_readOne_22 : decode cX9_readOne 22 = .ok (.bipush 6, 2) := by decide +kernel
theorem dX9_readOne_24 : decode cX9_readOne 24 = .ok (.if_icmp .ne 5, 3) := by decide +kernel
theorem dX9_readOne_27 : decode cX9_readOne 27 = .ok (.iload_n 3, 1) := by decide +kernel
theorem dX9_readOne_28 : decode cX9_readOne 28 = .ok (.ireturn, 1) := by decide +kernel
theorem dX9_readOne_29 : decode cX9_readOne 29 = .ok (.aload_n 1, 1) := by decide +kernel
theorem dX9_readOne_30 : decode cX9_readOne 30 = .ok (.iload_n 2, 1) := by decide +kernel
theorem dX9_readOne_31 : decode cX9_readOne 31 = .ok (.iload_n 3, 1) := by decide +kernel
theorem dX9_readOne_32 : decode cX9_readOne 32 = .ok (.iconst 1, 1) := by decide +kernel
theorem dX9_readOne_33 : decode cX9_readOne 33 = .ok (.iadd, 1) := by decide +kernel
theorem dX9_readOne_34 : decode cX9_readOne 34 = .ok (.iconst 3, 1) := by decide +kernel
theorem dX9_readOne_35 : decode cX9_readOne 35 = .ok (.invokestatic 302, 3) := by decide +kernel
theorem dX9_readOne_38 : decode cX9_readOne 38 = .ok (.istore 5, 2) := by decide +kernel
theorem dX9_readOne_40 : decode cX9_readOne 40 = .ok (.iload 5, 2) := by decide +kernel
theorem dX9_readOne_42 : decode cX9_readOne 42 = .ok (.iload_n 3, 1) := by decide +kernel
theorem dX9_readOne_43 : decode cX9_readOne 43 = .ok (.iconst 4, 1) := by decide +kernel
theorem dX9_readOne_44 : decode cX9_readOne 44 = .ok (.iadd, 1) := by decide +kernel
theorem dX9_readOne_45 : decode cX9_readOne 45 = .ok (.if_icmp .ge 6, 3) := by decide +kernel
theorem dX9_readOne_48 : decode cX9_readOne 48 = .ok (.iload 5, 2) := by decide +kernel
theorem dX9_readOne_50 : decode cX9_readOne 50 = .ok (.ireturn, 1) := by decide +kernel
theorem dX9_readOne_51 : decode cX9_readOne 51 = .ok (.bipush 10, 2) := by decide +kernel
theorem dX9_readOne_53 : decode cX9_readOne 53 = .ok (.aload_n 1, 1) := by decide +kernel
theorem dX9_readOne_54 : decode cX9_readOne 54 = .ok (.iload_n 3, 1) := by decide +kernel
theorem dX9_readOne_55 : decode cX9_readOne 55 = .ok (.iconst 2, 1) := by decide +kernel
theorem dX9_readOne_56 : decode cX9_readOne 56 = .ok (.iadd, 1) := by decide +kernel
theorem dX9_readOne_57 : decode cX9_readOne 57 = .ok (.baload, 1) := by decide +kernel
theorem dX9_readOne_58 : decode cX9_readOne 58 = .ok (.invokestatic 306, 3) := by decide +kernel
theorem dX9_readOne_61 : decode cX9_readOne 61 = .ok (.imul, 1) := by decide +kernel
theorem dX9_readOne_62 : decode cX9_readOne 62 = .ok (.aload_n 1, 1) := by decide +kernel
theorem dX9_readOne_63 : decode cX9_readOne 63 = .ok (.iload_n 3, 1) := by decide +kernel
theorem dX9_readOne_64 : decode cX9_readOne 64 = .ok (.iconst 3, 1) := by decide +kernel
theorem dX9_readOne_65 : decode cX9_readOne 65 = .ok (.iadd, 1) := by decide +kernel
theorem dX9_readOne_66 : decode cX9_readOne 66 = .ok (.baload, 1) := by decide +kernel
theorem dX9_readOne_67 : decode cX9_readOne 67 = .ok (.invokestatic 306, 3) := by decide +kernel
theorem dX9_readOne_70 : decode cX9_readOne 70 = .ok (.iadd, 1) := by decide +kernel
theorem dX9_readOne_71 : decode cX9_readOne 71 = .ok (.istore 6, 2) := by decide +kernel
theorem dX9_readOne_73 : decode cX9_readOne 73 = .ok (.iload 6, 2) := by decide +kernel
theorem dX9_readOne_75 : decode cX9_readOne 75 = .ok (.bipush 30, 2) := by decide +kernel
theorem dX9_readOne_77 : decode cX9_readOne 77 = .ok (.if_icmp .le 7, 3) := by decide +kernel
theorem dX9_readOne_80 : decode cX9_readOne 80 = .ok (.iload_n 3, 1) := by decide +kernel
theorem dX9_readOne_81 : decode cX9_readOne 81 = .ok (.iconst 2, 1) := by decide +kernel
theorem dX9_readOne_82 : decode cX9_readOne 82 = .ok (.iadd, 1) := by decide +kernel
theorem dX9_readOne_83 : decode cX9_readOne 83 = .ok (.ireturn, 1) := by decide +kernel
theorem dX9_readOne_84 : decode cX9_readOne 84 = .ok (.aload_n 0, 1) := by decide +kernel
theorem dX9_readOne_85 : decode cX9_readOne 85 = .ok (.getfield 74, 3) := by decide +kernel
theorem dX9_readOne_88 : decode cX9_readOne 88 = .ok (.iload 4, 2) := by decide +kernel
theorem dX9_readOne_90 : decode cX9_readOne 90 = .ok (.aload_n 1, 1) := by decide +kernel
theorem dX9_readOne_91 : decode cX9_readOne 91 = .ok (.iload_n 3, 1) := by decide +kernel
theorem dX9_readOne_92 : decode cX9_readOne 92 = .ok (.iconst 1, 1) := by decide +kernel
theorem dX9_readOne_93 : decode cX9_readOne 93 = .ok (.iadd, 1) := by decide +kernel
theorem dX9_readOne_94 : decode cX9_readOne 94 = .ok (.baload, 1) := by decide +kernel
theorem dX9_readOne_95 : decode cX9_readOne 95 = .ok (.invokestatic 306, 3) := by decide +kernel
theorem dX9_readOne_98 : decode cX9_readOne 98 = .ok (.iload 6, 2) := by decide +kernel
theorem dX9_readOne_100 : decode cX9_readOne 100 = .ok (.invokevirtual 319, 3) := by decide +kernel
theorem dX9_readOne_103 : decode cX9_readOne 103 = .ok (.bipush (-9), 2) := by decide +kernel
theorem dX9_readOne_105 : decode cX9_readOne 105 = .ok (.ireturn, 1) := by decide +kernel
theorem dX9_pastBlanks_0 : decode cX9_pastBlanks 0 = .ok (.iload_n 2, 1) := by decide +kernel
theorem dX9_pastBlanks_1 : decode cX9_pastBlanks 1 = .ok (.istore_n 3, 1) := by decide +kernel
theorem dX9_pastBlanks_2 : decode cX9_pastBlanks 2 = .ok (.iload_n 3, 1) := by decide +kernel
theorem dX9_pastBlanks_3 : decode cX9_pastBlanks 3 = .ok (.iload_n 1, 1) := by decide +kernel
theorem dX9_pastBlanks_4 : decode cX9_pastBlanks 4 = .ok (.if_icmp .ge 17, 3) := by decide +kernel
theorem dX9_pastBlanks_7 : decode cX9_pastBlanks 7 = .ok (.aload_n 0, 1) := by decide +kernel
theorem dX9_pastBlanks_8 : decode cX9_pastBlanks 8 = .ok (.iload_n 3, 1) := by decide +kernel
theorem dX9_pastBlanks_9 : decode cX9_pastBlanks 9 = .ok (.baload, 1) := by decide +kernel
theorem dX9_pastBlanks_10 : decode cX9_pastBlanks 10 = .ok (.bipush 32, 2) := by decide +kernel
theorem dX9_pastBlanks_12 : decode cX9_pastBlanks 12 = .ok (.if_icmp .ne 9, 3) := by decide +kernel
theorem dX9_pastBlanks_15 : decode cX9_pastBlanks 15 = .ok (.iinc 3 1, 3) := by decide +kernel
theorem dX9_pastBlanks_18 : decode cX9_pastBlanks 18 = .ok (.goto (-16), 3) := by decide +kernel
theorem dX9_pastBlanks_21 : decode cX9_pastBlanks 21 = .ok (.iload_n 3, 1) := by decide +kernel
theorem dX9_pastBlanks_22 : decode cX9_pastBlanks 22 = .ok (.ireturn, 1) := by decide +kernel
theorem dX9_pastFigures_0 : decode cX9_pastFigures 0 = .ok (.iload_n 2, 1) := by decide +kernel
theorem dX9_pastFigures_1 : decode cX9_pastFigures 1 = .ok (.istore 4, 2) := by decide +kernel
theorem dX9_pastFigures_3 : decode cX9_pastFigures 3 = .ok (.iload 4, 2) := by decide +kernel
theorem dX9_pastFigures_5 : decode cX9_pastFigures 5 = .ok (.iload_n 2, 1) := by decide +kernel
theorem dX9_pastFigures_6 : decode cX9_pastFigures 6 = .ok (.iload_n 3, 1) := by decide +kernel
theorem dX9_pastFigures_7 : decode cX9_pastFigures 7 = .ok (.iadd, 1) := by decide +kernel
theorem dX9_pastFigures_8 : decode cX9_pastFigures 8 = .ok (.if_icmp .ge 33, 3) := by decide +kernel
theorem dX9_pastFigures_11 : decode cX9_pastFigures 11 = .ok (.iload 4, 2) := by decide +kernel
theorem dX9_pastFigures_13 : decode cX9_pastFigures 13 = .ok (.iload_n 1, 1) := by decide +kernel
theorem dX9_pastFigures_14 : decode cX9_pastFigures 14 = .ok (.if_icmp .ge 27, 3) := by decide +kernel
theorem dX9_pastFigures_17 : decode cX9_pastFigures 17 = .ok (.aload_n 0, 1) := by decide +kernel
theorem dX9_pastFigures_18 : decode cX9_pastFigures 18 = .ok (.iload 4, 2) := by decide +kernel
theorem dX9_pastFigures_20 : decode cX9_pastFigures 20 = .ok (.baload, 1) := by decide +kernel
theorem dX9_pastFigures_21 : decode cX9_pastFigures 21 = .ok (.bipush 48, 2) := by decide +kernel
theorem dX9_pastFigures_23 : decode cX9_pastFigures 23 = .ok (.if_icmp .lt 18, 3) := by decide +kernel
theorem dX9_pastFigures_26 : decode cX9_pastFigures 26 = .ok (.aload_n 0, 1) := by decide +kernel
theorem dX9_pastFigures_27 : decode cX9_pastFigures 27 = .ok (.iload 4, 2) := by decide +kernel
theorem dX9_pastFigures_29 : decode cX9_pastFigures 29 = .ok (.baload, 1) := by decide +kernel
theorem dX9_pastFigures_30 : decode cX9_pastFigures 30 = .ok (.bipush 57, 2) := by decide +kernel
theorem dX9_pastFigures_32 : decode cX9_pastFigures 32 = .ok (.if_icmp .gt 9, 3) := by decide +kernel
theorem dX9_pastFigures_35 : decode cX9_pastFigures 35 = .ok (.iinc 4 1, 3) := by decide +kernel
theorem dX9_pastFigures_38 : decode cX9_pastFigures 38 = .ok (.goto (-35), 3) := by decide +kernel
theorem dX9_pastFigures_41 : decode cX9_pastFigures 41 = .ok (.iload 4, 2) := by decide +kernel
theorem dX9_pastFigures_43 : decode cX9_pastFigures 43 = .ok (.ireturn, 1) := by decide +kernel
theorem dX9_figure_0 : decode cX9_figure 0 = .ok (.iload_n 0, 1) := by decide +kernel
theorem dX9_figure_1 : decode cX9_figure 1 = .ok (.bipush 48, 2) := by decide +kernel
theorem dX9_figure_3 : decode cX9_figure 3 = .ok (.isub, 1) := by decide +kernel
theorem dX9_figure_4 : decode cX9_figure 4 = .ok (.ireturn, 1) := by decide +kernel
theorem dX9_kindOfLetter_0 : decode cX9_kindOfLetter 0 = .ok (.iconst 0, 1) := by decide +kernel
theorem dX9_kindOfLetter_1 : decode cX9_kindOfLetter 1 = .ok (.istore_n 1, 1) := by decide +kernel
theorem dX9_kindOfLetter_2 : decode cX9_kindOfLetter 2 = .ok (.iload_n 1, 1) := by decide +kernel
theorem dX9_kindOfLetter_3 : decode cX9_kindOfLetter 3 = .ok (.bipush 6, 2) := by decide +kernel
theorem dX9_kindOfLetter_5 : decode cX9_kindOfLetter 5 = .ok (.if_icmp .ge 20, 3) := by decide +kernel
theorem dX9_kindOfLetter_8 : decode cX9_kindOfLetter 8 = .ok (.getstatic 323, 3) := by decide +kernel
theorem dX9_kindOfLetter_11 : decode cX9_kindOfLetter 11 = .ok (.iload_n 1, 1) := by decide +kernel
theorem dX9_kindOfLetter_12 : decode cX9_kindOfLetter 12 = .ok (.iaload, 1) := by decide +kernel
theorem dX9_kindOfLetter_13 : decode cX9_kindOfLetter 13 = .ok (.iload_n 0, 1) := by decide +kernel
theorem dX9_kindOfLetter_14 : decode cX9_kindOfLetter 14 = .ok (.if_icmp .ne 5, 3) := by decide +kernel
theorem dX9_kindOfLetter_17 : decode cX9_kindOfLetter 17 = .ok (.iload_n 1, 1) := by decide +kernel
theorem dX9_kindOfLetter_18 : decode cX9_kindOfLetter 18 = .ok (.ireturn, 1) := by decide +kernel
theorem dX9_kindOfLetter_19 : decode cX9_kindOfLetter 19 = .ok (.iinc 1 1, 3) := by decide +kernel
theorem dX9_kindOfLetter_22 : decode cX9_kindOfLetter 22 = .ok (.goto (-20), 3) := by decide +kernel
theorem dX9_kindOfLetter_25 : decode cX9_kindOfLetter 25 = .ok (.bipush (-9), 2) := by decide +kernel
theorem dX9_kindOfLetter_27 : decode cX9_kindOfLetter 27 = .ok (.ireturn, 1) := by decide +kernel
theorem dX9_doDeed_0 : decode cX9_doDeed 0 = .ok (.iload_n 1, 1) := by decide +kernel
theorem dX9_doDeed_1 : decode cX9_doDeed 1 = .ok (.bipush 100, 2) := by decide +kernel
theorem dX9_doDeed_3 : decode cX9_doDeed 3 = .ok (.imul, 1) := by decide +kernel
theorem dX9_doDeed_4 : decode cX9_doDeed 4 = .ok (.iload_n 2, 1) := by decide +kernel
theorem dX9_doDeed_5 : decode cX9_doDeed 5 = .ok (.iadd, 1) := by decide +kernel
theorem dX9_doDeed_6 : decode cX9_doDeed 6 = .ok (.istore_n 3, 1) := by decide +kernel
theorem dX9_doDeed_7 : decode cX9_doDeed 7 = .ok (.aload_n 0, 1) := by decide +kernel
theorem dX9_doDeed_8 : decode cX9_doDeed 8 = .ok (.getfield 31, 3) := by decide +kernel
theorem dX9_doDeed_11 : decode cX9_doDeed 11 = .ok (.iload_n 3, 1) := by decide +kernel
theorem dX9_doDeed_12 : decode cX9_doDeed 12 = .ok (.invokevirtual 326, 3) := by decide +kernel
theorem dX9_doDeed_15 : decode cX9_doDeed 15 = .ok (.aload_n 0, 1) := by decide +kernel
theorem dX9_doDeed_16 : decode cX9_doDeed 16 = .ok (.getfield 71, 3) := by decide +kernel
theorem dX9_doDeed_19 : decode cX9_doDeed 19 = .ok (.iload_n 3, 1) := by decide +kernel
theorem dX9_doDeed_20 : decode cX9_doDeed 20 = .ok (.invokevirtual 329, 3) := by decide +kernel
theorem dX9_doDeed_23 : decode cX9_doDeed 23 = .ok (.ireturn, 1) := by decide +kernel
theorem dX9_doAllAgain_0 : decode cX9_doAllAgain 0 = .ok (.aload_n 0, 1) := by decide +kernel
theorem dX9_doAllAgain_1 : decode cX9_doAllAgain 1 = .ok (.getfield 71, 3) := by decide +kernel
theorem dX9_doAllAgain_4 : decode cX9_doAllAgain 4 = .ok (.aload_n 0, 1) := by decide +kernel
theorem dX9_doAllAgain_5 : decode cX9_doAllAgain 5 = .ok (.getfield 67, 3) := by decide +kernel
theorem dX9_doAllAgain_8 : decode cX9_doAllAgain 8 = .ok (.invokevirtual 120, 3) := by decide +kernel
theorem dX9_doAllAgain_11 : decode cX9_doAllAgain 11 = .ok (.iconst 0, 1) := by decide +kernel
theorem dX9_doAllAgain_12 : decode cX9_doAllAgain 12 = .ok (.istore_n 1, 1) := by decide +kernel
theorem dX9_doAllAgain_13 : decode cX9_doAllAgain 13 = .ok (.iload_n 1, 1) := by decide +kernel
theorem dX9_doAllAgain_14 : decode cX9_doAllAgain 14 = .ok (.aload_n 0, 1) := by decide +kernel
theorem dX9_doAllAgain_15 : decode cX9_doAllAgain 15 = .ok (.getfield 31, 3) := by decide +kernel
theorem dX9_doAllAgain_18 : decode cX9_doAllAgain 18 = .ok (.getfield 124, 3) := by decide +kernel
theorem dX9_doAllAgain_21 : decode cX9_doAllAgain 21 = .ok (.if_icmp .ge 26, 3) := by decide +kernel
theorem dX9_doAllAgain_24 : decode cX9_doAllAgain 24 = .ok (.aload_n 0, 1) := by decide +kernel
theorem dX9_doAllAgain_25 : decode cX9_doAllAgain 25 = .ok (.getfield 71, 3) := by decide +kernel
theorem dX9_doAllAgain_28 : decode cX9_doAllAgain 28 = .ok (.aload_n 0, 1) := by decide +kernel
theorem dX9_doAllAgain_29 : decode cX9_doAllAgain 29 = .ok (.getfield 31, 3) := by decide +kernel
theorem dX9_doAllAgain_32 : decode cX9_doAllAgain 32 = .ok (.getfield 332, 3) := by decide +kernel
theorem dX9_doAllAgain_35 : decode cX9_doAllAgain 35 = .ok (.iload_n 1, 1) := by decide +kernel
theorem dX9_doAllAgain_36 : decode cX9_doAllAgain 36 = .ok (.iaload, 1) := by decide +kernel
theorem dX9_doAllAgain_37 : decode cX9_doAllAgain 37 = .ok (.invokevirtual 329, 3) := by decide +kernel
theorem dX9_doAllAgain_40 : decode cX9_doAllAgain 40 = .ok (.pop, 1) := by decide +kernel
theorem dX9_doAllAgain_41 : decode cX9_doAllAgain 41 = .ok (.iinc 1 1, 3) := by decide +kernel
theorem dX9_doAllAgain_44 : decode cX9_doAllAgain 44 = .ok (.goto (-31), 3) := by decide +kernel
theorem dX9_doAllAgain_47 : decode cX9_doAllAgain 47 = .ok (.return_, 1) := by decide +kernel
theorem dX9_doLot_0 : decode cX9_doLot 0 = .ok (.iload_n 1, 1) := by decide +kernel
theorem dX9_doLot_1 : decode cX9_doLot 1 = .ok (.bipush 64, 2) := by decide +kernel
theorem dX9_doLot_3 : decode cX9_doLot 3 = .ok (.idiv, 1) := by decide +kernel
theorem dX9_doLot_4 : decode cX9_doLot 4 = .ok (.istore_n 2, 1) := by decide +kernel
theorem dX9_doLot_5 : decode cX9_doLot 5 = .ok (.iload_n 1, 1) := by decide +kernel
theorem dX9_doLot_6 : decode cX9_doLot 6 = .ok (.bipush 8, 2) := by decide +kernel
theorem dX9_doLot_8 : decode cX9_doLot 8 = .ok (.idiv, 1) := by decide +kernel
theorem dX9_doLot_9 : decode cX9_doLot 9 = .ok (.bipush 8, 2) := by decide +kernel
theorem dX9_doLot_11 : decode cX9_doLot 11 = .ok (.irem, 1) := by decide +kernel
theorem dX9_doLot_12 : decode cX9_doLot 12 = .ok (.tableswitch 99 4 7 #[32, 47, 59, 77], 32) := by decide +kernel
theorem dX9_doLot_44 : decode cX9_doLot 44 = .ok (.aload_n 0, 1) := by decide +kernel
theorem dX9_doLot_45 : decode cX9_doLot 45 = .ok (.iconst 1, 1) := by decide +kernel
theorem dX9_doLot_46 : decode cX9_doLot 46 = .ok (.iconst 1, 1) := by decide +kernel
theorem dX9_doLot_47 : decode cX9_doLot 47 = .ok (.iload_n 2, 1) := by decide +kernel
theorem dX9_doLot_48 : decode cX9_doLot 48 = .ok (.bipush 9, 2) := by decide +kernel
theorem dX9_doLot_50 : decode cX9_doLot 50 = .ok (.irem, 1) := by decide +kernel
theorem dX9_doLot_51 : decode cX9_doLot 51 = .ok (.iadd, 1) := by decide +kernel
theorem dX9_doLot_52 : decode cX9_doLot 52 = .ok (.invokevirtual 173, 3) := by decide +kernel
theorem dX9_doLot_55 : decode cX9_doLot 55 = .ok (.pop, 1) := by decide +kernel
theorem dX9_doLot_56 : decode cX9_doLot 56 = .ok (.goto 62, 3) := by decide +kernel
theorem dX9_doLot_59 : decode cX9_doLot 59 = .ok (.aload_n 0, 1) := by decide +kernel
theorem dX9_doLot_60 : decode cX9_doLot 60 = .ok (.iconst 2, 1) := by decide +kernel
theorem dX9_doLot_61 : decode cX9_doLot 61 = .ok (.iload_n 2, 1) := by decide +kernel
theorem dX9_doLot_62 : decode cX9_doLot 62 = .ok (.iconst 3, 1) := by decide +kernel
theorem dX9_doLot_63 : decode cX9_doLot 63 = .ok (.irem, 1) := by decide +kernel
theorem dX9_doLot_64 : decode cX9_doLot 64 = .ok (.invokevirtual 173, 3) := by decide +kernel
theorem dX9_doLot_67 : decode cX9_doLot 67 = .ok (.pop, 1) := by decide +kernel
theorem dX9_doLot_68 : decode cX9_doLot 68 = .ok (.goto 50, 3) := by decide +kernel
theorem dX9_doLot_71 : decode cX9_doLot 71 = .ok (.aload_n 0, 1) := by decide +kernel
theorem dX9_doLot_72 : decode cX9_doLot 72 = .ok (.iconst 3, 1) := by decide +kernel
theorem dX9_doLot_73 : decode cX9_doLot 73 = .ok (.iconst 1, 1) := by decide +kernel
theorem dX9_doLot_74 : decode cX9_doLot 74 = .ok (.aload_n 0, 1) := by decide +kernel
theorem dX9_doLot_75 : decode cX9_doLot 75 = .ok (.getfield 71, 3) := by decide +kernel
theorem dX9_doLot_78 : decode cX9_doLot 78 = .ok (.getfield 179, 3) := by decide +kernel
theorem dX9_doLot_81 : decode cX9_doLot 81 = .ok (.isub, 1) := by decide +kernel
theorem dX9_doLot_82 : decode cX9_doLot 82 = .ok (.invokevirtual 173, 3) := by decide +kernel
theorem dX9_doLot_85 : decode cX9_doLot 85 = .ok (.pop, 1) := by decide +kernel
theorem dX9_doLot_86 : decode cX9_doLot 86 = .ok (.goto 32, 3) := by decide +kernel
theorem dX9_doLot_89 : decode cX9_doLot 89 = .ok (.aload_n 0, 1) := by decide +kernel
theorem dX9_doLot_90 : decode cX9_doLot 90 = .ok (.iconst 4, 1) := by decide +kernel
theorem dX9_doLot_91 : decode cX9_doLot 91 = .ok (.aload_n 0, 1) := by decide +kernel
theorem dX9_doLot_92 : decode cX9_doLot 92 = .ok (.iload_n 1, 1) := by decide +kernel
theorem dX9_doLot_93 : decode cX9_doLot 93 = .ok (.invokevirtual 335, 3) := by decide +kernel
theorem dX9_doLot_96 : decode cX9_doLot 96 = .ok (.bipush 10, 2) := by decide +kernel
theorem dX9_doLot_98 : decode cX9_doLot 98 = .ok (.imul, 1) := by decide +kernel
theorem dX9_doLot_99 : decode cX9_doLot 99 = .ok (.iload_n 2, 1) := by decide +kernel
theorem dX9_doLot_100 : decode cX9_doLot 100 = .ok (.bipush 10, 2) := by decide +kernel
theorem dX9_doLot_102 : decode cX9_doLot 102 = .ok (.irem, 1) := by decide +kernel
theorem dX9_doLot_103 : decode cX9_doLot 103 = .ok (.iadd, 1) := by decide +kernel
theorem dX9_doLot_104 : decode cX9_doLot 104 = .ok (.invokevirtual 173, 3) := by decide +kernel
theorem dX9_doLot_107 : decode cX9_doLot 107 = .ok (.pop, 1) := by decide +kernel
theorem dX9_doLot_108 : decode cX9_doLot 108 = .ok (.goto 10, 3) := by decide +kernel
theorem dX9_doLot_111 : decode cX9_doLot 111 = .ok (.aload_n 0, 1) := by decide +kernel
theorem dX9_doLot_112 : decode cX9_doLot 112 = .ok (.iconst 0, 1) := by decide +kernel
theorem dX9_doLot_113 : decode cX9_doLot 113 = .ok (.iconst 0, 1) := by decide +kernel
theorem dX9_doLot_114 : decode cX9_doLot 114 = .ok (.invokevirtual 173, 3) := by decide +kernel
theorem dX9_doLot_117 : decode cX9_doLot 117 = .ok (.pop, 1) := by decide +kernel
theorem dX9_doLot_118 : decode cX9_doLot 118 = .ok (.return_, 1) := by decide +kernel
theorem dX9_oneOfLot_0 : decode cX9_oneOfLot 0 = .ok (.aload_n 0, 1) := by decide +kernel
theorem dX9_oneOfLot_1 : decode cX9_oneOfLot 1 = .ok (.getfield 71, 3) := by decide +kernel
theorem dX9_oneOfLot_4 : decode cX9_oneOfLot 4 = .ok (.getfield 127, 3) := by decide +kernel
theorem dX9_oneOfLot_7 : decode cX9_oneOfLot 7 = .ok (.ifCond .ne 7, 3) := by decide +kernel
theorem dX9_oneOfLot_10 : decode cX9_oneOfLot 10 = .ok (.iconst 0, 1) := by decide +kernel
theorem dX9_oneOfLot_11 : decode cX9_oneOfLot 11 = .ok (.goto 12, 3) := by decide +kernel
theorem dX9_oneOfLot_14 : decode cX9_oneOfLot 14 = .ok (.iload_n 1, 1) := by decide +kernel
theorem dX9_oneOfLot_15 : decode cX9_oneOfLot 15 = .ok (.aload_n 0, 1) := by decide +kernel
theorem dX9_oneOfLot_16 : decode cX9_oneOfLot 16 = .ok (.getfield 71, 3) := by decide +kernel
theorem dX9_oneOfLot_19 : decode cX9_oneOfLot 19 = .ok (.getfield 127, 3) := by decide +kernel
theorem dX9_oneOfLot_22 : decode cX9_oneOfLot 22 = .ok (.irem, 1) := by decide +kernel
theorem dX9_oneOfLot_23 : decode cX9_oneOfLot 23 = .ok (.ireturn, 1) := by decide +kernel
theorem dX9_shareWithout_0 : decode cX9_shareWithout 0 = .ok (.aload_n 0, 1) := by decide +kernel
theorem dX9_shareWithout_1 : decode cX9_shareWithout 1 = .ok (.getfield 74, 3) := by decide +kernel
theorem dX9_shareWithout_4 : decode cX9_shareWithout 4 = .ok (.aload_n 0, 1) := by decide +kernel
theorem dX9_shareWithout_5 : decode cX9_shareWithout 5 = .ok (.getfield 71, 3) := by decide +kernel
theorem dX9_shareWithout_8 : decode cX9_shareWithout 8 = .ok (.invokevirtual 120, 3) := by decide +kernel
theorem dX9_shareWithout_11 : decode cX9_shareWithout 11 = .ok (.iconst 0, 1) := by decide +kernel
theorem dX9_shareWithout_12 : decode cX9_shareWithout 12 = .ok (.istore 4, 2) := by decide +kernel
theorem dX9_shareWithout_14 : decode cX9_shareWithout 14 = .ok (.iload 4, 2) := by decide +kernel
theorem dX9_shareWithout_16 : decode cX9_shareWithout 16 = .ok (.iload_n 3, 1) := by decide +kernel
theorem dX9_shareWithout_17 : decode cX9_shareWithout 17 = .ok (.if_icmp .ge 18, 3) := by decide +kernel
theorem dX9_shareWithout_20 : decode cX9_shareWithout 20 = .ok (.aload_n 0, 1) := by decide +kernel
theorem dX9_shareWithout_21 : decode cX9_shareWithout 21 = .ok (.getfield 74, 3) := by decide +kernel
theorem dX9_shareWithout_24 : decode cX9_shareWithout 24 = .ok (.iload_n 1, 1) := by decide +kernel
theorem dX9_shareWithout_25 : decode cX9_shareWithout 25 = .ok (.invokevirtual 203, 3) := by decide +kernel
theorem dX9_shareWithout_28 : decode cX9_shareWithout 28 = .ok (.pop, 1) := by decide +kernel
theorem dX9_shareWithout_29 : decode cX9_shareWithout 29 = .ok (.iinc 4 1, 3) := by decide +kernel
theorem dX9_shareWithout_32 : decode cX9_shareWithout 32 = .ok (.goto (-18), 3) := by decide +kernel
theorem dX9_shareWithout_35 : decode cX9_shareWithout 35 = .ok (.aload_n 0, 1) := by decide +kernel
theorem dX9_shareWithout_36 : decode cX9_shareWithout 36 = .ok (.getfield 74, 3) := by decide +kernel
theorem dX9_shareWithout_39 : decode cX9_shareWithout 39 = .ok (.getfield 146, 3) := by decide +kernel
theorem dX9_shareWithout_42 : decode cX9_shareWithout 42 = .ok (.iload_n 2, 1) := by decide +kernel
theorem dX9_shareWithout_43 : decode cX9_shareWithout 43 = .ok (.iaload, 1) := by decide +kernel
theorem dX9_shareWithout_44 : decode cX9_shareWithout 44 = .ok (.ireturn, 1) := by decide +kernel
theorem dX9_gatherersBy_0 : decode cX9_gatherersBy 0 = .ok (.aload_n 0, 1) := by decide +kernel
theorem dX9_gatherersBy_1 : decode cX9_gatherersBy 1 = .ok (.getfield 74, 3) := by decide +kernel
theorem dX9_gatherersBy_4 : decode cX9_gatherersBy 4 = .ok (.aload_n 0, 1) := by decide +kernel
theorem dX9_gatherersBy_5 : decode cX9_gatherersBy 5 = .ok (.getfield 71, 3) := by decide +kernel
theorem dX9_gatherersBy_8 : decode cX9_gatherersBy 8 = .ok (.invokevirtual 120, 3) := by decide +kernel
theorem dX9_gatherersBy_11 : decode cX9_gatherersBy 11 = .ok (.aload_n 0, 1) := by decide +kernel
theorem dX9_gatherersBy_12 : decode cX9_gatherersBy 12 = .ok (.getfield 74, 3) := by decide +kernel
theorem dX9_gatherersBy_15 : decode cX9_gatherersBy 15 = .ok (.iload_n 1, 1) := by decide +kernel
theorem dX9_gatherersBy_16 : decode cX9_gatherersBy 16 = .ok (.invokevirtual 338, 3) := by decide +kernel
theorem dX9_gatherersBy_19 : decode cX9_gatherersBy 19 = .ok (.iconst 0, 1) := by decide +kernel
theorem dX9_gatherersBy_20 : decode cX9_gatherersBy 20 = .ok (.istore_n 3, 1) := by decide +kernel
theorem dX9_gatherersBy_21 : decode cX9_gatherersBy 21 = .ok (.iconst 0, 1) := by decide +kernel
theorem dX9_gatherersBy_22 : decode cX9_gatherersBy 22 = .ok (.istore 4, 2) := by decide +kernel
theorem dX9_gatherersBy_24 : decode cX9_gatherersBy 24 = .ok (.iload 4, 2) := by decide +kernel
theorem dX9_gatherersBy_26 : decode cX9_gatherersBy 26 = .ok (.iload_n 2, 1) := by decide +kernel
theorem dX9_gatherersBy_27 : decode cX9_gatherersBy 27 = .ok (.if_icmp .ge 20, 3) := by decide +kernel
theorem dX9_gatherersBy_30 : decode cX9_gatherersBy 30 = .ok (.iload_n 3, 1) := by decide +kernel
theorem dX9_gatherersBy_31 : decode cX9_gatherersBy 31 = .ok (.aload_n 0, 1) := by decide +kernel
theorem dX9_gatherersBy_32 : decode cX9_gatherersBy 32 = .ok (.getfield 74, 3) := by decide +kernel
theorem dX9_gatherersBy_35 : decode cX9_gatherersBy 35 = .ok (.iconst 0, 1) := by decide +kernel
theorem dX9_gatherersBy_36 : decode cX9_gatherersBy 36 = .ok (.invokevirtual 203, 3) := by decide +kernel
theorem dX9_gatherersBy_39 : decode cX9_gatherersBy 39 = .ok (.ior, 1) := by decide +kernel
theorem dX9_gatherersBy_40 : decode cX9_gatherersBy 40 = .ok (.istore_n 3, 1) := by decide +kernel
theorem dX9_gatherersBy_41 : decode cX9_gatherersBy 41 = .ok (.iinc 4 1, 3) := by decide +kernel
theorem dX9_gatherersBy_44 : decode cX9_gatherersBy 44 = .ok (.goto (-20), 3) := by decide +kernel
theorem dX9_gatherersBy_47 : decode cX9_gatherersBy 47 = .ok (.iload_n 3, 1) := by decide +kernel
theorem dX9_gatherersBy_48 : decode cX9_gatherersBy 48 = .ok (.ireturn, 1) := by decide +kernel
theorem dX9_asideFits_0 : decode cX9_asideFits 0 = .ok (.iconst 0, 1) := by decide +kernel
theorem dX9_asideFits_1 : decode cX9_asideFits 1 = .ok (.istore_n 3, 1) := by decide +kernel
theorem dX9_asideFits_2 : decode cX9_asideFits 2 = .ok (.iload_n 3, 1) := by decide +kernel
theorem dX9_asideFits_3 : decode cX9_asideFits 3 = .ok (.aload_n 0, 1) := by decide +kernel
theorem dX9_asideFits_4 : decode cX9_asideFits 4 = .ok (.getfield 14, 3) := by decide +kernel
theorem dX9_asideFits_7 : decode cX9_asideFits 7 = .ok (.iload_n 2, 1) := by decide +kernel
theorem dX9_asideFits_8 : decode cX9_asideFits 8 = .ok (.iaload, 1) := by decide +kernel
theorem dX9_asideFits_9 : decode cX9_asideFits 9 = .ok (.if_icmp .ge 40, 3) := by decide +kernel
theorem dX9_asideFits_12 : decode cX9_asideFits 12 = .ok (.aload_n 0, 1) := by decide +kernel
theorem dX9_asideFits_13 : decode cX9_asideFits 13 = .ok (.getfield 74, 3) := by decide +kernel
theorem dX9_asideFits_16 : decode cX9_asideFits 16 = .ok (.iconst 0, 1) := by decide +kernel
theorem dX9_asideFits_17 : decode cX9_asideFits 17 = .ok (.invokevirtual 203, 3) := by decide +kernel
theorem dX9_asideFits_20 : decode cX9_asideFits 20 = .ok (.pop, 1) := by decide +kernel
theorem dX9_asideFits_21 : decode cX9_asideFits 21 = .ok (.aload_n 0, 1) := by decide +kernel
theorem dX9_asideFits_22 : decode cX9_asideFits 22 = .ok (.getfield 74, 3) := by decide +kernel
theorem dX9_asideFits_25 : decode cX9_asideFits 25 = .ok (.getfield 146, 3) := by decide +kernel
theorem dX9_asideFits_28 : decode cX9_asideFits 28 = .ok (.iload_n 1, 1) := by decide +kernel
theorem dX9_asideFits_29 : decode cX9_asideFits 29 = .ok (.iaload, 1) := by decide +kernel
theorem dX9_asideFits_30 : decode cX9_asideFits 30 = .ok (.aload_n 0, 1) := by decide +kernel
theorem dX9_asideFits_31 : decode cX9_asideFits 31 = .ok (.getfield 11, 3) := by decide +kernel
theorem dX9_asideFits_34 : decode cX9_asideFits 34 = .ok (.iload_n 2, 1) := by decide +kernel
theorem dX9_asideFits_35 : decode cX9_asideFits 35 = .ok (.aaload, 1) := by decide +kernel
theorem dX9_asideFits_36 : decode cX9_asideFits 36 = .ok (.iload_n 3, 1) := by decide +kernel
theorem dX9_asideFits_37 : decode cX9_asideFits 37 = .ok (.iaload, 1) := by decide +kernel
theorem dX9_asideFits_38 : decode cX9_asideFits 38 = .ok (.if_icmp .eq 5, 3) := by decide +kernel
theorem dX9_asideFits_41 : decode cX9_asideFits 41 = .ok (.iconst 0, 1) := by decide +kernel
theorem dX9_asideFits_42 : decode cX9_asideFits 42 = .ok (.ireturn, 1) := by decide +kernel
theorem dX9_asideFits_43 : decode cX9_asideFits 43 = .ok (.iinc 3 1, 3) := by decide +kernel
theorem dX9_asideFits_46 : decode cX9_asideFits 46 = .ok (.goto (-44), 3) := by decide +kernel
theorem dX9_asideFits_49 : decode cX9_asideFits 49 = .ok (.iconst 1, 1) := by decide +kernel
theorem dX9_asideFits_50 : decode cX9_asideFits 50 = .ok (.ireturn, 1) := by decide +kernel
theorem dX9_fittingSizes_0 : decode cX9_fittingSizes 0 = .ok (.iconst 0, 1) := by decide +kernel
theorem dX9_fittingSizes_1 : decode cX9_fittingSizes 1 = .ok (.istore_n 3, 1) := by decide +kernel
theorem dX9_fittingSizes_2 : decode cX9_fittingSizes 2 = .ok (.iconst 0, 1) := by decide +kernel
theorem dX9_fittingSizes_3 : decode cX9_fittingSizes 3 = .ok (.istore 4, 2) := by decide +kernel
theorem dX9_fittingSizes_5 : decode cX9_fittingSizes 5 = .ok (.iload 4, 2) := by decide +kernel
theorem dX9_fittingSizes_7 : decode cX9_fittingSizes 7 = .ok (.bipush 30, 2) := by decide +kernel
theorem dX9_fittingSizes_9 : decode cX9_fittingSizes 9 = .ok (.if_icmp .gt 45, 3) := by decide +kernel
theorem dX9_fittingSizes_12 : decode cX9_fittingSizes 12 = .ok (.aload_n 0, 1) := by decide +kernel
theorem dX9_fittingSizes_13 : decode cX9_fittingSizes 13 = .ok (.getfield 74, 3) := by decide +kernel
theorem dX9_fittingSizes_16 : decode cX9_fittingSizes 16 = .ok (.aload_n 0, 1) := by decide +kernel
theorem dX9_fittingSizes_17 : decode cX9_fittingSizes 17 = .ok (.getfield 71, 3) := by decide +kernel
theorem dX9_fittingSizes_20 : decode cX9_fittingSizes 20 = .ok (.invokevirtual 120, 3) := by decide +kernel
theorem dX9_fittingSizes_23 : decode cX9_fittingSizes 23 = .ok (.aload_n 0, 1) := by decide +kernel
theorem dX9_fittingSizes_24 : decode cX9_fittingSizes 24 = .ok (.getfield 74, 3) := by decide +kernel
theorem dX9_fittingSizes_27 : decode cX9_fittingSizes 27 = .ok (.iload 4, 2) := by decide +kernel
theorem dX9_fittingSizes_29 : decode cX9_fittingSizes 29 = .ok (.invokevirtual 341, 3) := by decide +kernel
theorem dX9_fittingSizes_32 : decode cX9_fittingSizes 32 = .ok (.aload_n 0, 1) := by decide +kernel
theorem dX9_fittingSizes_33 : decode cX9_fittingSizes 33 = .ok (.iload_n 1, 1) := by decide +kernel
theorem dX9_fittingSizes_34 : decode cX9_fittingSizes 34 = .ok (.iload_n 2, 1) := by decide +kernel
theorem dX9_fittingSizes_35 : decode cX9_fittingSizes 35 = .ok (.invokevirtual 227, 3) := by decide +kernel
theorem dX9_fittingSizes_38 : decode cX9_fittingSizes 38 = .ok (.ifCond .eq 10, 3) := by decide +kernel
theorem dX9_fittingSizes_41 : decode cX9_fittingSizes 41 = .ok (.iload_n 3, 1) := by decide +kernel
theorem dX9_fittingSizes_42 : decode cX9_fittingSizes 42 = .ok (.iconst 1, 1) := by decide +kernel
theorem dX9_fittingSizes_43 : decode cX9_fittingSizes 43 = .ok (.iload 4, 2) := by decide +kernel
theorem dX9_fittingSizes_45 : decode cX9_fittingSizes 45 = .ok (.ishl, 1) := by decide +kernel
theorem dX9_fittingSizes_46 : decode cX9_fittingSizes 46 = .ok (.ior, 1) := by decide +kernel
theorem dX9_fittingSizes_47 : decode cX9_fittingSizes 47 = .ok (.istore_n 3, 1) := by decide +kernel
theorem dX9_fittingSizes_48 : decode cX9_fittingSizes 48 = .ok (.iinc 4 1, 3) := by decide +kernel
theorem dX9_fittingSizes_51 : decode cX9_fittingSizes 51 = .ok (.goto (-46), 3) := by decide +kernel
theorem dX9_fittingSizes_54 : decode cX9_fittingSizes 54 = .ok (.iload_n 3, 1) := by decide +kernel
theorem dX9_fittingSizes_55 : decode cX9_fittingSizes 55 = .ok (.ireturn, 1) := by decide +kernel
theorem dX9_tallyShares_0 : decode cX9_tallyShares 0 = .ok (.iconst 0, 1) := by decide +kernel
theorem dX9_tallyShares_1 : decode cX9_tallyShares 1 = .ok (.istore_n 3, 1) := by decide +kernel
theorem dX9_tallyShares_2 : decode cX9_tallyShares 2 = .ok (.iload_n 3, 1) := by decide +kernel
theorem dX9_tallyShares_3 : decode cX9_tallyShares 3 = .ok (.bipush 6, 2) := by decide +kernel
theorem dX9_tallyShares_5 : decode cX9_tallyShares 5 = .ok (.if_icmp .ge 19, 3) := by decide +kernel
theorem dX9_tallyShares_8 : decode cX9_tallyShares 8 = .ok (.aload_n 0, 1) := by decide +kernel
theorem dX9_tallyShares_9 : decode cX9_tallyShares 9 = .ok (.getfield 39, 3) := by decide +kernel
theorem dX9_tallyShares_12 : decode cX9_tallyShares 12 = .ok (.iload_n 3, 1) := by decide +kernel
theorem dX9_tallyShares_13 : decode cX9_tallyShares 13 = .ok (.aaload, 1) := by decide +kernel
theorem dX9_tallyShares_14 : decode cX9_tallyShares 14 = .ok (.iconst 0, 1) := by decide +kernel
theorem dX9_tallyShares_15 : decode cX9_tallyShares 15 = .ok (.invokestatic 77, 3) := by decide +kernel
theorem dX9_tallyShares_18 : decode cX9_tallyShares 18 = .ok (.iinc 3 1, 3) := by decide +kernel
theorem dX9_tallyShares_21 : decode cX9_tallyShares 21 = .ok (.goto (-19), 3) := by decide +kernel
theorem dX9_tallyShares_24 : decode cX9_tallyShares 24 = .ok (.iconst 0, 1) := by decide +kernel
theorem dX9_tallyShares_25 : decode cX9_tallyShares 25 = .ok (.istore_n 3, 1) := by decide +kernel
theorem dX9_tallyShares_26 : decode cX9_tallyShares 26 = .ok (.iload_n 3, 1) := by decide +kernel
theorem dX9_tallyShares_27 : decode cX9_tallyShares 27 = .ok (.bipush 30, 2) := by decide +kernel
theorem dX9_tallyShares_29 : decode cX9_tallyShares 29 = .ok (.if_icmp .gt 88, 3) := by decide +kernel
theorem dX9_tallyShares_32 : decode cX9_tallyShares 32 = .ok (.iload_n 1, 1) := by decide +kernel
theorem dX9_tallyShares_33 : decode cX9_tallyShares 33 = .ok (.iload_n 3, 1) := by decide +kernel
theorem dX9_tallyShares_34 : decode cX9_tallyShares 34 = .ok (.ishr, 1) := by decide +kernel
theorem dX9_tallyShares_35 : decode cX9_tallyShares 35 = .ok (.iconst 1, 1) := by decide +kernel
theorem dX9_tallyShares_36 : decode cX9_tallyShares 36 = .ok (.iand, 1) := by decide +kernel
theorem dX9_tallyShares_37 : decode cX9_tallyShares 37 = .ok (.iconst 1, 1) := by decide +kernel
theorem dX9_tallyShares_38 : decode cX9_tallyShares 38 = .ok (.if_icmp .ne 73, 3) := by decide +kernel
theorem dX9_tallyShares_41 : decode cX9_tallyShares 41 = .ok (.aload_n 0, 1) := by decide +kernel
theorem dX9_tallyShares_42 : decode cX9_tallyShares 42 = .ok (.getfield 74, 3) := by decide +kernel
theorem dX9_tallyShares_45 : decode cX9_tallyShares 45 = .ok (.aload_n 0, 1) := by decide +kernel
theorem dX9_tallyShares_46 : decode cX9_tallyShares 46 = .ok (.getfield 71, 3) := by decide +kernel
theorem dX9_tallyShares_49 : decode cX9_tallyShares 49 = .ok (.invokevirtual 120, 3) := by decide +kernel
theorem dX9_tallyShares_52 : decode cX9_tallyShares 52 = .ok (.aload_n 0, 1) := by decide +kernel
theorem dX9_tallyShares_53 : decode cX9_tallyShares 53 = .ok (.getfield 74, 3) := by decide +kernel
theorem dX9_tallyShares_56 : decode cX9_tallyShares 56 = .ok (.iload_n 3, 1) := by decide +kernel
theorem dX9_tallyShares_57 : decode cX9_tallyShares 57 = .ok (.invokevirtual 341, 3) := by decide +kernel
theorem dX9_tallyShares_60 : decode cX9_tallyShares 60 = .ok (.aload_n 0, 1) := by decide +kernel
theorem dX9_tallyShares_61 : decode cX9_tallyShares 61 = .ok (.getfield 74, 3) := by decide +kernel
theorem dX9_tallyShares_64 : decode cX9_tallyShares 64 = .ok (.iload_n 2, 1) := by decide +kernel
theorem dX9_tallyShares_65 : decode cX9_tallyShares 65 = .ok (.invokevirtual 197, 3) := by decide +kernel
theorem dX9_tallyShares_68 : decode cX9_tallyShares 68 = .ok (.iconst 0, 1) := by decide +kernel
theorem dX9_tallyShares_69 : decode cX9_tallyShares 69 = .ok (.istore 4, 2) := by decide +kernel
theorem dX9_tallyShares_71 : decode cX9_tallyShares 71 = .ok (.iload 4, 2) := by decide +kernel
theorem dX9_tallyShares_73 : decode cX9_tallyShares 73 = .ok (.aload_n 0, 1) := by decide +kernel
theorem dX9_tallyShares_74 : decode cX9_tallyShares 74 = .ok (.getfield 71, 3) := by decide +kernel
theorem dX9_tallyShares_77 : decode cX9_tallyShares 77 = .ok (.getfield 127, 3) := by decide +kernel
theorem dX9_tallyShares_80 : decode cX9_tallyShares 80 = .ok (.if_icmp .ge 31, 3) := by decide +kernel
theorem dX9_tallyShares_83 : decode cX9_tallyShares 83 = .ok (.aload_n 0, 1) := by decide +kernel
theorem dX9_tallyShares_84 : decode cX9_tallyShares 84 = .ok (.getfield 39, 3) := by decide +kernel
theorem dX9_tallyShares_87 : decode cX9_tallyShares 87 = .ok (.iload 4, 2) := by decide +kernel
theorem dX9_tallyShares_89 : decode cX9_tallyShares 89 = .ok (.aaload, 1) := by decide +kernel
theorem dX9_tallyShares_90 : decode cX9_tallyShares 90 = .ok (.aload_n 0, 1) := by decide +kernel
theorem dX9_tallyShares_91 : decode cX9_tallyShares 91 = .ok (.getfield 74, 3) := by decide +kernel
theorem dX9_tallyShares_94 : decode cX9_tallyShares 94 = .ok (.getfield 146, 3) := by decide +kernel
theorem dX9_tallyShares_97 : decode cX9_tallyShares 97 = .ok (.iload 4, 2) := by decide +kernel
theorem dX9_tallyShares_99 : decode cX9_tallyShares 99 = .ok (.iaload, 1) := by decide +kernel
theorem dX9_tallyShares_100 : decode cX9_tallyShares 100 = .ok (.dup2, 1) := by decide +kernel
theorem dX9_tallyShares_101 : decode cX9_tallyShares 101 = .ok (.iaload, 1) := by decide +kernel
theorem dX9_tallyShares_102 : decode cX9_tallyShares 102 = .ok (.iconst 1, 1) := by decide +kernel
theorem dX9_tallyShares_103 : decode cX9_tallyShares 103 = .ok (.iadd, 1) := by decide +kernel
theorem dX9_tallyShares_104 : decode cX9_tallyShares 104 = .ok (.iastore, 1) := by decide +kernel
theorem dX9_tallyShares_105 : decode cX9_tallyShares 105 = .ok (.iinc 4 1, 3) := by decide +kernel
theorem dX9_tallyShares_108 : decode cX9_tallyShares 108 = .ok (.goto (-37), 3) := by decide +kernel
theorem dX9_tallyShares_111 : decode cX9_tallyShares 111 = .ok (.iinc 3 1, 3) := by decide +kernel
theorem dX9_tallyShares_114 : decode cX9_tallyShares 114 = .ok (.goto (-88), 3) := by decide +kernel
theorem dX9_tallyShares_117 : decode cX9_tallyShares 117 = .ok (.return_, 1) := by decide +kernel
theorem dX9_greatestOf_0 : decode cX9_greatestOf 0 = .ok (.iconst 0, 1) := by decide +kernel
theorem dX9_greatestOf_1 : decode cX9_greatestOf 1 = .ok (.istore_n 1, 1) := by decide +kernel
theorem dX9_greatestOf_2 : decode cX9_greatestOf 2 = .ok (.aload_n 0, 1) := by decide +kernel
theorem dX9_greatestOf_3 : decode cX9_greatestOf 3 = .ok (.astore_n 2, 1) := by decide +kernel
theorem dX9_greatestOf_4 : decode cX9_greatestOf 4 = .ok (.aload_n 2, 1) := by decide +kernel
theorem dX9_greatestOf_5 : decode cX9_greatestOf 5 = .ok (.arraylength, 1) := by decide +kernel
theorem dX9_greatestOf_6 : decode cX9_greatestOf 6 = .ok (.istore_n 3, 1) := by decide +kernel
theorem dX9_greatestOf_7 : decode cX9_greatestOf 7 = .ok (.iconst 0, 1) := by decide +kernel
theorem dX9_greatestOf_8 : decode cX9_greatestOf 8 = .ok (.istore 4, 2) := by decide +kernel
theorem dX9_greatestOf_10 : decode cX9_greatestOf 10 = .ok (.iload 4, 2) := by decide +kernel
theorem dX9_greatestOf_12 : decode cX9_greatestOf 12 = .ok (.iload_n 3, 1) := by decide +kernel
theorem dX9_greatestOf_13 : decode cX9_greatestOf 13 = .ok (.if_icmp .ge 22, 3) := by decide +kernel
theorem dX9_greatestOf_16 : decode cX9_greatestOf 16 = .ok (.aload_n 2, 1) := by decide +kernel
theorem dX9_greatestOf_17 : decode cX9_greatestOf 17 = .ok (.iload 4, 2) := by decide +kernel
theorem dX9_greatestOf_19 : decode cX9_greatestOf 19 = .ok (.iaload, 1) := by decide +kernel
theorem dX9_greatestOf_20 : decode cX9_greatestOf 20 = .ok (.istore 5, 2) := by decide +kernel
theorem dX9_greatestOf_22 : decode cX9_greatestOf 22 = .ok (.iload_n 1, 1) := by decide +kernel
theorem dX9_greatestOf_23 : decode cX9_greatestOf 23 = .ok (.iload 5, 2) := by decide +kernel
theorem dX9_greatestOf_25 : decode cX9_greatestOf 25 = .ok (.invokestatic 164, 3) := by decide +kernel
theorem dX9_greatestOf_28 : decode cX9_greatestOf 28 = .ok (.istore_n 1, 1) := by decide +kernel
theorem dX9_greatestOf_29 : decode cX9_greatestOf 29 = .ok (.iinc 4 1, 3) := by decide +kernel
theorem dX9_greatestOf_32 : decode cX9_greatestOf 32 = .ok (.goto (-22), 3) := by decide +kernel
theorem dX9_greatestOf_35 : decode cX9_greatestOf 35 = .ok (.iload_n 1, 1) := by decide +kernel
theorem dX9_greatestOf_36 : decode cX9_greatestOf 36 = .ok (.ireturn, 1) := by decide +kernel
theorem dX9_firstGoes_0 : decode cX9_firstGoes 0 = .ok (.iload 5, 2) := by decide +kernel
theorem dX9_firstGoes_2 : decode cX9_firstGoes 2 = .ok (.ifCond .gt 13, 3) := by decide +kernel
theorem dX9_firstGoes_5 : decode cX9_firstGoes 5 = .ok (.aload_n 0, 1) := by decide +kernel
theorem dX9_firstGoes_6 : decode cX9_firstGoes 6 = .ok (.iload_n 1, 1) := by decide +kernel
theorem dX9_firstGoes_7 : decode cX9_firstGoes 7 = .ok (.iload_n 2, 1) := by decide +kernel
theorem dX9_firstGoes_8 : decode cX9_firstGoes 8 = .ok (.iload_n 3, 1) := by decide +kernel
theorem dX9_firstGoes_9 : decode cX9_firstGoes 9 = .ok (.iload 4, 2) := by decide +kernel
theorem dX9_firstGoes_11 : decode cX9_firstGoes 11 = .ok (.invokevirtual 344, 3) := by decide +kernel
theorem dX9_firstGoes_14 : decode cX9_firstGoes 14 = .ok (.ireturn, 1) := by decide +kernel
theorem dX9_firstGoes_15 : decode cX9_firstGoes 15 = .ok (.bipush (-30), 2) := by decide +kernel
theorem dX9_firstGoes_17 : decode cX9_firstGoes 17 = .ok (.istore 6, 2) := by decide +kernel
theorem dX9_firstGoes_19 : decode cX9_firstGoes 19 = .ok (.iconst (-1), 1) := by decide +kernel
theorem dX9_firstGoes_20 : decode cX9_firstGoes 20 = .ok (.istore 7, 2) := by decide +kernel
theorem dX9_firstGoes_22 : decode cX9_firstGoes 22 = .ok (.iload 7, 2) := by decide +kernel
theorem dX9_firstGoes_24 : decode cX9_firstGoes 24 = .ok (.iconst 1, 1) := by decide +kernel
theorem dX9_firstGoes_25 : decode cX9_firstGoes 25 = .ok (.if_icmp .gt 39, 3) := by decide +kernel
theorem dX9_firstGoes_28 : decode cX9_firstGoes 28 = .ok (.iload_n 3, 1) := by decide +kernel
theorem dX9_firstGoes_29 : decode cX9_firstGoes 29 = .ok (.iload 7, 2) := by decide +kernel
theorem dX9_firstGoes_31 : decode cX9_firstGoes 31 = .ok (.iadd, 1) := by decide +kernel
theorem dX9_firstGoes_32 : decode cX9_firstGoes 32 = .ok (.bipush 10, 2) := by decide +kernel
theorem dX9_firstGoes_34 : decode cX9_firstGoes 34 = .ok (.invokestatic 348, 3) := by decide +kernel
theorem dX9_firstGoes_37 : decode cX9_firstGoes 37 = .ok (.istore 8, 2) := by decide +kernel
theorem dX9_firstGoes_39 : decode cX9_firstGoes 39 = .ok (.iload 6, 2) := by decide +kernel
theorem dX9_firstGoes_41 : decode cX9_firstGoes 41 = .ok (.aload_n 0, 1) := by decide +kernel
theorem dX9_firstGoes_42 : decode cX9_firstGoes 42 = .ok (.iload_n 1, 1) := by decide +kernel
theorem dX9_firstGoes_43 : decode cX9_firstGoes 43 = .ok (.iload_n 2, 1) := by decide +kernel
theorem dX9_firstGoes_44 : decode cX9_firstGoes 44 = .ok (.iload 8, 2) := by decide +kernel
theorem dX9_firstGoes_46 : decode cX9_firstGoes 46 = .ok (.iload 4, 2) := by decide +kernel
theorem dX9_firstGoes_48 : decode cX9_firstGoes 48 = .ok (.iload 5, 2) := by decide +kernel
theorem dX9_firstGoes_50 : decode cX9_firstGoes 50 = .ok (.invokevirtual 351, 3) := by decide +kernel
theorem dX9_firstGoes_53 : decode cX9_firstGoes 53 = .ok (.invokestatic 164, 3) := by decide +kernel
theorem dX9_firstGoes_56 : decode cX9_firstGoes 56 = .ok (.istore 6, 2) := by decide +kernel
theorem dX9_firstGoes_58 : decode cX9_firstGoes 58 = .ok (.iinc 7 1, 3) := by decide +kernel
theorem dX9_firstGoes_61 : decode cX9_firstGoes 61 = .ok (.goto (-39), 3) := by decide +kernel
theorem dX9_firstGoes_64 : decode cX9_firstGoes 64 = .ok (.iload 6, 2) := by decide +kernel
theorem dX9_firstGoes_66 : decode cX9_firstGoes 66 = .ok (.ireturn, 1) := by decide +kernel
theorem dX9_secondGoes_0 : decode cX9_secondGoes 0 = .ok (.bipush 30, 2) := by decide +kernel
theorem dX9_secondGoes_2 : decode cX9_secondGoes 2 = .ok (.istore 6, 2) := by decide +kernel
theorem dX9_secondGoes_4 : decode cX9_secondGoes 4 = .ok (.iconst (-1), 1) := by decide +kernel
theorem dX9_secondGoes_5 : decode cX9_secondGoes 5 = .ok (.istore 7, 2) := by decide +kernel
theorem dX9_secondGoes_7 : decode cX9_secondGoes 7 = .ok (.iload 7, 2) := by decide +kernel
theorem dX9_secondGoes_9 : decode cX9_secondGoes 9 = .ok (.iconst 1, 1) := by decide +kernel
theorem dX9_secondGoes_10 : decode cX9_secondGoes 10 = .ok (.if_icmp .gt 41, 3) := by decide +kernel
theorem dX9_secondGoes_13 : decode cX9_secondGoes 13 = .ok (.iload 4, 2) := by decide +kernel
theorem dX9_secondGoes_15 : decode cX9_secondGoes 15 = .ok (.iload 7, 2) := by decide +kernel
theorem dX9_secondGoes_17 : decode cX9_secondGoes 17 = .ok (.iadd, 1) := by decide +kernel
theorem dX9_secondGoes_18 : decode cX9_secondGoes 18 = .ok (.bipush 10, 2) := by decide +kernel
theorem dX9_secondGoes_20 : decode cX9_secondGoes 20 = .ok (.invokestatic 348, 3) := by decide +kernel
theorem dX9_secondGoes_23 : decode cX9_secondGoes 23 = .ok (.istore 8, 2) := by decide +kernel
theorem dX9_secondGoes_25 : decode cX9_secondGoes 25 = .ok (.iload 6, 2) := by decide +kernel
theorem dX9_secondGoes_27 : decode cX9_secondGoes 27 = .ok (.aload_n 0, 1) := by decide +kernel
theorem dX9_secondGoes_28 : decode cX9_secondGoes 28 = .ok (.iload_n 1, 1) := by decide +kernel
theorem dX9_secondGoes_29 : decode cX9_secondGoes 29 = .ok (.iload_n 2, 1) := by decide +kernel
theorem dX9_secondGoes_30 : decode cX9_secondGoes 30 = .ok (.iload_n 3, 1) := by decide +kernel
theorem dX9_secondGoes_31 : decode cX9_secondGoes 31 = .ok (.iload 8, 2) := by decide +kernel
theorem dX9_secondGoes_33 : decode cX9_secondGoes 33 = .ok (.iload 5, 2) := by decide +kernel
theorem dX9_secondGoes_35 : decode cX9_secondGoes 35 = .ok (.iconst 1, 1) := by decide +kernel
theorem dX9_secondGoes_36 : decode cX9_secondGoes 36 = .ok (.isub, 1) := by decide +kernel
theorem dX9_secondGoes_37 : decode cX9_secondGoes 37 = .ok (.invokevirtual 249, 3) := by decide +kernel
theorem dX9_secondGoes_40 : decode cX9_secondGoes 40 = .ok (.invokestatic 354, 3) := by decide +kernel
theorem dX9_secondGoes_43 : decode cX9_secondGoes 43 = .ok (.istore 6, 2) := by decide +kernel
theorem dX9_secondGoes_45 : decode cX9_secondGoes 45 = .ok (.iinc 7 1, 3) := by decide +kernel
theorem dX9_secondGoes_48 : decode cX9_secondGoes 48 = .ok (.goto (-41), 3) := by decide +kernel
theorem dX9_secondGoes_51 : decode cX9_secondGoes 51 = .ok (.iload 6, 2) := by decide +kernel
theorem dX9_secondGoes_53 : decode cX9_secondGoes 53 = .ok (.ireturn, 1) := by decide +kernel
theorem dX9_duelEnd_0 : decode cX9_duelEnd 0 = .ok (.aload_n 0, 1) := by decide +kernel
theorem dX9_duelEnd_1 : decode cX9_duelEnd 1 = .ok (.getfield 74, 3) := by decide +kernel
theorem dX9_duelEnd_4 : decode cX9_duelEnd 4 = .ok (.aload_n 0, 1) := by decide +kernel
theorem dX9_duelEnd_5 : decode cX9_duelEnd 5 = .ok (.getfield 71, 3) := by decide +kernel
theorem dX9_duelEnd_8 : decode cX9_duelEnd 8 = .ok (.invokevirtual 120, 3) := by decide +kernel
theorem dX9_duelEnd_11 : decode cX9_duelEnd 11 = .ok (.aload_n 0, 1) := by decide +kernel
theorem dX9_duelEnd_12 : decode cX9_duelEnd 12 = .ok (.getfield 74, 3) := by decide +kernel
theorem dX9_duelEnd_15 : decode cX9_duelEnd 15 = .ok (.getfield 182, 3) := by decide +kernel
theorem dX9_duelEnd_18 : decode cX9_duelEnd 18 = .ok (.iload_n 1, 1) := by decide +kernel
theorem dX9_duelEnd_19 : decode cX9_duelEnd 19 = .ok (.iload_n 3, 1) := by decide +kernel
theorem dX9_duelEnd_20 : decode cX9_duelEnd 20 = .ok (.iastore, 1) := by decide +kernel
theorem dX9_duelEnd_21 : decode cX9_duelEnd 21 = .ok (.aload_n 0, 1) := by decide +kernel
theorem dX9_duelEnd_22 : decode cX9_duelEnd 22 = .ok (.getfield 74, 3) := by decide +kernel
theorem dX9_duelEnd_25 : decode cX9_duelEnd 25 = .ok (.getfield 182, 3) := by decide +kernel
theorem dX9_duelEnd_28 : decode cX9_duelEnd 28 = .ok (.iload_n 2, 1) := by decide +kernel
theorem dX9_duelEnd_29 : decode cX9_duelEnd 29 = .ok (.iload 4, 2) := by decide +kernel
theorem dX9_duelEnd_31 : decode cX9_duelEnd 31 = .ok (.iastore, 1) := by decide +kernel
theorem dX9_duelEnd_32 : decode cX9_duelEnd 32 = .ok (.aload_n 0, 1) := by decide +kernel
theorem dX9_duelEnd_33 : decode cX9_duelEnd 33 = .ok (.getfield 74, 3) := by decide +kernel
theorem dX9_duelEnd_36 : decode cX9_duelEnd 36 = .ok (.iconst 3, 1) := by decide +kernel
theorem dX9_duelEnd_37 : decode cX9_duelEnd 37 = .ok (.invokevirtual 197, 3) := by decide +kernel
theorem dX9_duelEnd_40 : decode cX9_duelEnd 40 = .ok (.aload_n 0, 1) := by decide +kernel
theorem dX9_duelEnd_41 : decode cX9_duelEnd 41 = .ok (.getfield 74, 3) := by decide +kernel
theorem dX9_duelEnd_44 : decode cX9_duelEnd 44 = .ok (.getfield 146, 3) := by decide +kernel
theorem dX9_duelEnd_47 : decode cX9_duelEnd 47 = .ok (.iload_n 1, 1) := by decide +kernel
theorem dX9_duelEnd_48 : decode cX9_duelEnd 48 = .ok (.iaload, 1) := by decide +kernel
theorem dX9_duelEnd_49 : decode cX9_duelEnd 49 = .ok (.aload_n 0, 1) := by decide +kernel
theorem dX9_duelEnd_50 : decode cX9_duelEnd 50 = .ok (.getfield 74, 3) := by decide +kernel
theorem dX9_duelEnd_53 : decode cX9_duelEnd 53 = .ok (.getfield 146, 3) := by decide +kernel
theorem dX9_duelEnd_56 : decode cX9_duelEnd 56 = .ok (.iload_n 2, 1) := by decide +kernel
theorem dX9_duelEnd_57 : decode cX9_duelEnd 57 = .ok (.iaload, 1) := by decide +kernel
theorem dX9_duelEnd_58 : decode cX9_duelEnd 58 = .ok (.isub, 1) := by decide +kernel
theorem dX9_duelEnd_59 : decode cX9_duelEnd 59 = .ok (.ireturn, 1) := by decide +kernel
theorem dX9_weightOf_0 : decode cX9_weightOf 0 = .ok (.iload_n 1, 1) := by decide +kernel
theorem dX9_weightOf_1 : decode cX9_weightOf 1 = .ok (.invokestatic 209, 3) := by decide +kernel
theorem dX9_weightOf_4 : decode cX9_weightOf 4 = .ok (.istore_n 3, 1) := by decide +kernel
theorem dX9_weightOf_5 : decode cX9_weightOf 5 = .ok (.iload_n 2, 1) := by decide +kernel
theorem dX9_weightOf_6 : decode cX9_weightOf 6 = .ok (.i2l, 1) := by decide +kernel
theorem dX9_weightOf_7 : decode cX9_weightOf 7 = .ok (.iload_n 3, 1) := by decide +kernel
theorem dX9_weightOf_8 : decode cX9_weightOf 8 = .ok (.invokestatic 259, 3) := by decide +kernel
theorem dX9_weightOf_11 : decode cX9_weightOf 11 = .ok (.bipush 12, 2) := by decide +kernel
theorem dX9_weightOf_13 : decode cX9_weightOf 13 = .ok (.iload_n 2, 1) := by decide +kernel
theorem dX9_weightOf_14 : decode cX9_weightOf 14 = .ok (.isub, 1) := by decide +kernel
theorem dX9_weightOf_15 : decode cX9_weightOf 15 = .ok (.i2l, 1) := by decide +kernel
theorem dX9_weightOf_16 : decode cX9_weightOf 16 = .ok (.aload_n 0, 1) := by decide +kernel
theorem dX9_weightOf_17 : decode cX9_weightOf 17 = .ok (.getfield 71, 3) := by decide +kernel
theorem dX9_weightOf_20 : decode cX9_weightOf 20 = .ok (.getfield 127, 3) := by decide +kernel
theorem dX9_weightOf_23 : decode cX9_weightOf 23 = .ok (.iload_n 3, 1) := by decide +kernel
theorem dX9_weightOf_24 : decode cX9_weightOf 24 = .ok (.isub, 1) := by decide +kernel
theorem dX9_weightOf_25 : decode cX9_weightOf 25 = .ok (.invokestatic 259, 3) := by decide +kernel
theorem dX9_weightOf_28 : decode cX9_weightOf 28 = .ok (.lmul, 1) := by decide +kernel
theorem dX9_weightOf_29 : decode cX9_weightOf 29 = .ok (.lreturn, 1) := by decide +kernel
theorem dX9_power_0 : decode cX9_power 0 = .ok (.lconst 1, 1) := by decide +kernel
theorem dX9_power_1 : decode cX9_power 1 = .ok (.lstore_n 3, 1) := by decide +kernel
theorem dX9_power_2 : decode cX9_power 2 = .ok (.iconst 0, 1) := by decide +kernel
theorem dX9_power_3 : decode cX9_power 3 = .ok (.istore 5, 2) := by decide +kernel
theorem dX9_power_5 : decode cX9_power 5 = .ok (.iload 5, 2) := by decide +kernel
theorem dX9_power_7 : decode cX9_power 7 = .ok (.iload_n 2, 1) := by decide +kernel
theorem dX9_power_8 : decode cX9_power 8 = .ok (.if_icmp .ge 13, 3) := by decide +kernel
theorem dX9_power_11 : decode cX9_power 11 = .ok (.lload_n 3, 1) := by decide +kernel
theorem dX9_power_12 : decode cX9_power 12 = .ok (.lload_n 0, 1) := by decide +kernel
theorem dX9_power_13 : decode cX9_power 13 = .ok (.lmul, 1) := by decide +kernel
theorem dX9_power_14 : decode cX9_power 14 = .ok (.lstore_n 3, 1) := by decide +kernel
theorem dX9_power_15 : decode cX9_power 15 = .ok (.iinc 5 1, 3) := by decide +kernel
theorem dX9_power_18 : decode cX9_power 18 = .ok (.goto (-13), 3) := by decide +kernel
theorem dX9_power_21 : decode cX9_power 21 = .ok (.lload_n 3, 1) := by decide +kernel
theorem dX9_power_22 : decode cX9_power 22 = .ok (.lreturn, 1) := by decide +kernel
theorem dX9_tellParts_0 : decode cX9_tellParts 0 = .ok (.lload_n 1, 1) := by decide +kernel
theorem dX9_tellParts_1 : decode cX9_tellParts 1 = .ok (.lload_n 3, 1) := by decide +kernel
theorem dX9_tellParts_2 : decode cX9_tellParts 2 = .ok (.invokestatic 357, 3) := by decide +kernel
theorem dX9_tellParts_5 : decode cX9_tellParts 5 = .ok (.lstore 5, 2) := by decide +kernel
theorem dX9_tellParts_7 : decode cX9_tellParts 7 = .ok (.lload 5, 2) := by decide +kernel
theorem dX9_tellParts_9 : decode cX9_tellParts 9 = .ok (.lconst 0, 1) := by decide +kernel
theorem dX9_tellParts_10 : decode cX9_tellParts 10 = .ok (.lcmp, 1) := by decide +kernel
theorem dX9_tellParts_11 : decode cX9_tellParts 11 = .ok (.ifCond .gt 4, 3) := by decide +kernel
theorem dX9_tellParts_14 : decode cX9_tellParts 14 = .ok (.return_, 1) := by decide +kernel
theorem dX9_tellParts_15 : decode cX9_tellParts 15 = .ok (.aload_n 0, 1) := by decide +kernel
theorem dX9_tellParts_16 : decode cX9_tellParts 16 = .ok (.lload_n 1, 1) := by decide +kernel
theorem dX9_tellParts_17 : decode cX9_tellParts 17 = .ok (.lload 5, 2) := by decide +kernel
theorem dX9_tellParts_19 : decode cX9_tellParts 19 = .ok (.ldiv, 1) := by decide +kernel
theorem dX9_tellParts_20 : decode cX9_tellParts 20 = .ok (.putfield 52, 3) := by decide +kernel
theorem dX9_tellParts_23 : decode cX9_tellParts 23 = .ok (.aload_n 0, 1) := by decide +kernel
theorem dX9_tellParts_24 : decode cX9_tellParts 24 = .ok (.lload_n 3, 1) := by decide +kernel
theorem dX9_tellParts_25 : decode cX9_tellParts 25 = .ok (.lload 5, 2) := by decide +kernel
theorem dX9_tellParts_27 : decode cX9_tellParts 27 = .ok (.ldiv, 1) := by decide +kernel
theorem dX9_tellParts_28 : decode cX9_tellParts 28 = .ok (.putfield 56, 3) := by decide +kernel
theorem dX9_tellParts_31 : decode cX9_tellParts 31 = .ok (.return_, 1) := by decide +kernel
theorem dX9_commonDivisor_0 : decode cX9_commonDivisor 0 = .ok (.lload_n 0, 1) := by decide +kernel
theorem dX9_commonDivisor_1 : decode cX9_commonDivisor 1 = .ok (.lstore 4, 2) := by decide +kernel
theorem dX9_commonDivisor_3 : decode cX9_commonDivisor 3 = .ok (.lload_n 2, 1) := by decide +kernel
theorem dX9_commonDivisor_4 : decode cX9_commonDivisor 4 = .ok (.lstore 6, 2) := by decide +kernel
theorem dX9_commonDivisor_6 : decode cX9_commonDivisor 6 = .ok (.iconst 0, 1) := by decide +kernel
theorem dX9_commonDivisor_7 : decode cX9_commonDivisor 7 = .ok (.istore 8, 2) := by decide +kernel
theorem dX9_commonDivisor_9 : decode cX9_commonDivisor 9 = .ok (.iload 8, 2) := by decide +kernel
theorem dX9_commonDivisor_11 : decode cX9_commonDivisor 11 = .ok (.bipush 100, 2) := by decide +kernel
theorem dX9_commonDivisor_13 : decode cX9_commonDivisor 13 = .ok (.if_icmp .ge 31, 3) := by decide +kernel
theorem dX9_commonDivisor_16 : decode cX9_commonDivisor 16 = .ok (.lload 6, 2) := by decide +kernel
theorem dX9_commonDivisor_18 : decode cX9_commonDivisor 18 = .ok (.lconst 0, 1) := by decide +kernel
theorem dX9_commonDivisor_19 : decode cX9_commonDivisor 19 = .ok (.lcmp, 1) := by decide +kernel
theorem dX9_commonDivisor_20 : decode cX9_commonDivisor 20 = .ok (.ifCond .eq 24, 3) := by decide +kernel
theorem dX9_commonDivisor_23 : decode cX9_commonDivisor 23 = .ok (.lload 4, 2) := by decide +kernel
theorem dX9_commonDivisor_25 : decode cX9_commonDivisor 25 = .ok (.lload 6, 2) := by decide +kernel
theorem dX9_commonDivisor_27 : decode cX9_commonDivisor 27 = .ok (.lrem, 1) := by decide +kernel
theorem dX9_commonDivisor_28 : decode cX9_commonDivisor 28 = .ok (.lstore 9, 2) := by decide +kernel
theorem dX9_commonDivisor_30 : decode cX9_commonDivisor 30 = .ok (.lload 6, 2) := by decide +kernel
theorem dX9_commonDivisor_32 : decode cX9_commonDivisor 32 = .ok (.lstore 4, 2) := by decide +kernel
theorem dX9_commonDivisor_34 : decode cX9_commonDivisor 34 = .ok (.lload 9, 2) := by decide +kernel
theorem dX9_commonDivisor_36 : decode cX9_commonDivisor 36 = .ok (.lstore 6, 2) := by decide +kernel
theorem dX9_commonDivisor_38 : decode cX9_commonDivisor 38 = .ok (.iinc 8 1, 3) := by decide +kernel
theorem dX9_commonDivisor_41 : decode cX9_commonDivisor 41 = .ok (.goto (-32), 3) := by decide +kernel
theorem dX9_commonDivisor_44 : decode cX9_commonDivisor 44 = .ok (.lload 4, 2) := by decide +kernel
theorem dX9_commonDivisor_46 : decode cX9_commonDivisor 46 = .ok (.lreturn, 1) := by decide +kernel
theorem dX9_valueOfOne_0 : decode cX9_valueOfOne 0 = .ok (.iload_n 2, 1) := by decide +kernel
theorem dX9_valueOfOne_1 : decode cX9_valueOfOne 1 = .ok (.tableswitch 77 0 3 #[31, 41, 51, 61], 31) := by decide +kernel
theorem dX9_valueOfOne_32 : decode cX9_valueOfOne 32 = .ok (.aload_n 0, 1) := by decide +kernel
theorem dX9_valueOfOne_33 : decode cX9_valueOfOne 33 = .ok (.getfield 71, 3) := by decide +kernel
theorem dX9_valueOfOne_36 : decode cX9_valueOfOne 36 = .ok (.getfield 231, 3) := by decide +kernel
theorem dX9_valueOfOne_39 : decode cX9_valueOfOne 39 = .ok (.iload_n 1, 1) := by decide +kernel
theorem dX9_valueOfOne_40 : decode cX9_valueOfOne 40 = .ok (.iaload, 1) := by decide +kernel
theorem dX9_valueOfOne_41 : decode cX9_valueOfOne 41 = .ok (.ireturn, 1) := by decide +kernel
theorem dX9_valueOfOne_42 : decode cX9_valueOfOne 42 = .ok (.aload_n 0, 1) := by decide +kernel
theorem dX9_valueOfOne_43 : decode cX9_valueOfOne 43 = .ok (.getfield 71, 3) := by decide +kernel
theorem dX9_valueOfOne_46 : decode cX9_valueOfOne 46 = .ok (.getfield 182, 3) := by decide +kernel
theorem dX9_valueOfOne_49 : decode cX9_valueOfOne 49 = .ok (.iload_n 1, 1) := by decide +kernel
theorem dX9_valueOfOne_50 : decode cX9_valueOfOne 50 = .ok (.iaload, 1) := by decide +kernel
theorem dX9_valueOfOne_51 : decode cX9_valueOfOne 51 = .ok (.ireturn, 1) := by decide +kernel
theorem dX9_valueOfOne_52 : decode cX9_valueOfOne 52 = .ok (.aload_n 0, 1) := by decide +kernel
theorem dX9_valueOfOne_53 : decode cX9_valueOfOne 53 = .ok (.getfield 71, 3) := by decide +kernel
theorem dX9_valueOfOne_56 : decode cX9_valueOfOne 56 = .ok (.getfield 146, 3) := by decide +kernel
theorem dX9_valueOfOne_59 : decode cX9_valueOfOne 59 = .ok (.iload_n 1, 1) := by decide +kernel
theorem dX9_valueOfOne_60 : decode cX9_valueOfOne 60 = .ok (.iaload, 1) := by decide +kernel
theorem dX9_valueOfOne_61 : decode cX9_valueOfOne 61 = .ok (.ireturn, 1) := by decide +kernel
theorem dX9_valueOfOne_62 : decode cX9_valueOfOne 62 = .ok (.aload_n 0, 1) := by decide +kernel
theorem dX9_valueOfOne_63 : decode cX9_valueOfOne 63 = .ok (.getfield 71, 3) := by decide +kernel
theorem dX9_valueOfOne_66 : decode cX9_valueOfOne 66 = .ok (.iload_n 1, 1) := by decide +kernel
theorem dX9_valueOfOne_67 : decode cX9_valueOfOne 67 = .ok (.aload_n 0, 1) := by decide +kernel
theorem dX9_valueOfOne_68 : decode cX9_valueOfOne 68 = .ok (.getfield 71, 3) := by decide +kernel
theorem dX9_valueOfOne_71 : decode cX9_valueOfOne 71 = .ok (.getfield 159, 3) := by decide +kernel
theorem dX9_valueOfOne_74 : decode cX9_valueOfOne 74 = .ok (.invokevirtual 194, 3) := by decide +kernel
theorem dX9_valueOfOne_77 : decode cX9_valueOfOne 77 = .ok (.ireturn, 1) := by decide +kernel
theorem dX9_valueOfOne_78 : decode cX9_valueOfOne 78 = .ok (.aload_n 0, 1) := by decide +kernel
theorem dX9_valueOfOne_79 : decode cX9_valueOfOne 79 = .ok (.getfield 71, 3) := by decide +kernel
theorem dX9_valueOfOne_82 : decode cX9_valueOfOne 82 = .ok (.iload_n 1, 1) := by decide +kernel
theorem dX9_valueOfOne_83 : decode cX9_valueOfOne 83 = .ok (.invokevirtual 361, 3) := by decide +kernel
theorem dX9_valueOfOne_86 : decode cX9_valueOfOne 86 = .ok (.ireturn, 1) := by decide +kernel
theorem dX9_leastCloudAlike_0 : decode cX9_leastCloudAlike 0 = .ok (.aload_n 1, 1) := by decide +kernel
theorem dX9_leastCloudAlike_1 : decode cX9_leastCloudAlike 1 = .ok (.aload_n 0, 1) := by decide +kernel
theorem dX9_leastCloudAlike_2 : decode cX9_leastCloudAlike 2 = .ok (.getfield 71, 3) := by decide +kernel
theorem dX9_leastCloudAlike_5 : decode cX9_leastCloudAlike 5 = .ok (.getfield 159, 3) := by decide +kernel
theorem dX9_leastCloudAlike_8 : decode cX9_leastCloudAlike 8 = .ok (.invokevirtual 364, 3) := by decide +kernel
theorem dX9_leastCloudAlike_11 : decode cX9_leastCloudAlike 11 = .ok (.istore_n 2, 1) := by decide +kernel
theorem dX9_leastCloudAlike_12 : decode cX9_leastCloudAlike 12 = .ok (.iconst 0, 1) := by decide +kernel
theorem dX9_leastCloudAlike_13 : decode cX9_leastCloudAlike 13 = .ok (.istore_n 3, 1) := by decide +kernel
theorem dX9_leastCloudAlike_14 : decode cX9_leastCloudAlike 14 = .ok (.iload_n 3, 1) := by decide +kernel
theorem dX9_leastCloudAlike_15 : decode cX9_leastCloudAlike 15 = .ok (.aload_n 0, 1) := by decide +kernel
theorem dX9_leastCloudAlike_16 : decode cX9_leastCloudAlike 16 = .ok (.getfield 71, 3) := by decide +kernel
theorem dX9_leastCloudAlike_19 : decode cX9_leastCloudAlike 19 = .ok (.getfield 159, 3) := by decide +kernel
theorem dX9_leastCloudAlike_22 : decode cX9_leastCloudAlike 22 = .ok (.if_icmp .ge 20, 3) := by decide +kernel
theorem dX9_leastCloudAlike_25 : decode cX9_leastCloudAlike 25 = .ok (.aload_n 1, 1) := by decide +kernel
theorem dX9_leastCloudAlike_26 : decode cX9_leastCloudAlike 26 = .ok (.iload_n 3, 1) := by decide +kernel
theorem dX9_leastCloudAlike_27 : decode cX9_leastCloudAlike 27 = .ok (.invokevirtual 364, 3) := by decide +kernel
theorem dX9_leastCloudAlike_30 : decode cX9_leastCloudAlike 30 = .ok (.iload_n 2, 1) := by decide +kernel
theorem dX9_leastCloudAlike_31 : decode cX9_leastCloudAlike 31 = .ok (.if_icmp .ne 5, 3) := by decide +kernel
theorem dX9_leastCloudAlike_34 : decode cX9_leastCloudAlike 34 = .ok (.iload_n 3, 1) := by decide +kernel
theorem dX9_leastCloudAlike_35 : decode cX9_leastCloudAlike 35 = .ok (.ireturn, 1) := by decide +kernel
theorem dX9_leastCloudAlike_36 : decode cX9_leastCloudAlike 36 = .ok (.iinc 3 1, 3) := by decide +kernel
theorem dX9_leastCloudAlike_39 : decode cX9_leastCloudAlike 39 = .ok (.goto (-25), 3) := by decide +kernel
theorem dX9_leastCloudAlike_42 : decode cX9_leastCloudAlike 42 = .ok (.aload_n 0, 1) := by decide +kernel
theorem dX9_leastCloudAlike_43 : decode cX9_leastCloudAlike 43 = .ok (.getfield 71, 3) := by decide +kernel
theorem dX9_leastCloudAlike_46 : decode cX9_leastCloudAlike 46 = .ok (.getfield 159, 3) := by decide +kernel
theorem dX9_leastCloudAlike_49 : decode cX9_leastCloudAlike 49 = .ok (.ireturn, 1) := by decide +kernel
theorem dX9_beards_0 : decode cX9_beards 0 = .ok (.iconst 0, 1) := by decide +kernel
theorem dX9_beards_1 : decode cX9_beards 1 = .ok (.istore_n 1, 1) := by decide +kernel
theorem dX9_beards_2 : decode cX9_beards 2 = .ok (.iconst 0, 1) := by decide +kernel
theorem dX9_beards_3 : decode cX9_beards 3 = .ok (.istore_n 2, 1) := by decide +kernel
theorem dX9_beards_4 : decode cX9_beards 4 = .ok (.iload_n 2, 1) := by decide +kernel
theorem dX9_beards_5 : decode cX9_beards 5 = .ok (.aload_n 0, 1) := by decide +kernel
theorem dX9_beards_6 : decode cX9_beards 6 = .ok (.getfield 71, 3) := by decide +kernel
theorem dX9_beards_9 : decode cX9_beards 9 = .ok (.getfield 127, 3) := by decide +kernel
theorem dX9_beards_12 : decode cX9_beards 12 = .ok (.if_icmp .ge 26, 3) := by decide +kernel
theorem dX9_beards_15 : decode cX9_beards 15 = .ok (.aload_n 0, 1) := by decide +kernel
theorem dX9_beards_16 : decode cX9_beards 16 = .ok (.getfield 71, 3) := by decide +kernel
theorem dX9_beards_19 : decode cX9_beards 19 = .ok (.iload_n 2, 1) := by decide +kernel
theorem dX9_beards_20 : decode cX9_beards 20 = .ok (.invokevirtual 136, 3) := by decide +kernel
theorem dX9_beards_23 : decode cX9_beards 23 = .ok (.instanceof 140, 3) := by decide +kernel
theorem dX9_beards_26 : decode cX9_beards 26 = .ok (.ifCond .eq 6, 3) := by decide +kernel
theorem dX9_beards_29 : decode cX9_beards 29 = .ok (.iinc 1 1, 3) := by decide +kernel
theorem dX9_beards_32 : decode cX9_beards 32 = .ok (.iinc 2 1, 3) := by decide +kernel
theorem dX9_beards_35 : decode cX9_beards 35 = .ok (.goto (-31), 3) := by decide +kernel
theorem dX9_beards_38 : decode cX9_beards 38 = .ok (.iload_n 1, 1) := by decide +kernel
theorem dX9_beards_39 : decode cX9_beards 39 = .ok (.ireturn, 1) := by decide +kernel
theorem dX9_wasps_0 : decode cX9_wasps 0 = .ok (.iconst 0, 1) := by decide +kernel
theorem dX9_wasps_1 : decode cX9_wasps 1 = .ok (.istore_n 1, 1) := by decide +kernel
theorem dX9_wasps_2 : decode cX9_wasps 2 = .ok (.iconst 0, 1) := by decide +kernel
theorem dX9_wasps_3 : decode cX9_wasps 3 = .ok (.istore_n 2, 1) := by decide +kernel
theorem dX9_wasps_4 : decode cX9_wasps 4 = .ok (.iload_n 2, 1) := by decide +kernel
theorem dX9_wasps_5 : decode cX9_wasps 5 = .ok (.aload_n 0, 1) := by decide +kernel
theorem dX9_wasps_6 : decode cX9_wasps 6 = .ok (.getfield 71, 3) := by decide +kernel
theorem dX9_wasps_9 : decode cX9_wasps 9 = .ok (.getfield 127, 3) := by decide +kernel
theorem dX9_wasps_12 : decode cX9_wasps 12 = .ok (.if_icmp .ge 26, 3) := by decide +kernel
theorem dX9_wasps_15 : decode cX9_wasps 15 = .ok (.aload_n 0, 1) := by decide +kernel
theorem dX9_wasps_16 : decode cX9_wasps 16 = .ok (.getfield 71, 3) := by decide +kernel
theorem dX9_wasps_19 : decode cX9_wasps 19 = .ok (.iload_n 2, 1) := by decide +kernel
theorem dX9_wasps_20 : decode cX9_wasps 20 = .ok (.invokevirtual 136, 3) := by decide +kernel
theorem dX9_wasps_23 : decode cX9_wasps 23 = .ok (.instanceof 151, 3) := by decide +kernel
theorem dX9_wasps_26 : decode cX9_wasps 26 = .ok (.ifCond .eq 6, 3) := by decide +kernel
theorem dX9_wasps_29 : decode cX9_wasps 29 = .ok (.iinc 1 1, 3) := by decide +kernel
theorem dX9_wasps_32 : decode cX9_wasps 32 = .ok (.iinc 2 1, 3) := by decide +kernel
theorem dX9_wasps_35 : decode cX9_wasps 35 = .ok (.goto (-31), 3) := by decide +kernel
theorem dX9_wasps_38 : decode cX9_wasps 38 = .ok (.iload_n 1, 1) := by decide +kernel
theorem dX9_wasps_39 : decode cX9_wasps 39 = .ok (.ireturn, 1) := by decide +kernel
theorem dX9_howManyThere_0 : decode cX9_howManyThere 0 = .ok (.iconst 0, 1) := by decide +kernel
theorem dX9_howManyThere_1 : decode cX9_howManyThere 1 = .ok (.istore_n 1, 1) := by decide +kernel
theorem dX9_howManyThere_2 : decode cX9_howManyThere 2 = .ok (.aload_n 0, 1) := by decide +kernel
theorem dX9_howManyThere_3 : decode cX9_howManyThere 3 = .ok (.astore_n 2, 1) := by decide +kernel
theorem dX9_howManyThere_4 : decode cX9_howManyThere 4 = .ok (.aload_n 2, 1) := by decide +kernel
theorem dX9_howManyThere_5 : decode cX9_howManyThere 5 = .ok (.arraylength, 1) := by decide +kernel
theorem dX9_howManyThere_6 : decode cX9_howManyThere 6 = .ok (.istore_n 3, 1) := by decide +kernel
theorem dX9_howManyThere_7 : decode cX9_howManyThere 7 = .ok (.iconst 0, 1) := by decide +kernel
theorem dX9_howManyThere_8 : decode cX9_howManyThere 8 = .ok (.istore 4, 2) := by decide +kernel
theorem dX9_howManyThere_10 : decode cX9_howManyThere 10 = .ok (.iload 4, 2) := by decide +kernel
theorem dX9_howManyThere_12 : decode cX9_howManyThere 12 = .ok (.iload_n 3, 1) := by decide +kernel
theorem dX9_howManyThere_13 : decode cX9_howManyThere 13 = .ok (.if_icmp .ge 24, 3) := by decide +kernel
theorem dX9_howManyThere_16 : decode cX9_howManyThere 16 = .ok (.aload_n 2, 1) := by decide +kernel
theorem dX9_howManyThere_17 : decode cX9_howManyThere 17 = .ok (.iload 4, 2) := by decide +kernel
theorem dX9_howManyThere_19 : decode cX9_howManyThere 19 = .ok (.iaload, 1) := by decide +kernel
theorem dX9_howManyThere_20 : decode cX9_howManyThere 20 = .ok (.istore 5, 2) := by decide +kernel
theorem dX9_howManyThere_22 : decode cX9_howManyThere 22 = .ok (.iload 5, 2) := by decide +kernel
theorem dX9_howManyThere_24 : decode cX9_howManyThere 24 = .ok (.iconst (-1), 1) := by decide +kernel
theorem dX9_howManyThere_25 : decode cX9_howManyThere 25 = .ok (.if_icmp .eq 6, 3) := by decide +kernel
theorem dX9_howManyThere_28 : decode cX9_howManyThere 28 = .ok (.iinc 1 1, 3) := by decide +kernel
theorem dX9_howManyThere_31 : decode cX9_howManyThere 31 = .ok (.iinc 4 1, 3) := by decide +kernel
theorem dX9_howManyThere_34 : decode cX9_howManyThere 34 = .ok (.goto (-24), 3) := by decide +kernel
theorem dX9_howManyThere_37 : decode cX9_howManyThere 37 = .ok (.iload_n 1, 1) := by decide +kernel
theorem dX9_howManyThere_38 : decode cX9_howManyThere 38 = .ok (.ireturn, 1) := by decide +kernel
theorem dX9_howManyKept_0 : decode cX9_howManyKept 0 = .ok (.iconst 0, 1) := by decide +kernel
theorem dX9_howManyKept_1 : decode cX9_howManyKept 1 = .ok (.istore_n 1, 1) := by decide +kernel
theorem dX9_howManyKept_2 : decode cX9_howManyKept 2 = .ok (.aload_n 0, 1) := by decide +kernel
theorem dX9_howManyKept_3 : decode cX9_howManyKept 3 = .ok (.getfield 35, 3) := by decide +kernel
theorem dX9_howManyKept_6 : decode cX9_howManyKept 6 = .ok (.astore_n 2, 1) := by decide +kernel
theorem dX9_howManyKept_7 : decode cX9_howManyKept 7 = .ok (.aload_n 2, 1) := by decide +kernel
theorem dX9_howManyKept_8 : decode cX9_howManyKept 8 = .ok (.arraylength, 1) := by decide +kernel
theorem dX9_howManyKept_9 : decode cX9_howManyKept 9 = .ok (.istore_n 3, 1) := by decide +kernel
theorem dX9_howManyKept_10 : decode cX9_howManyKept 10 = .ok (.iconst 0, 1) := by decide +kernel
theorem dX9_howManyKept_11 : decode cX9_howManyKept 11 = .ok (.istore 4, 2) := by decide +kernel
theorem dX9_howManyKept_13 : decode cX9_howManyKept 13 = .ok (.iload 4, 2) := by decide +kernel
theorem dX9_howManyKept_15 : decode cX9_howManyKept 15 = .ok (.iload_n 3, 1) := by decide +kernel
theorem dX9_howManyKept_16 : decode cX9_howManyKept 16 = .ok (.if_icmp .ge 27, 3) := by decide +kernel
theorem dX9_howManyKept_19 : decode cX9_howManyKept 19 = .ok (.aload_n 2, 1) := by decide +kernel
theorem dX9_howManyKept_20 : decode cX9_howManyKept 20 = .ok (.iload 4, 2) := by decide +kernel
theorem dX9_howManyKept_22 : decode cX9_howManyKept 22 = .ok (.aaload, 1) := by decide +kernel
theorem dX9_howManyKept_23 : decode cX9_howManyKept 23 = .ok (.astore 5, 2) := by decide +kernel
theorem dX9_howManyKept_25 : decode cX9_howManyKept 25 = .ok (.aload 5, 2) := by decide +kernel
theorem dX9_howManyKept_27 : decode cX9_howManyKept 27 = .ok (.getfield 124, 3) := by decide +kernel
theorem dX9_howManyKept_30 : decode cX9_howManyKept 30 = .ok (.iconst (-1), 1) := by decide +kernel
theorem dX9_howManyKept_31 : decode cX9_howManyKept 31 = .ok (.if_icmp .eq 6, 3) := by decide +kernel
theorem dX9_howManyKept_34 : decode cX9_howManyKept 34 = .ok (.iinc 1 1, 3) := by decide +kernel
theorem dX9_howManyKept_37 : decode cX9_howManyKept 37 = .ok (.iinc 4 1, 3) := by decide +kernel
theorem dX9_howManyKept_40 : decode cX9_howManyKept 40 = .ok (.goto (-27), 3) := by decide +kernel
theorem dX9_howManyKept_43 : decode cX9_howManyKept 43 = .ok (.iload_n 1, 1) := by decide +kernel
theorem dX9_howManyKept_44 : decode cX9_howManyKept 44 = .ok (.ireturn, 1) := by decide +kernel
theorem dX10_init_0 : decode cX10_init 0 = .ok (.aload_n 0, 1) := by decide +kernel
theorem dX10_init_1 : decode cX10_init 1 = .ok (.invokespecial 1, 3) := by decide +kernel
theorem dX10_init_4 : decode cX10_init 4 = .ok (.aload_n 0, 1) := by decide +kernel
theorem dX10_init_5 : decode cX10_init 5 = .ok (.sipush 2805, 3) := by decide +kernel
theorem dX10_init_8 : decode cX10_init 8 = .ok (.newarray .int, 2) := by decide +kernel
theorem dX10_init_10 : decode cX10_init 10 = .ok (.putfield 7, 3) := by decide +kernel
theorem dX10_init_13 : decode cX10_init 13 = .ok (.aload_n 0, 1) := by decide +kernel
theorem dX10_init_14 : decode cX10_init 14 = .ok (.bipush 6, 2) := by decide +kernel
theorem dX10_init_16 : decode cX10_init 16 = .ok (.newarray .int, 2) := by decide +kernel
theorem dX10_init_18 : decode cX10_init 18 = .ok (.putfield 13, 3) := by decide +kernel
theorem dX10_init_21 : decode cX10_init 21 = .ok (.aload_n 0, 1) := by decide +kernel
theorem dX10_init_22 : decode cX10_init 22 = .ok (.iconst 3, 1) := by decide +kernel
theorem dX10_init_23 : decode cX10_init 23 = .ok (.newarray .int, 2) := by decide +kernel
theorem dX10_init_25 : decode cX10_init 25 = .ok (.putfield 16, 3) := by decide +kernel
theorem dX10_init_28 : decode cX10_init 28 = .ok (.aload_n 0, 1) := by decide +kernel
theorem dX10_init_29 : decode cX10_init 29 = .ok (.sipush 240, 3) := by decide +kernel
theorem dX10_init_32 : decode cX10_init 32 = .ok (.newarray .int, 2) := by decide +kernel
theorem dX10_init_34 : decode cX10_init 34 = .ok (.putfield 19, 3) := by decide +kernel
theorem dX10_init_37 : decode cX10_init 37 = .ok (.aload_n 0, 1) := by decide +kernel
theorem dX10_init_38 : decode cX10_init 38 = .ok (.bipush 6, 2) := by decide +kernel
theorem dX10_init_40 : decode cX10_init 40 = .ok (.newarray .int, 2) := by decide +kernel
theorem dX10_init_42 : decode cX10_init 42 = .ok (.putfield 22, 3) := by decide +kernel
theorem dX10_init_45 : decode cX10_init 45 = .ok (.aload_n 0, 1) := by decide +kernel
theorem dX10_init_46 : decode cX10_init 46 = .ok (.sipush 240, 3) := by decide +kernel
theorem dX10_init_49 : decode cX10_init 49 = .ok (.newarray .int, 2) := by decide +kernel
theorem dX10_init_51 : decode cX10_init 51 = .ok (.putfield 25, 3) := by decide +kernel
theorem dX10_init_54 : decode cX10_init 54 = .ok (.aload_n 0, 1) := by decide +kernel
theorem dX10_init_55 : decode cX10_init 55 = .ok (.iconst 4, 1) := by decide +kernel
theorem dX10_init_56 : decode cX10_init 56 = .ok (.newarray .int, 2) := by decide +kernel
theorem dX10_init_58 : decode cX10_init 58 = .ok (.putfield 28, 3) := by decide +kernel
theorem dX10_init_61 : decode cX10_init 61 = .ok (.aload_n 0, 1) := by decide +kernel
theorem dX10_init_62 : decode cX10_init 62 = .ok (.bipush 6, 2) := by decide +kernel
theorem dX10_init_64 : decode cX10_init 64 = .ok (.newarray .int, 2) := by decide +kernel
theorem dX10_init_66 : decode cX10_init 66 = .ok (.putfield 31, 3) := by decide +kernel
theorem dX10_init_69 : decode cX10_init 69 = .ok (.aload_n 0, 1) := by decide +kernel
theorem dX10_init_70 : decode cX10_init 70 = .ok (.lconst 1, 1) := by decide +kernel
theorem dX10_init_71 : decode cX10_init 71 = .ok (.putfield 34, 3) := by decide +kernel
theorem dX10_init_74 : decode cX10_init 74 = .ok (.aload_n 0, 1) := by decide +kernel
theorem dX10_init_75 : decode cX10_init 75 = .ok (.bipush 6, 2) := by decide +kernel
theorem dX10_init_77 : decode cX10_init 77 = .ok (.newarray .int, 2) := by decide +kernel
theorem dX10_init_79 : decode cX10_init 79 = .ok (.putfield 38, 3) := by decide +kernel
theorem dX10_init_82 : decode cX10_init 82 = .ok (.aload_n 0, 1) := by decide +kernel
theorem dX10_init_83 : decode cX10_init 83 = .ok (.bipush 6, 2) := by decide +kernel
theorem dX10_init_85 : decode cX10_init 85 = .ok (.newarray .int, 2) := by decide +kernel
theorem dX10_init_87 : decode cX10_init 87 = .ok (.putfield 41, 3) := by decide +kernel
theorem dX10_init_90 : decode cX10_init 90 = .ok (.aload_n 0, 1) := by decide +kernel
theorem dX10_init_91 : decode cX10_init 91 = .ok (.bipush 6, 2) := by decide +kernel
theorem dX10_init_93 : decode cX10_init 93 = .ok (.newarray .int, 2) := by decide +kernel
theorem dX10_init_95 : decode cX10_init 95 = .ok (.putfield 44, 3) := by decide +kernel
theorem dX10_init_98 : decode cX10_init 98 = .ok (.aload_n 0, 1) := by decide +kernel
theorem dX10_init_99 : decode cX10_init 99 = .ok (.bipush 31, 2) := by decide +kernel
theorem dX10_init_101 : decode cX10_init 101 = .ok (.newarray .int, 2) := by decide +kernel
theorem dX10_init_103 : decode cX10_init 103 = .ok (.putfield 47, 3) := by decide +kernel
theorem dX10_init_106 : decode cX10_init 106 = .ok (.aload_n 0, 1) := by decide +kernel
theorem dX10_init_107 : decode cX10_init 107 = .ok (.bipush 81, 2) := by decide +kernel
theorem dX10_init_109 : decode cX10_init 109 = .ok (.newarray .int, 2) := by decide +kernel
theorem dX10_init_111 : decode cX10_init 111 = .ok (.putfield 50, 3) := by decide +kernel
theorem dX10_init_114 : decode cX10_init 114 = .ok (.iconst 0, 1) := by decide +kernel
theorem dX10_init_115 : decode cX10_init 115 = .ok (.istore_n 1, 1) := by decide +kernel
theorem dX10_init_116 : decode cX10_init 116 = .ok (.iload_n 1, 1) := by decide +kernel
theorem dX10_init_117 : decode cX10_init 117 = .ok (.bipush 6, 2) := by decide +kernel
theorem dX10_init_119 : decode cX10_init 119 = .ok (.if_icmp .ge 17, 3) := by decide +kernel
theorem dX10_init_122 : decode cX10_init 122 = .ok (.aload_n 0, 1) := by decide +kernel
theorem dX10_init_123 : decode cX10_init 123 = .ok (.getfield 22, 3) := by decide +kernel
theorem dX10_init_126 : decode cX10_init 126 = .ok (.iload_n 1, 1) := by decide +kernel
theorem dX10_init_127 : decode cX10_init 127 = .ok (.bipush (-9), 2) := by decide +kernel
theorem dX10_init_129 : decode cX10_init 129 = .ok (.iastore, 1) := by decide +kernel
theorem dX10_init_130 : decode cX10_init 130 = .ok (.iinc 1 1, 3) := by decide +kernel
theorem dX10_init_133 : decode cX10_init 133 = .ok (.goto (-17), 3) := by decide +kernel
theorem dX10_init_136 : decode cX10_init 136 = .ok (.iconst 0, 1) := by decide +kernel
theorem dX10_init_137 : decode cX10_init 137 = .ok (.istore_n 1, 1) := by decide +kernel
theorem dX10_init_138 : decode cX10_init 138 = .ok (.iload_n 1, 1) := by decide +kernel
theorem dX10_init_139 : decode cX10_init 139 = .ok (.iconst 4, 1) := by decide +kernel
theorem dX10_init_140 : decode cX10_init 140 = .ok (.if_icmp .ge 17, 3) := by decide +kernel
theorem dX10_init_143 : decode cX10_init 143 = .ok (.aload_n 0, 1) := by decide +kernel
theorem dX10_init_144 : decode cX10_init 144 = .ok (.getfield 28, 3) := by decide +kernel
theorem dX10_init_147 : decode cX10_init 147 = .ok (.iload_n 1, 1) := by decide +kernel
theorem dX10_init_148 : decode cX10_init 148 = .ok (.bipush (-9), 2) := by decide +kernel
theorem dX10_init_150 : decode cX10_init 150 = .ok (.iastore, 1) := by decide +kernel
theorem dX10_init_151 : decode cX10_init 151 = .ok (.iinc 1 1, 3) := by decide +kernel
theorem dX10_init_154 : decode cX10_init 154 = .ok (.goto (-16), 3) := by decide +kernel
theorem dX10_init_157 : decode cX10_init 157 = .ok (.aload_n 0, 1) := by decide +kernel
theorem dX10_init_158 : decode cX10_init 158 = .ok (.invokevirtual 53, 3) := by decide +kernel
theorem dX10_init_161 : decode cX10_init 161 = .ok (.aload_n 0, 1) := by decide +kernel
theorem dX10_init_162 : decode cX10_init 162 = .ok (.getfield 7, 3) := by decide +kernel
theorem dX10_init_165 : decode cX10_init 165 = .ok (.bipush 14, 2) := by decide +kernel
theorem dX10_init_167 : decode cX10_init 167 = .ok (.iconst 1, 1) := by decide +kernel
theorem dX10_init_168 : decode cX10_init 168 = .ok (.iastore, 1) := by decide +kernel
theorem dX10_init_169 : decode cX10_init 169 = .ok (.return_, 1) := by decide +kernel
theorem dX10_in_0 : decode cX10_in 0 = .ok (.iload_n 0, 1) := by decide +kernel
theorem dX10_in_1 : decode cX10_in 1 = .ok (.iload_n 1, 1) := by decide +kernel
theorem dX10_in_2 : decode cX10_in 2 = .ok (.if_icmp .lt 12, 3) := by decide +kernel
theorem dX10_in_5 : decode cX10_in 5 = .ok (.iload_n 0, 1) := by decide +kernel
theorem dX10_in_6 : decode cX10_in 6 = .ok (.iload_n 2, 1) := by decide +kernel
theorem dX10_in_7 : decode cX10_in 7 = .ok (.if_icmp .gt 7, 3) := by decide +kernel
theorem dX10_in_10 : decode cX10_in 10 = .ok (.iconst 1, 1) := by decide +kernel
theorem dX10_in_11 : decode cX10_in 11 = .ok (.goto 4, 3) := by decide +kernel
theorem dX10_in_14 : decode cX10_in 14 = .ok (.iconst 0, 1) := by decide +kernel
theorem dX10_in_15 : decode cX10_in 15 = .ok (.ireturn, 1) := by decide +kernel
theorem dX10_has_0 : decode cX10_has 0 = .ok (.iload_n 0, 1) := by decide +kernel
theorem dX10_has_1 : decode cX10_has 1 = .ok (.iload_n 1, 1) := by decide +kernel
theorem dX10_has_2 : decode cX10_has 2 = .ok (.ishr, 1) := by decide +kernel
theorem dX10_has_3 : decode cX10_has 3 = .ok (.iconst 1, 1) := by decide +kernel
theorem dX10_has_4 : decode cX10_has 4 = .ok (.iand, 1) := by decide +kernel
theorem dX10_has_5 : decode cX10_has 5 = .ok (.iconst 1, 1) := by decide +kernel
theorem dX10_has_6 : decode cX10_has 6 = .ok (.if_icmp .ne 7, 3) := by decide +kernel
theorem dX10_has_9 : decode cX10_has 9 = .ok (.iconst 1, 1) := by decide +kernel
theorem dX10_has_10 : decode cX10_has 10 = .ok (.goto 4, 3) := by decide +kernel
theorem dX10_has_13 : decode cX10_has 13 = .ok (.iconst 0, 1) := by decide +kernel
theorem dX10_has_14 : decode cX10_has 14 = .ok (.ireturn, 1) := by decide +kernel
theorem dX10_find_0 : decode cX10_find 0 = .ok (.aload_n 0, 1) := by decide +kernel
theorem dX10_find_1 : decode cX10_find 1 = .ok (.iload_n 1, 1) := by decide +kernel
theorem dX10_find_2 : decode cX10_find 2 = .ok (.putfield 56, 3) := by decide +kernel
theorem dX10_find_5 : decode cX10_find 5 = .ok (.aload_n 0, 1) := by decide +kernel
theorem dX10_find_6 : decode cX10_find 6 = .ok (.getfield 31, 3) := by decide +kernel
theorem dX10_find_9 : decode cX10_find 9 = .ok (.iload_n 1, 1) := by decide +kernel
theorem dX10_find_10 : decode cX10_find 10 = .ok (.dup2, 1) := by decide +kernel
theorem dX10_find_11 : decode cX10_find 11 = .ok (.iaload, 1) := by decide +kernel
theorem dX10_find_12 : decode cX10_find 12 = .ok (.iconst 1, 1) := by decide +kernel
theorem dX10_find_13 : decode cX10_find 13 = .ok (.iadd, 1) := by decide +kernel
theorem dX10_find_14 : decode cX10_find 14 = .ok (.iastore, 1) := by decide +kernel
theorem dX10_find_15 : decode cX10_find 15 = .ok (.bipush (-3), 2) := by decide +kernel
theorem dX10_find_17 : decode cX10_find 17 = .ok (.ireturn, 1) := by decide +kernel
theorem dX10_tell_0 : decode cX10_tell 0 = .ok (.aload_n 0, 1) := by decide +kernel
theorem dX10_tell_1 : decode cX10_tell 1 = .ok (.iload_n 1, 1) := by decide +kernel
theorem dX10_tell_2 : decode cX10_tell 2 = .ok (.putfield 60, 3) := by decide +kernel
theorem dX10_tell_5 : decode cX10_tell 5 = .ok (.iconst 1, 1) := by decide +kernel
theorem dX10_tell_6 : decode cX10_tell 6 = .ok (.ireturn, 1) := by decide +kernel
theorem dX10_forgetKept_0 : decode cX10_forgetKept 0 = .ok (.iconst 0, 1) := by decide +kernel
theorem dX10_forgetKept_1 : decode cX10_forgetKept 1 = .ok (.istore_n 1, 1) := by decide +kernel
theorem dX10_forgetKept_2 : decode cX10_forgetKept 2 = .ok (.iload_n 1, 1) := by decide +kernel
theorem dX10_forgetKept_3 : decode cX10_forgetKept 3 = .ok (.iconst 3, 1) := by decide +kernel
theorem dX10_forgetKept_4 : decode cX10_forgetKept 4 = .ok (.if_icmp .ge 17, 3) := by decide +kernel
theorem dX10_forgetKept_7 : decode cX10_forgetKept 7 = .ok (.aload_n 0, 1) := by decide +kernel
theorem dX10_forgetKept_8 : decode cX10_forgetKept 8 = .ok (.getfield 16, 3) := by decide +kernel
theorem dX10_forgetKept_11 : decode cX10_forgetKept 11 = .ok (.iload_n 1, 1) := by decide +kernel
theorem dX10_forgetKept_12 : decode cX10_forgetKept 12 = .ok (.bipush (-9), 2) := by decide +kernel
theorem dX10_forgetKept_14 : decode cX10_forgetKept 14 = .ok (.iastore, 1) := by decide +kernel
theorem dX10_forgetKept_15 : decode cX10_forgetKept 15 = .ok (.iinc 1 1, 3) := by decide +kernel
theorem dX10_forgetKept_18 : decode cX10_forgetKept 18 = .ok (.goto (-16), 3) := by decide +kernel
theorem dX10_forgetKept_21 : decode cX10_forgetKept 21 = .ok (.return_, 1) := by decide +kernel
theorem dX10_isRow_0 : decode cX10_isRow 0 = .ok (.iload_n 0, 1) := by decide +kernel
theorem dX10_isRow_1 : decode cX10_isRow 1 = .ok (.iconst 0, 1) := by decide +kernel
theorem dX10_isRow_2 : decode cX10_isRow 2 = .ok (.iconst 5, 1) := by decide +kernel
theorem dX10_isRow_3 : decode cX10_isRow 3 = .ok (.invokestatic 63, 3) := by decide +kernel
theorem dX10_isRow_6 : decode cX10_isRow 6 = .ok (.ireturn, 1) := by decide +kernel
theorem dX10_row_0 : decode cX10_row 0 = .ok (.iload_n 1, 1) := by decide +kernel
theorem dX10_row_1 : decode cX10_row 1 = .ok (.invokestatic 67, 3) := by decide +kernel
theorem dX10_row_4 : decode cX10_row 4 = .ok (.ifCond .eq 9, 3) := by decide +kernel
theorem dX10_row_7 : decode cX10_row 7 = .ok (.iload_n 2, 1) := by decide +kernel
theorem dX10_row_8 : decode cX10_row 8 = .ok (.bipush 40, 2) := by decide +kernel
theorem dX10_row_10 : decode cX10_row 10 = .ok (.if_icmp .le 5, 3) := by decide +kernel
theorem dX10_row_13 : decode cX10_row 13 = .ok (.iconst (-1), 1) := by decide +kernel
theorem dX10_row_14 : decode cX10_row 14 = .ok (.ireturn, 1) := by decide +kernel
theorem dX10_row_15 : decode cX10_row 15 = .ok (.iload_n 2, 1) := by decide +kernel
theorem dX10_row_16 : decode cX10_row 16 = .ok (.ifCond .ge 9, 3) := by decide +kernel
theorem dX10_row_19 : decode cX10_row 19 = .ok (.aload_n 0, 1) := by decide +kernel
theorem dX10_row_20 : decode cX10_row 20 = .ok (.iconst 5, 1) := by decide +kernel
theorem dX10_row_21 : decode cX10_row 21 = .ok (.invokevirtual 71, 3) := by decide +kernel
theorem dX10_row_24 : decode cX10_row 24 = .ok (.ireturn, 1) := by decide +kernel
theorem dX10_row_25 : decode cX10_row 25 = .ok (.iconst 0, 1) := by decide +kernel
theorem dX10_row_26 : decode cX10_row 26 = .ok (.istore_n 3, 1) := by decide +kernel
theorem dX10_row_27 : decode cX10_row 27 = .ok (.iload_n 3, 1) := by decide +kernel
theorem dX10_row_28 : decode cX10_row 28 = .ok (.iload_n 2, 1) := by decide +kernel
theorem dX10_row_29 : decode cX10_row 29 = .ok (.if_icmp .ge 21, 3) := by decide +kernel
theorem dX10_row_32 : decode cX10_row 32 = .ok (.aload_n 0, 1) := by decide +kernel
theorem dX10_row_33 : decode cX10_row 33 = .ok (.getfield 19, 3) := by decide +kernel
theorem dX10_row_36 : decode cX10_row 36 = .ok (.bipush 40, 2) := by decide +kernel
theorem dX10_row_38 : decode cX10_row 38 = .ok (.iload_n 1, 1) := by decide +kernel
theorem dX10_row_39 : decode cX10_row 39 = .ok (.imul, 1) := by decide +kernel
theorem dX10_row_40 : decode cX10_row 40 = .ok (.iload_n 3, 1) := by decide +kernel
theorem dX10_row_41 : decode cX10_row 41 = .ok (.iadd, 1) := by decide +kernel
theorem dX10_row_42 : decode cX10_row 42 = .ok (.iconst 0, 1) := by decide +kernel
theorem dX10_row_43 : decode cX10_row 43 = .ok (.iastore, 1) := by decide +kernel
theorem dX10_row_44 : decode cX10_row 44 = .ok (.iinc 3 1, 3) := by decide +kernel
theorem dX10_row_47 : decode cX10_row 47 = .ok (.goto (-20), 3) := by decide +kernel
theorem dX10_row_50 : decode cX10_row 50 = .ok (.aload_n 0, 1) := by decide +kernel
theorem dX10_row_51 : decode cX10_row 51 = .ok (.getfield 22, 3) := by decide +kernel
theorem dX10_row_54 : decode cX10_row 54 = .ok (.iload_n 1, 1) := by decide +kernel
theorem dX10_row_55 : decode cX10_row 55 = .ok (.iload_n 2, 1) := by decide +kernel
theorem dX10_row_56 : decode cX10_row 56 = .ok (.iastore, 1) := by decide +kernel
theorem dX10_row_57 : decode cX10_row 57 = .ok (.iload_n 2, 1) := by decide +kernel
theorem dX10_row_58 : decode cX10_row 58 = .ok (.ireturn, 1) := by decide +kernel
theorem dX10_wrongPlace_0 : decode cX10_wrongPlace 0 = .ok (.aload_n 0, 1) := by decide +kernel
theorem dX10_wrongPlace_1 : decode cX10_wrongPlace 1 = .ok (.getfield 22, 3) := by decide +kernel
theorem dX10_wrongPlace_4 : decode cX10_wrongPlace 4 = .ok (.iload_n 1, 1) := by decide +kernel
theorem dX10_wrongPlace_5 : decode cX10_wrongPlace 5 = .ok (.iaload, 1) := by decide +kernel
theorem dX10_wrongPlace_6 : decode cX10_wrongPlace 6 = .ok (.bipush (-9), 2) := by decide +kernel
theorem dX10_wrongPlace_8 : decode cX10_wrongPlace 8 = .ok (.if_icmp .ne 7, 3) := by decide +kernel
theorem dX10_wrongPlace_11 : decode cX10_wrongPlace 11 = .ok (.iconst 1, 1) := by decide +kernel
theorem dX10_wrongPlace_12 : decode cX10_wrongPlace 12 = .ok (.goto 24, 3) := by decide +kernel
theorem dX10_wrongPlace_15 : decode cX10_wrongPlace 15 = .ok (.iload_n 2, 1) := by decide +kernel
theorem dX10_wrongPlace_16 : decode cX10_wrongPlace 16 = .ok (.iconst 0, 1) := by decide +kernel
theorem dX10_wrongPlace_17 : decode cX10_wrongPlace 17 = .ok (.aload_n 0, 1) := by decide +kernel
theorem dX10_wrongPlace_18 : decode cX10_wrongPlace 18 = .ok (.getfield 22, 3) := by decide +kernel
theorem dX10_wrongPlace_21 : decode cX10_wrongPlace 21 = .ok (.iload_n 1, 1) := by decide +kernel
theorem dX10_wrongPlace_22 : decode cX10_wrongPlace 22 = .ok (.iaload, 1) := by decide +kernel
theorem dX10_wrongPlace_23 : decode cX10_wrongPlace 23 = .ok (.iconst 1, 1) := by decide +kernel
theorem dX10_wrongPlace_24 : decode cX10_wrongPlace 24 = .ok (.isub, 1) := by decide +kernel
theorem dX10_wrongPlace_25 : decode cX10_wrongPlace 25 = .ok (.invokestatic 63, 3) := by decide +kernel
theorem dX10_wrongPlace_28 : decode cX10_wrongPlace 28 = .ok (.ifCond .eq 7, 3) := by decide +kernel
theorem dX10_wrongPlace_31 : decode cX10_wrongPlace 31 = .ok (.iconst 0, 1) := by decide +kernel
theorem dX10_wrongPlace_32 : decode cX10_wrongPlace 32 = .ok (.goto 4, 3) := by decide +kernel
theorem dX10_wrongPlace_35 : decode cX10_wrongPlace 35 = .ok (.iconst 2, 1) := by decide +kernel
theorem dX10_wrongPlace_36 : decode cX10_wrongPlace 36 = .ok (.ireturn, 1) := by decide +kernel
theorem dX10_lay_0 : decode cX10_lay 0 = .ok (.iload_n 1, 1) := by decide +kernel
theorem dX10_lay_1 : decode cX10_lay 1 = .ok (.invokestatic 67, 3) := by decide +kernel
theorem dX10_lay_4 : decode cX10_lay 4 = .ok (.ifCond .ne 5, 3) := by decide +kernel
theorem dX10_lay_7 : decode cX10_lay 7 = .ok (.iconst (-1), 1) := by decide +kernel
theorem dX10_lay_8 : decode cX10_lay 8 = .ok (.ireturn, 1) := by decide +kernel
theorem dX10_lay_9 : decode cX10_lay 9 = .ok (.aload_n 0, 1) := by decide +kernel
theorem dX10_lay_10 : decode cX10_lay 10 = .ok (.iload_n 1, 1) := by decide +kernel
theorem dX10_lay_11 : decode cX10_lay 11 = .ok (.iload_n 2, 1) := by decide +kernel
theorem dX10_lay_12 : decode cX10_lay 12 = .ok (.invokevirtual 75, 3) := by decide +kernel
theorem dX10_lay_15 : decode cX10_lay 15 = .ok (.ifCond .le 14, 3) := by decide +kernel
theorem dX10_lay_18 : decode cX10_lay 18 = .ok (.aload_n 0, 1) := by decide +kernel
theorem dX10_lay_19 : decode cX10_lay 19 = .ok (.aload_n 0, 1) := by decide +kernel
theorem dX10_lay_20 : decode cX10_lay 20 = .ok (.iload_n 1, 1) := by decide +kernel
theorem dX10_lay_21 : decode cX10_lay 21 = .ok (.iload_n 2, 1) := by decide +kernel
theorem dX10_lay_22 : decode cX10_lay 22 = .ok (.invokevirtual 75, 3) := by decide +kernel
theorem dX10_lay_25 : decode cX10_lay 25 = .ok (.invokevirtual 71, 3) := by decide +kernel
theorem dX10_lay_28 : decode cX10_lay 28 = .ok (.ireturn, 1) := by decide +kernel
theorem dX10_lay_29 : decode cX10_lay 29 = .ok (.aload_n 0, 1) := by decide +kernel
theorem dX10_lay_30 : decode cX10_lay 30 = .ok (.getfield 19, 3) := by decide +kernel
theorem dX10_lay_33 : decode cX10_lay 33 = .ok (.bipush 40, 2) := by decide +kernel
theorem dX10_lay_35 : decode cX10_lay 35 = .ok (.iload_n 1, 1) := by decide +kernel
theorem dX10_lay_36 : decode cX10_lay 36 = .ok (.imul, 1) := by decide +kernel
theorem dX10_lay_37 : decode cX10_lay 37 = .ok (.iload_n 2, 1) := by decide +kernel
theorem dX10_lay_38 : decode cX10_lay 38 = .ok (.iadd, 1) := by decide +kernel
theorem dX10_lay_39 : decode cX10_lay 39 = .ok (.iaload, 1) := by decide +kernel
theorem dX10_lay_40 : decode cX10_lay 40 = .ok (.istore 4, 2) := by decide +kernel
theorem dX10_lay_42 : decode cX10_lay 42 = .ok (.aload_n 0, 1) := by decide +kernel
theorem dX10_lay_43 : decode cX10_lay 43 = .ok (.getfield 19, 3) := by decide +kernel
theorem dX10_lay_46 : decode cX10_lay 46 = .ok (.bipush 40, 2) := by decide +kernel
theorem dX10_lay_48 : decode cX10_lay 48 = .ok (.iload_n 1, 1) := by decide +kernel
theorem dX10_lay_49 : decode cX10_lay 49 = .ok (.imul, 1) := by decide +kernel
theorem dX10_lay_50 : decode cX10_lay 50 = .ok (.iload_n 2, 1) := by decide +kernel
theorem dX10_lay_51 : decode cX10_lay 51 = .ok (.iadd, 1) := by decide +kernel
theorem dX10_lay_52 : decode cX10_lay 52 = .ok (.iload_n 3, 1) := by decide +kernel
theorem dX10_lay_53 : decode cX10_lay 53 = .ok (.iastore, 1) := by decide +kernel
theorem dX10_lay_54 : decode cX10_lay 54 = .ok (.aload_n 0, 1) := by decide +kernel
theorem dX10_lay_55 : decode cX10_lay 55 = .ok (.iload 4, 2) := by decide +kernel
theorem dX10_lay_57 : decode cX10_lay 57 = .ok (.invokevirtual 79, 3) := by decide +kernel
theorem dX10_lay_60 : decode cX10_lay 60 = .ok (.ireturn, 1) := by decide +kernel
theorem dX10_at_0 : decode cX10_at 0 = .ok (.iload_n 1, 1) := by decide +kernel
theorem dX10_at_1 : decode cX10_at 1 = .ok (.invokestatic 67, 3) := by decide +kernel
theorem dX10_at_4 : decode cX10_at 4 = .ok (.ifCond .ne 5, 3) := by decide +kernel
theorem dX10_at_7 : decode cX10_at 7 = .ok (.iconst (-1), 1) := by decide +kernel
theorem dX10_at_8 : decode cX10_at 8 = .ok (.ireturn, 1) := by decide +kernel
theorem dX10_at_9 : decode cX10_at 9 = .ok (.aload_n 0, 1) := by decide +kernel
theorem dX10_at_10 : decode cX10_at 10 = .ok (.iload_n 1, 1) := by decide +kernel
theorem dX10_at_11 : decode cX10_at 11 = .ok (.iload_n 2, 1) := by decide +kernel
theorem dX10_at_12 : decode cX10_at 12 = .ok (.invokevirtual 75, 3) := by decide +kernel
theorem dX10_at_15 : decode cX10_at 15 = .ok (.ifCond .le 16, 3) := by decide +kernel
theorem dX10_at_18 : decode cX10_at 18 = .ok (.aload_n 0, 1) := by decide +kernel
theorem dX10_at_19 : decode cX10_at 19 = .ok (.aload_n 0, 1) := by decide +kernel
theorem dX10_at_20 : decode cX10_at 20 = .ok (.iload_n 1, 1) := by decide +kernel
theorem dX10_at_21 : decode cX10_at 21 = .ok (.iload_n 2, 1) := by decide +kernel
theorem dX10_at_22 : decode cX10_at 22 = .ok (.invokevirtual 75, 3) := by decide +kernel
theorem dX10_at_25 : decode cX10_at 25 = .ok (.invokevirtual 71, 3) := by decide +kernel
theorem dX10_at_28 : decode cX10_at 28 = .ok (.goto 18, 3) := by decide +kernel
theorem dX10_at_31 : decode cX10_at 31 = .ok (.aload_n 0, 1) := by decide +kernel
theorem dX10_at_32 : decode cX10_at 32 = .ok (.aload_n 0, 1) := by decide +kernel
theorem dX10_at_33 : decode cX10_at 33 = .ok (.getfield 19, 3) := by decide +kernel
theorem dX10_at_36 : decode cX10_at 36 = .ok (.bipush 40, 2) := by decide +kernel
theorem dX10_at_38 : decode cX10_at 38 = .ok (.iload_n 1, 1) := by decide +kernel
theorem dX10_at_39 : decode cX10_at 39 = .ok (.imul, 1) := by decide +kernel
theorem dX10_at_40 : decode cX10_at 40 = .ok (.iload_n 2, 1) := by decide +kernel
theorem dX10_at_41 : decode cX10_at 41 = .ok (.iadd, 1) := by decide +kernel
theorem dX10_at_42 : decode cX10_at 42 = .ok (.iaload, 1) := by decide +kernel
theorem dX10_at_43 : decode cX10_at 43 = .ok (.invokevirtual 79, 3) := by decide +kernel
theorem dX10_at_46 : decode cX10_at 46 = .ok (.ireturn, 1) := by decide +kernel
theorem dX10_tear_0 : decode cX10_tear 0 = .ok (.iload_n 1, 1) := by decide +kernel
theorem dX10_tear_1 : decode cX10_tear 1 = .ok (.invokestatic 67, 3) := by decide +kernel
theorem dX10_tear_4 : decode cX10_tear 4 = .ok (.ifCond .ne 5, 3) := by decide +kernel
theorem dX10_tear_7 : decode cX10_tear 7 = .ok (.iconst (-1), 1) := by decide +kernel
theorem dX10_tear_8 : decode cX10_tear 8 = .ok (.ireturn, 1) := by decide +kernel
theorem dX10_tear_9 : decode cX10_tear 9 = .ok (.aload_n 0, 1) := by decide +kernel
theorem dX10_tear_10 : decode cX10_tear 10 = .ok (.getfield 22, 3) := by decide +kernel
theorem dX10_tear_13 : decode cX10_tear 13 = .ok (.iload_n 1, 1) := by decide +kernel
theorem dX10_tear_14 : decode cX10_tear 14 = .ok (.iaload, 1) := by decide +kernel
theorem dX10_tear_15 : decode cX10_tear 15 = .ok (.bipush (-9), 2) := by decide +kernel
theorem dX10_tear_17 : decode cX10_tear 17 = .ok (.if_icmp .ne 9, 3) := by decide +kernel
theorem dX10_tear_20 : decode cX10_tear 20 = .ok (.aload_n 0, 1) := by decide +kernel
theorem dX10_tear_21 : decode cX10_tear 21 = .ok (.iconst 1, 1) := by decide +kernel
theorem dX10_tear_22 : decode cX10_tear 22 = .ok (.invokevirtual 71, 3) := by decide +kernel
theorem dX10_tear_25 : decode cX10_tear 25 = .ok (.ireturn, 1) := by decide +kernel
theorem dX10_tear_26 : decode cX10_tear 26 = .ok (.aload_n 0, 1) := by decide +kernel
theorem dX10_tear_27 : decode cX10_tear 27 = .ok (.getfield 22, 3) := by decide +kernel
theorem dX10_tear_30 : decode cX10_tear 30 = .ok (.iload_n 1, 1) := by decide +kernel
theorem dX10_tear_31 : decode cX10_tear 31 = .ok (.bipush (-9), 2) := by decide +kernel
theorem dX10_tear_33 : decode cX10_tear 33 = .ok (.iastore, 1) := by decide +kernel
theorem dX10_tear_34 : decode cX10_tear 34 = .ok (.iconst 1, 1) := by decide +kernel
theorem dX10_tear_35 : decode cX10_tear 35 = .ok (.ireturn, 1) := by decide +kernel
theorem dX10_copy_0 : decode cX10_copy 0 = .ok (.iload_n 1, 1) := by decide +kernel
theorem dX10_copy_1 : decode cX10_copy 1 = .ok (.invokestatic 67, 3) := by decide +kernel
theorem dX10_copy_4 : decode cX10_copy 4 = .ok (.ifCond .eq 10, 3) := by decide +kernel
theorem dX10_copy_7 : decode cX10_copy 7 = .ok (.iload_n 3, 1) := by decide +kernel
theorem dX10_copy_8 : decode cX10_copy 8 = .ok (.invokestatic 67, 3) := by decide +kernel
theorem dX10_copy_11 : decode cX10_copy 11 = .ok (.ifCond .ne 5, 3) := by decide +kernel
theorem dX10_copy_14 : decode cX10_copy 14 = .ok (.iconst (-1), 1) := by decide +kernel
theorem dX10_copy_15 : decode cX10_copy 15 = .ok (.ireturn, 1) := by decide +kernel
theorem dX10_copy_16 : decode cX10_copy 16 = .ok (.iload 5, 2) := by decide +kernel
theorem dX10_copy_18 : decode cX10_copy 18 = .ok (.ifCond .ge 9, 3) := by decide +kernel
theorem dX10_copy_21 : decode cX10_copy 21 = .ok (.aload_n 0, 1) := by decide +kernel
theorem dX10_copy_22 : decode cX10_copy 22 = .ok (.iconst 5, 1) := by decide +kernel
theorem dX10_copy_23 : decode cX10_copy 23 = .ok (.invokevirtual 71, 3) := by decide +kernel
theorem dX10_copy_26 : decode cX10_copy 26 = .ok (.ireturn, 1) := by decide +kernel
theorem dX10_copy_27 : decode cX10_copy 27 = .ok (.aload_n 0, 1) := by decide +kernel
theorem dX10_copy_28 : decode cX10_copy 28 = .ok (.getfield 22, 3) := by decide +kernel
theorem dX10_copy_31 : decode cX10_copy 31 = .ok (.iload_n 1, 1) := by decide +kernel
theorem dX10_copy_32 : decode cX10_copy 32 = .ok (.iaload, 1) := by decide +kernel
theorem dX10_copy_33 : decode cX10_copy 33 = .ok (.bipush (-9), 2) := by decide +kernel
theorem dX10_copy_35 : decode cX10_copy 35 = .ok (.if_icmp .eq 14, 3) := by decide +kernel
theorem dX10_copy_38 : decode cX10_copy 38 = .ok (.aload_n 0, 1) := by decide +kernel
theorem dX10_copy_39 : decode cX10_copy 39 = .ok (.getfield 22, 3) := by decide +kernel
theorem dX10_copy_42 : decode cX10_copy 42 = .ok (.iload_n 3, 1) := by decide +kernel
theorem dX10_copy_43 : decode cX10_copy 43 = .ok (.iaload, 1) := by decide +kernel
theorem dX10_copy_44 : decode cX10_copy 44 = .ok (.bipush (-9), 2) := by decide +kernel
theorem dX10_copy_46 : decode cX10_copy 46 = .ok (.if_icmp .ne 9, 3) := by decide +kernel
theorem dX10_copy_49 : decode cX10_copy 49 = .ok (.aload_n 0, 1) := by decide +kernel
theorem dX10_copy_50 : decode cX10_copy 50 = .ok (.iconst 1, 1) := by decide +kernel
theorem dX10_copy_51 : decode cX10_copy 51 = .ok (.invokevirtual 71, 3) := by decide +kernel
theorem dX10_copy_54 : decode cX10_copy 54 = .ok (.ireturn, 1) := by decide +kernel
theorem dX10_copy_55 : decode cX10_copy 55 = .ok (.iload 5, 2) := by decide +kernel
theorem dX10_copy_57 : decode cX10_copy 57 = .ok (.bipush 40, 2) := by decide +kernel
theorem dX10_copy_59 : decode cX10_copy 59 = .ok (.if_icmp .gt 38, 3) := by decide +kernel
theorem dX10_copy_62 : decode cX10_copy 62 = .ok (.iload_n 2, 1) := by decide +kernel
theorem dX10_copy_63 : decode cX10_copy 63 = .ok (.iconst 0, 1) := by decide +kernel
theorem dX10_copy_64 : decode cX10_copy 64 = .ok (.aload_n 0, 1) := by decide +kernel
theorem dX10_copy_65 : decode cX10_copy 65 = .ok (.getfield 22, 3) := by decide +kernel
theorem dX10_copy_68 : decode cX10_copy 68 = .ok (.iload_n 1, 1) := by decide +kernel
theorem dX10_copy_69 : decode cX10_copy 69 = .ok (.iaload, 1) := by decide +kernel
theorem dX10_copy_70 : decode cX10_copy 70 = .ok (.iload 5, 2) := by decide +kernel
theorem dX10_copy_72 : decode cX10_copy 72 = .ok (.isub, 1) := by decide +kernel
theorem dX10_copy_73 : decode cX10_copy 73 = .ok (.invokestatic 63, 3) := by decide +kernel
theorem dX10_copy_76 : decode cX10_copy 76 = .ok (.ifCond .eq 21, 3) := by decide +kernel
theorem dX10_copy_79 : decode cX10_copy 79 = .ok (.iload 4, 2) := by decide +kernel
theorem dX10_copy_81 : decode cX10_copy 81 = .ok (.iconst 0, 1) := by decide +kernel
theorem dX10_copy_82 : decode cX10_copy 82 = .ok (.aload_n 0, 1) := by decide +kernel
theorem dX10_copy_83 : decode cX10_copy 83 = .ok (.getfield 22, 3) := by decide +kernel
theorem dX10_copy_86 : decode cX10_copy 86 = .ok (.iload_n 3, 1) := by decide +kernel
theorem dX10_copy_87 : decode cX10_copy 87 = .ok (.iaload, 1) := by decide +kernel
theorem dX10_copy_88 : decode cX10_copy 88 = .ok (.iload 5, 2) := by decide +kernel
theorem dX10_copy_90 : decode cX10_copy 90 = .ok (.isub, 1) := by decide +kernel
theorem dX10_copy_91 : decode cX10_copy 91 = .ok (.invokestatic 63, 3) := by decide +kernel
theorem dX10_copy_94 : decode cX10_copy 94 = .ok (.ifCond .ne 9, 3) := by decide +kernel
theorem dX10_copy_97 : decode cX10_copy 97 = .ok (.aload_n 0, 1) := by decide +kernel
theorem dX10_copy_98 : decode cX10_copy 98 = .ok (.iconst 2, 1) := by decide +kernel
theorem dX10_copy_99 : decode cX10_copy 99 = .ok (.invokevirtual 71, 3) := by decide +kernel
theorem dX10_copy_102 : decode cX10_copy 102 = .ok (.ireturn, 1) := by decide +kernel
theorem dX10_copy_103 : decode cX10_copy 103 = .ok (.iload_n 1, 1) := by decide +kernel
theorem dX10_copy_104 : decode cX10_copy 104 = .ok (.iload_n 3, 1) := by decide +kernel
theorem dX10_copy_105 : decode cX10_copy 105 = .ok (.if_icmp .ne 13, 3) := by decide +kernel
theorem dX10_copy_108 : decode cX10_copy 108 = .ok (.iload_n 2, 1) := by decide +kernel
theorem dX10_copy_109 : decode cX10_copy 109 = .ok (.iload 4, 2) := by decide +kernel
theorem dX10_copy_111 : decode cX10_copy 111 = .ok (.if_icmp .ge 7, 3) := by decide +kernel
theorem dX10_copy_114 : decode cX10_copy 114 = .ok (.iconst 1, 1) := by decide +kernel
theorem dX10_copy_115 : decode cX10_copy 115 = .ok (.goto 4, 3) := by decide +kernel
theorem dX10_copy_118 : decode cX10_copy 118 = .ok (.iconst 0, 1) := by decide +kernel
theorem dX10_copy_119 : decode cX10_copy 119 = .ok (.istore 6, 2) := by decide +kernel
theorem dX10_copy_121 : decode cX10_copy 121 = .ok (.iconst 0, 1) := by decide +kernel
theorem dX10_copy_122 : decode cX10_copy 122 = .ok (.istore 7, 2) := by decide +kernel
theorem dX10_copy_124 : decode cX10_copy 124 = .ok (.iload 7, 2) := by decide +kernel
theorem dX10_copy_126 : decode cX10_copy 126 = .ok (.iload 5, 2) := by decide +kernel
theorem dX10_copy_128 : decode cX10_copy 128 = .ok (.if_icmp .ge 57, 3) := by decide +kernel
theorem dX10_copy_131 : decode cX10_copy 131 = .ok (.iload 6, 2) := by decide +kernel
theorem dX10_copy_133 : decode cX10_copy 133 = .ok (.ifCond .eq 13, 3) := by decide +kernel
theorem dX10_copy_136 : decode cX10_copy 136 = .ok (.iload 5, 2) := by decide +kernel
theorem dX10_copy_138 : decode cX10_copy 138 = .ok (.iconst 1, 1) := by decide +kernel
theorem dX10_copy_139 : decode cX10_copy 139 = .ok (.isub, 1) := by decide +kernel
theorem dX10_copy_140 : decode cX10_copy 140 = .ok (.iload 7, 2) := by decide +kernel
theorem dX10_copy_142 : decode cX10_copy 142 = .ok (.isub, 1) := by decide +kernel
theorem dX10_copy_143 : decode cX10_copy 143 = .ok (.goto 5, 3) := by decide +kernel
theorem dX10_copy_146 : decode cX10_copy 146 = .ok (.iload 7, 2) := by decide +kernel
theorem dX10_copy_148 : decode cX10_copy 148 = .ok (.istore 8, 2) := by decide +kernel
theorem dX10_copy_150 : decode cX10_copy 150 = .ok (.aload_n 0, 1) := by decide +kernel
theorem dX10_copy_151 : decode cX10_copy 151 = .ok (.getfield 19, 3) := by decide +kernel
theorem dX10_copy_154 : decode cX10_copy 154 = .ok (.bipush 40, 2) := by decide +kernel
theorem dX10_copy_156 : decode cX10_copy 156 = .ok (.iload_n 3, 1) := by decide +kernel
theorem dX10_copy_157 : decode cX10_copy 157 = .ok (.imul, 1) := by decide +kernel
theorem dX10_copy_158 : decode cX10_copy 158 = .ok (.iload 4, 2) := by decide +kernel
theorem dX10_copy_160 : decode cX10_copy 160 = .ok (.iadd, 1) := by decide +kernel
theorem dX10_copy_161 : decode cX10_copy 161 = .ok (.iload 8, 2) := by decide +kernel
theorem dX10_copy_163 : decode cX10_copy 163 = .ok (.iadd, 1) := by decide +kernel
theorem dX10_copy_164 : decode cX10_copy 164 = .ok (.aload_n 0, 1) := by decide +kernel
theorem dX10_copy_165 : decode cX10_copy 165 = .ok (.getfield 19, 3) := by decide +kernel
theorem dX10_copy_168 : decode cX10_copy 168 = .ok (.bipush 40, 2) := by decide +kernel
theorem dX10_copy_170 : decode cX10_copy 170 = .ok (.iload_n 1, 1) := by decide +kernel
theorem dX10_copy_171 : decode cX10_copy 171 = .ok (.imul, 1) := by decide +kernel
theorem dX10_copy_172 : decode cX10_copy 172 = .ok (.iload_n 2, 1) := by decide +kernel
theorem dX10_copy_173 : decode cX10_copy 173 = .ok (.iadd, 1) := by decide +kernel
theorem dX10_copy_174 : decode cX10_copy 174 = .ok (.iload 8, 2) := by decide +kernel
theorem dX10_copy_176 : decode cX10_copy 176 = .ok (.iadd, 1) := by decide +kernel
theorem dX10_copy_177 : decode cX10_copy 177 = .ok (.iaload, 1) := by decide +kernel
theorem dX10_copy_178 : decode cX10_copy 178 = .ok (.iastore, 1) := by decide +kernel
theorem dX10_copy_179 : decode cX10_copy 179 = .ok (.iinc 7 1, 3) := by decide +kernel
theorem dX10_copy_182 : decode cX10_copy 182 = .ok (.goto (-58), 3) := by decide +kernel
theorem dX10_copy_185 : decode cX10_copy 185 = .ok (.iconst 1, 1) := by decide +kernel
theorem dX10_copy_186 : decode cX10_copy 186 = .ok (.ireturn, 1) := by decide +kernel
theorem dX10_mean_0 : decode cX10_mean 0 = .ok (.iload_n 1, 1) := by decide +kernel
theorem dX10_mean_1 : decode cX10_mean 1 = .ok (.invokestatic 67, 3) := by decide +kernel
theorem dX10_mean_4 : decode cX10_mean 4 = .ok (.ifCond .ne 5, 3) := by decide +kernel
theorem dX10_mean_7 : decode cX10_mean 7 = .ok (.iconst (-1), 1) := by decide +kernel
theorem dX10_mean_8 : decode cX10_mean 8 = .ok (.ireturn, 1) := by decide +kernel
theorem dX10_mean_9 : decode cX10_mean 9 = .ok (.aload_n 0, 1) := by decide +kernel
theorem dX10_mean_10 : decode cX10_mean 10 = .ok (.getfield 22, 3) := by decide +kernel
theorem dX10_mean_13 : decode cX10_mean 13 = .ok (.iload_n 1, 1) := by decide +kernel
theorem dX10_mean_14 : decode cX10_mean 14 = .ok (.iaload, 1) := by decide +kernel
theorem dX10_mean_15 : decode cX10_mean 15 = .ok (.bipush (-9), 2) := by decide +kernel
theorem dX10_mean_17 : decode cX10_mean 17 = .ok (.if_icmp .ne 9, 3) := by decide +kernel
theorem dX10_mean_20 : decode cX10_mean 20 = .ok (.aload_n 0, 1) := by decide +kernel
theorem dX10_mean_21 : decode cX10_mean 21 = .ok (.iconst 1, 1) := by decide +kernel
theorem dX10_mean_22 : decode cX10_mean 22 = .ok (.invokevirtual 71, 3) := by decide +kernel
theorem dX10_mean_25 : decode cX10_mean 25 = .ok (.ireturn, 1) := by decide +kernel
theorem dX10_mean_26 : decode cX10_mean 26 = .ok (.aload_n 0, 1) := by decide +kernel
theorem dX10_mean_27 : decode cX10_mean 27 = .ok (.getfield 22, 3) := by decide +kernel
theorem dX10_mean_30 : decode cX10_mean 30 = .ok (.iload_n 1, 1) := by decide +kernel
theorem dX10_mean_31 : decode cX10_mean 31 = .ok (.iaload, 1) := by decide +kernel
theorem dX10_mean_32 : decode cX10_mean 32 = .ok (.ifCond .ne 9, 3) := by decide +kernel
theorem dX10_mean_35 : decode cX10_mean 35 = .ok (.aload_n 0, 1) := by decide +kernel
theorem dX10_mean_36 : decode cX10_mean 36 = .ok (.iconst 4, 1) := by decide +kernel
theorem dX10_mean_37 : decode cX10_mean 37 = .ok (.invokevirtual 71, 3) := by decide +kernel
theorem dX10_mean_40 : decode cX10_mean 40 = .ok (.ireturn, 1) := by decide +kernel
theorem dX10_mean_41 : decode cX10_mean 41 = .ok (.lconst 0, 1) := by decide +kernel
theorem dX10_mean_42 : decode cX10_mean 42 = .ok (.lstore_n 2, 1) := by decide +kernel
theorem dX10_mean_43 : decode cX10_mean 43 = .ok (.iconst 0, 1) := by decide +kernel
theorem dX10_mean_44 : decode cX10_mean 44 = .ok (.istore 4, 2) := by decide +kernel
theorem dX10_mean_46 : decode cX10_mean 46 = .ok (.iload 4, 2) := by decide +kernel
theorem dX10_mean_48 : decode cX10_mean 48 = .ok (.aload_n 0, 1) := by decide +kernel
theorem dX10_mean_49 : decode cX10_mean 49 = .ok (.getfield 22, 3) := by decide +kernel
theorem dX10_mean_52 : decode cX10_mean 52 = .ok (.iload_n 1, 1) := by decide +kernel
theorem dX10_mean_53 : decode cX10_mean 53 = .ok (.iaload, 1) := by decide +kernel
theorem dX10_mean_54 : decode cX10_mean 54 = .ok (.if_icmp .ge 25, 3) := by decide +kernel
theorem dX10_mean_57 : decode cX10_mean 57 = .ok (.lload_n 2, 1) := by decide +kernel
theorem dX10_mean_58 : decode cX10_mean 58 = .ok (.aload_n 0, 1) := by decide +kernel
theorem dX10_mean_59 : decode cX10_mean 59 = .ok (.getfield 19, 3) := by decide +kernel
theorem dX10_mean_62 : decode cX10_mean 62 = .ok (.bipush 40, 2) := by decide +kernel
theorem dX10_mean_64 : decode cX10_mean 64 = .ok (.iload_n 1, 1) := by decide +kernel
theorem dX10_mean_65 : decode cX10_mean 65 = .ok (.imul, 1) := by decide +kernel
theorem dX10_mean_66 : decode cX10_mean 66 = .ok (.iload 4, 2) := by decide +kernel
theorem dX10_mean_68 : decode cX10_mean 68 = .ok (.iadd, 1) := by decide +kernel
theorem dX10_mean_69 : decode cX10_mean 69 = .ok (.iaload, 1) := by decide +kernel
theorem dX10_mean_70 : decode cX10_mean 70 = .ok (.i2l, 1) := by decide +kernel
theorem dX10_mean_71 : decode cX10_mean 71 = .ok (.ladd, 1) := by decide +kernel
theorem dX10_mean_72 : decode cX10_mean 72 = .ok (.lstore_n 2, 1) := by decide +kernel
theorem dX10_mean_73 : decode cX10_mean 73 = .ok (.iinc 4 1, 3) := by decide +kernel
theorem dX10_mean_76 : decode cX10_mean 76 = .ok (.goto (-30), 3) := by decide +kernel
theorem dX10_mean_79 : decode cX10_mean 79 = .ok (.aload_n 0, 1) := by decide +kernel
theorem dX10_mean_80 : decode cX10_mean 80 = .ok (.lload_n 2, 1) := by decide +kernel
theorem dX10_mean_81 : decode cX10_mean 81 = .ok (.aload_n 0, 1) := by decide +kernel
theorem dX10_mean_82 : decode cX10_mean 82 = .ok (.getfield 22, 3) := by decide +kernel
theorem dX10_mean_85 : decode cX10_mean 85 = .ok (.iload_n 1, 1) := by decide +kernel
theorem dX10_mean_86 : decode cX10_mean 86 = .ok (.iaload, 1) := by decide +kernel
theorem dX10_mean_87 : decode cX10_mean 87 = .ok (.i2l, 1) := by decide +kernel
theorem dX10_mean_88 : decode cX10_mean 88 = .ok (.ldiv, 1) := by decide +kernel
theorem dX10_mean_89 : decode cX10_mean 89 = .ok (.l2i, 1) := by decide +kernel
theorem dX10_mean_90 : decode cX10_mean 90 = .ok (.invokevirtual 79, 3) := by decide +kernel
theorem dX10_mean_93 : decode cX10_mean 93 = .ok (.ireturn, 1) := by decide +kernel
theorem dX10_isText_0 : decode cX10_isText 0 = .ok (.iload_n 0, 1) := by decide +kernel
theorem dX10_isText_1 : decode cX10_isText 1 = .ok (.iconst 0, 1) := by decide +kernel
theorem dX10_isText_2 : decode cX10_isText 2 = .ok (.iconst 3, 1) := by decide +kernel
theorem dX10_isText_3 : decode cX10_isText 3 = .ok (.invokestatic 63, 3) := by decide +kernel
theorem dX10_isText_6 : decode cX10_isText 6 = .ok (.ireturn, 1) := by decide +kernel
theorem dX10_text_0 : decode cX10_text 0 = .ok (.iload_n 1, 1) := by decide +kernel
theorem dX10_text_1 : decode cX10_text 1 = .ok (.invokestatic 82, 3) := by decide +kernel
theorem dX10_text_4 : decode cX10_text 4 = .ok (.ifCond .eq 9, 3) := by decide +kernel
theorem dX10_text_7 : decode cX10_text 7 = .ok (.iload_n 2, 1) := by decide +kernel
theorem dX10_text_8 : decode cX10_text 8 = .ok (.bipush 60, 2) := by decide +kernel
theorem dX10_text_10 : decode cX10_text 10 = .ok (.if_icmp .le 5, 3) := by decide +kernel
theorem dX10_text_13 : decode cX10_text 13 = .ok (.iconst (-1), 1) := by decide +kernel
theorem dX10_text_14 : decode cX10_text 14 = .ok (.ireturn, 1) := by decide +kernel
theorem dX10_text_15 : decode cX10_text 15 = .ok (.iload_n 2, 1) := by decide +kernel
theorem dX10_text_16 : decode cX10_text 16 = .ok (.ifCond .ge 9, 3) := by decide +kernel
theorem dX10_text_19 : decode cX10_text 19 = .ok (.aload_n 0, 1) := by decide +kernel
theorem dX10_text_20 : decode cX10_text 20 = .ok (.iconst 5, 1) := by decide +kernel
theorem dX10_text_21 : decode cX10_text 21 = .ok (.invokevirtual 71, 3) := by decide +kernel
theorem dX10_text_24 : decode cX10_text 24 = .ok (.ireturn, 1) := by decide +kernel
theorem dX10_text_25 : decode cX10_text 25 = .ok (.iconst 0, 1) := by decide +kernel
theorem dX10_text_26 : decode cX10_text 26 = .ok (.istore_n 3, 1) := by decide +kernel
theorem dX10_text_27 : decode cX10_text 27 = .ok (.iload_n 3, 1) := by decide +kernel
theorem dX10_text_28 : decode cX10_text 28 = .ok (.iload_n 2, 1) := by decide +kernel
theorem dX10_text_29 : decode cX10_text 29 = .ok (.if_icmp .ge 22, 3) := by decide +kernel
theorem dX10_text_32 : decode cX10_text 32 = .ok (.aload_n 0, 1) := by decide +kernel
theorem dX10_text_33 : decode cX10_text 33 = .ok (.getfield 25, 3) := by decide +kernel
theorem dX10_text_36 : decode cX10_text 36 = .ok (.bipush 60, 2) := by decide +kernel
theorem dX10_text_38 : decode cX10_text 38 = .ok (.iload_n 1, 1) := by decide +kernel
theorem dX10_text_39 : decode cX10_text 39 = .ok (.imul, 1) := by decide +kernel
theorem dX10_text_40 : decode cX10_text 40 = .ok (.iload_n 3, 1) := by decide +kernel
theorem dX10_text_41 : decode cX10_text 41 = .ok (.iadd, 1) := by decide +kernel
theorem dX10_text_42 : decode cX10_text 42 = .ok (.bipush 32, 2) := by decide +kernel
theorem dX10_text_44 : decode cX10_text 44 = .ok (.iastore, 1) := by decide +kernel
theorem dX10_text_45 : decode cX10_text 45 = .ok (.iinc 3 1, 3) := by decide +kernel
theorem dX10_text_48 : decode cX10_text 48 = .ok (.goto (-21), 3) := by decide +kernel
theorem dX10_text_51 : decode cX10_text 51 = .ok (.aload_n 0, 1) := by decide +kernel
theorem dX10_text_52 : decode cX10_text 52 = .ok (.getfield 28, 3) := by decide +kernel
theorem dX10_text_55 : decode cX10_text 55 = .ok (.iload_n 1, 1) := by decide +kernel
theorem dX10_text_56 : decode cX10_text 56 = .ok (.iload_n 2, 1) := by decide +kernel
theorem dX10_text_57 : decode cX10_text 57 = .ok (.iastore, 1) := by decide +kernel
theorem dX10_text_58 : decode cX10_text 58 = .ok (.iload_n 2, 1) := by decide +kernel
theorem dX10_text_59 : decode cX10_text 59 = .ok (.ireturn, 1) := by decide +kernel
theorem dX10_put_0 : decode cX10_put 0 = .ok (.iload_n 1, 1) := by decide +kernel
theorem dX10_put_1 : decode cX10_put 1 = .ok (.invokestatic 82, 3) := by decide +kernel
theorem dX10_put_4 : decode cX10_put 4 = .ok (.ifCond .ne 5, 3) := by decide +kernel
theorem dX10_put_7 : decode cX10_put 7 = .ok (.iconst (-1), 1) := by decide +kernel
theorem dX10_put_8 : decode cX10_put 8 = .ok (.ireturn, 1) := by decide +kernel
theorem dX10_put_9 : decode cX10_put 9 = .ok (.aload_n 0, 1) := by decide +kernel
theorem dX10_put_10 : decode cX10_put 10 = .ok (.getfield 28, 3) := by decide +kernel
theorem dX10_put_13 : decode cX10_put 13 = .ok (.iload_n 1, 1) := by decide +kernel
theorem dX10_put_14 : decode cX10_put 14 = .ok (.iaload, 1) := by decide +kernel
theorem dX10_put_15 : decode cX10_put 15 = .ok (.bipush (-9), 2) := by decide +kernel
theorem dX10_put_17 : decode cX10_put 17 = .ok (.if_icmp .ne 9, 3) := by decide +kernel
theorem dX10_put_20 : decode cX10_put 20 = .ok (.aload_n 0, 1) := by decide +kernel
theorem dX10_put_21 : decode cX10_put 21 = .ok (.iconst 1, 1) := by decide +kernel
theorem dX10_put_22 : decode cX10_put 22 = .ok (.invokevirtual 71, 3) := by decide +kernel
theorem dX10_put_25 : decode cX10_put 25 = .ok (.ireturn, 1) := by decide +kernel
theorem dX10_put_26 : decode cX10_put 26 = .ok (.iload_n 2, 1) := by decide +kernel
theorem dX10_put_27 : decode cX10_put 27 = .ok (.iconst 0, 1) := by decide +kernel
theorem dX10_put_28 : decode cX10_put 28 = .ok (.aload_n 0, 1) := by decide +kernel
theorem dX10_put_29 : decode cX10_put 29 = .ok (.getfield 28, 3) := by decide +kernel
theorem dX10_put_32 : decode cX10_put 32 = .ok (.iload_n 1, 1) := by decide +kernel
theorem dX10_put_33 : decode cX10_put 33 = .ok (.iaload, 1) := by decide +kernel
theorem dX10_put_34 : decode cX10_put 34 = .ok (.iconst 1, 1) := by decide +kernel
theorem dX10_put_35 : decode cX10_put 35 = .ok (.isub, 1) := by decide +kernel
theorem dX10_put_36 : decode cX10_put 36 = .ok (.invokestatic 63, 3) := by decide +kernel
theorem dX10_put_39 : decode cX10_put 39 = .ok (.ifCond .ne 9, 3) := by decide +kernel
theorem dX10_put_42 : decode cX10_put 42 = .ok (.aload_n 0, 1) := by decide +kernel
theorem dX10_put_43 : decode cX10_put 43 = .ok (.iconst 2, 1) := by decide +kernel
theorem dX10_put_44 : decode cX10_put 44 = .ok (.invokevirtual 71, 3) := by decide +kernel
theorem dX10_put_47 : decode cX10_put 47 = .ok (.ireturn, 1) := by decide +kernel
theorem dX10_put_48 : decode cX10_put 48 = .ok (.aload_n 0, 1) := by decide +kernel
theorem dX10_put_49 : decode cX10_put 49 = .ok (.getfield 25, 3) := by decide +kernel
theorem dX10_put_52 : decode cX10_put 52 = .ok (.bipush 60, 2) := by decide +kernel
theorem dX10_put_54 : decode cX10_put 54 = .ok (.iload_n 1, 1) := by decide +kernel
theorem dX10_put_55 : decode cX10_put 55 = .ok (.imul, 1) := by decide +kernel
theorem dX10_put_56 : decode cX10_put 56 = .ok (.iload_n 2, 1) := by decide +kernel
theorem dX10_put_57 : decode cX10_put 57 = .ok (.iadd, 1) := by decide +kernel
theorem dX10_put_58 : decode cX10_put 58 = .ok (.iaload, 1) := by decide +kernel
theorem dX10_put_59 : decode cX10_put 59 = .ok (.istore 4, 2) := by decide +kernel
theorem dX10_put_61 : decode cX10_put 61 = .ok (.aload_n 0, 1) := by decide +kernel
theorem dX10_put_62 : decode cX10_put 62 = .ok (.getfield 25, 3) := by decide +kernel
theorem dX10_put_65 : decode cX10_put 65 = .ok (.bipush 60, 2) := by decide +kernel
theorem dX10_put_67 : decode cX10_put 67 = .ok (.iload_n 1, 1) := by decide +kernel
theorem dX10_put_68 : decode cX10_put 68 = .ok (.imul, 1) := by decide +kernel
theorem dX10_put_69 : decode cX10_put 69 = .ok (.iload_n 2, 1) := by decide +kernel
theorem dX10_put_70 : decode cX10_put 70 = .ok (.iadd, 1) := by decide +kernel
theorem dX10_put_71 : decode cX10_put 71 = .ok (.iload_n 3, 1) := by decide +kernel
theorem dX10_put_72 : decode cX10_put 72 = .ok (.i2b, 1) := by decide +kernel
theorem dX10_put_73 : decode cX10_put 73 = .ok (.iastore, 1) := by decide +kernel
theorem dX10_put_74 : decode cX10_put 74 = .ok (.iload 4, 2) := by decide +kernel
theorem dX10_put_76 : decode cX10_put 76 = .ok (.sipush 1000, 3) := by decide +kernel
theorem dX10_put_79 : decode cX10_put 79 = .ok (.iadd, 1) := by decide +kernel
theorem dX10_put_80 : decode cX10_put 80 = .ok (.ireturn, 1) := by decide +kernel
theorem dX10_letterAt_0 : decode cX10_letterAt 0 = .ok (.iload_n 2, 1) := by decide +kernel
theorem dX10_letterAt_1 : decode cX10_letterAt 1 = .ok (.aload_n 0, 1) := by decide +kernel
theorem dX10_letterAt_2 : decode cX10_letterAt 2 = .ok (.getfield 28, 3) := by decide +kernel
theorem dX10_letterAt_5 : decode cX10_letterAt 5 = .ok (.iload_n 1, 1) := by decide +kernel
theorem dX10_letterAt_6 : decode cX10_letterAt 6 = .ok (.iaload, 1) := by decide +kernel
theorem dX10_letterAt_7 : decode cX10_letterAt 7 = .ok (.if_icmp .ge 17, 3) := by decide +kernel
theorem dX10_letterAt_10 : decode cX10_letterAt 10 = .ok (.aload_n 0, 1) := by decide +kernel
theorem dX10_letterAt_11 : decode cX10_letterAt 11 = .ok (.getfield 25, 3) := by decide +kernel
theorem dX10_letterAt_14 : decode cX10_letterAt 14 = .ok (.bipush 60, 2) := by decide +kernel
theorem dX10_letterAt_16 : decode cX10_letterAt 16 = .ok (.iload_n 1, 1) := by decide +kernel
theorem dX10_letterAt_17 : decode cX10_letterAt 17 = .ok (.imul, 1) := by decide +kernel
theorem dX10_letterAt_18 : decode cX10_letterAt 18 = .ok (.iload_n 2, 1) := by decide +kernel
theorem dX10_letterAt_19 : decode cX10_letterAt 19 = .ok (.iadd, 1) := by decide +kernel
theorem dX10_letterAt_20 : decode cX10_letterAt 20 = .ok (.iaload, 1) := by decide +kernel
theorem dX10_letterAt_21 : decode cX10_letterAt 21 = .ok (.goto 5, 3) := by decide +kernel
theorem dX10_letterAt_24 : decode cX10_letterAt 24 = .ok (.bipush (-9), 2) := by decide +kernel
theorem dX10_letterAt_26 : decode cX10_letterAt 26 = .ok (.ireturn, 1) := by decide +kernel
theorem dX10_isFigure_0 : decode cX10_isFigure 0 = .ok (.aload_n 0, 1) := by decide +kernel
theorem dX10_isFigure_1 : decode cX10_isFigure 1 = .ok (.iload_n 1, 1) := by decide +kernel
theorem dX10_isFigure_2 : decode cX10_isFigure 2 = .ok (.iload_n 2, 1) := by decide +kernel
theorem dX10_isFigure_3 : decode cX10_isFigure 3 = .ok (.invokevirtual 85, 3) := by decide +kernel
theorem dX10_isFigure_6 : decode cX10_isFigure 6 = .ok (.bipush 48, 2) := by decide +kernel
theorem dX10_isFigure_8 : decode cX10_isFigure 8 = .ok (.bipush 57, 2) := by decide +kernel
theorem dX10_isFigure_10 : decode cX10_isFigure 10 = .ok (.invokestatic 63, 3) := by decide +kernel
theorem dX10_isFigure_13 : decode cX10_isFigure 13 = .ok (.ireturn, 1) := by decide +kernel
theorem dX10_figure_0 : decode cX10_figure 0 = .ok (.aload_n 0, 1) := by decide +kernel
theorem dX10_figure_1 : decode cX10_figure 1 = .ok (.iload_n 1, 1) := by decide +kernel
theorem dX10_figure_2 : decode cX10_figure 2 = .ok (.iload_n 2, 1) := by decide +kernel
theorem dX10_figure_3 : decode cX10_figure 3 = .ok (.invokevirtual 85, 3) := by decide +kernel
theorem dX10_figure_6 : decode cX10_figure 6 = .ok (.bipush 48, 2) := by decide +kernel
theorem dX10_figure_8 : decode cX10_figure 8 = .ok (.isub, 1) := by decide +kernel
theorem dX10_figure_9 : decode cX10_figure 9 = .ok (.ireturn, 1) := by decide +kernel
theorem dX10_skipBlanks_0 : decode cX10_skipBlanks 0 = .ok (.aload_n 0, 1) := by decide +kernel
theorem dX10_skipBlanks_1 : decode cX10_skipBlanks 1 = .ok (.iload_n 1, 1) := by decide +kernel
theorem dX10_skipBlanks_2 : decode cX10_skipBlanks 2 = .ok (.aload_n 0, 1) := by decide +kernel
theorem dX10_skipBlanks_3 : decode cX10_skipBlanks 3 = .ok (.getfield 88, 3) := by decide +kernel
theorem dX10_skipBlanks_6 : decode cX10_skipBlanks 6 = .ok (.invokevirtual 85, 3) := by decide +kernel
theorem dX10_skipBlanks_9 : decode cX10_skipBlanks 9 = .ok (.bipush 32, 2) := by decide +kernel
theorem dX10_skipBlanks_11 : decode cX10_skipBlanks 11 = .ok (.if_icmp .ne 16, 3) := by decide +kernel
theorem dX10_skipBlanks_14 : decode cX10_skipBlanks 14 = .ok (.aload_n 0, 1) := by decide +kernel
theorem dX10_skipBlanks_15 : decode cX10_skipBlanks 15 = .ok (.dup, 1) := by decide +kernel
theorem dX10_skipBlanks_16 : decode cX10_skipBlanks 16 = .ok (.getfield 88, 3) := by decide +kernel
theorem dX10_skipBlanks_19 : decode cX10_skipBlanks 19 = .ok (.iconst 1, 1) := by decide +kernel
theorem dX10_skipBlanks_20 : decode cX10_skipBlanks 20 = .ok (.iadd, 1) := by decide +kernel
theorem dX10_skipBlanks_21 : decode cX10_skipBlanks 21 = .ok (.putfield 88, 3) := by decide +kernel
theorem dX10_skipBlanks_24 : decode cX10_skipBlanks 24 = .ok (.goto (-24), 3) := by decide +kernel
theorem dX10_skipBlanks_27 : decode cX10_skipBlanks 27 = .ok (.return_, 1) := by decide +kernel
theorem dX10_kindOf_0 : decode cX10_kindOf 0 = .ok (.iload_n 0, 1) := by decide +kernel
theorem dX10_kindOf_1 : decode cX10_kindOf 1 = .ok (.lookupswitch 71 #[(98, 61), (103, 63), (105, 67), (108, 69), (112, 59), (119, 65)], 59) := by decide +kernel
theorem dX10_kindOf_60 : decode cX10_kindOf 60 = .ok (.iconst 0, 1) := by decide +kernel
end
section
theorem dX10_kindOf_61 : decode cX10_kindOf 61 = .ok (.ireturn, 1) := by decide +kernel
theorem dX10_kindOf_62 : decode cX10_kindOf 62 = .ok (.iconst 1, 1) := by decide +kernel
theorem dX10_kindOf_63 : decode cX10_kindOf 63 = .ok (.ireturn, 1) := by decide +kernel
theorem dX10_kindOf_64 : decode cX10_kindOf 64 = .ok (.iconst 2, 1) := by decide +kernel
theorem dX10_kindOf_65 : decode cX10_kindOf 65 = .ok (.ireturn, 1) := by decide +kernel
theorem dX10_kindOf_66 : decode cX10_kindOf 66 = .ok (.iconst 3, 1) := by decide +kernel
theorem dX10_kindOf_67 : decode cX10_kindOf 67 = .ok (.ireturn, 1) := by decide +kernel
theorem dX10_kindOf_68 : decode cX10_kindOf 68 = .ok (.iconst 4, 1) := by decide +kernel
theorem dX10_kindOf_69 : decode cX10_kindOf 69 = .ok (.ireturn, 1) := by decide +kernel
theorem dX10_kindOf_70 : decode cX10_kindOf 70 = .ok (.iconst 5, 1) := by decide +kernel
theorem dX10_kindOf_71 : decode cX10_kindOf 71 = .ok (.ireturn, 1) := by decide +kernel
theorem dX10_kindOf_72 : decode cX10_kindOf 72 = .ok (.bipush (-9), 2) := by decide +kernel
theorem dX10_kindOf_74 : decode cX10_kindOf 74 = .ok (.ireturn, 1) := by decide +kernel
theorem dX10_readOne_0 : decode cX10_readOne 0 = .ok (.aload_n 0, 1) := by decide +kernel
theorem dX10_readOne_1 : decode cX10_readOne 1 = .ok (.iload_n 1, 1) := by decide +kernel
theorem dX10_readOne_2 : decode cX10_readOne 2 = .ok (.aload_n 0, 1) := by decide +kernel
theorem dX10_readOne_3 : decode cX10_readOne 3 = .ok (.getfield 88, 3) := by decide +kernel
theorem dX10_readOne_6 : decode cX10_readOne 6 = .ok (.invokevirtual 85, 3) := by decide +kernel
theorem dX10_readOne_9 : decode cX10_readOne 9 = .ok (.invokestatic 91, 3) := by decide +kernel
theorem dX10_readOne_12 : decode cX10_readOne 12 = .ok (.istore_n 2, 1) := by decide +kernel
theorem dX10_readOne_13 : decode cX10_readOne 13 = .ok (.iload_n 2, 1) := by decide +kernel
theorem dX10_readOne_14 : decode cX10_readOne 14 = .ok (.bipush (-9), 2) := by decide +kernel
theorem dX10_readOne_16 : decode cX10_readOne 16 = .ok (.if_icmp .eq 12, 3) := by decide +kernel
theorem dX10_readOne_19 : decode cX10_readOne 19 = .ok (.aload_n 0, 1) := by decide +kernel
theorem dX10_readOne_20 : decode cX10_readOne 20 = .ok (.getfield 94, 3) := by decide +kernel
theorem dX10_readOne_23 : decode cX10_readOne 23 = .ok (.bipush 6, 2) := by decide +kernel
theorem dX10_readOne_25 : decode cX10_readOne 25 = .ok (.if_icmp .ne 8, 3) := by decide +kernel
theorem dX10_readOne_28 : decode cX10_readOne 28 = .ok (.aload_n 0, 1) := by decide +kernel
theorem dX10_readOne_29 : decode cX10_readOne 29 = .ok (.getfield 88, 3) := by decide +kernel
theorem dX10_readOne_32 : decode cX10_readOne 32 = .ok (.ireturn, 1) := by decide +kernel
theorem dX10_readOne_33 : decode cX10_readOne 33 = .ok (.iconst 1, 1) := by decide +kernel
theorem dX10_readOne_34 : decode cX10_readOne 34 = .ok (.istore_n 3, 1) := by decide +kernel
theorem dX10_readOne_35 : decode cX10_readOne 35 = .ok (.iload_n 3, 1) := by decide +kernel
theorem dX10_readOne_36 : decode cX10_readOne 36 = .ok (.iconst 3, 1) := by decide +kernel
theorem dX10_readOne_37 : decode cX10_readOne 37 = .ok (.if_icmp .gt 30, 3) := by decide +kernel
theorem dX10_readOne_40 : decode cX10_readOne 40 = .ok (.aload_n 0, 1) := by decide +kernel
theorem dX10_readOne_41 : decode cX10_readOne 41 = .ok (.iload_n 1, 1) := by decide +kernel
theorem dX10_readOne_42 : decode cX10_readOne 42 = .ok (.aload_n 0, 1) := by decide +kernel
theorem dX10_readOne_43 : decode cX10_readOne 43 = .ok (.getfield 88, 3) := by decide +kernel
theorem dX10_readOne_46 : decode cX10_readOne 46 = .ok (.iload_n 3, 1) := by decide +kernel
theorem dX10_readOne_47 : decode cX10_readOne 47 = .ok (.iadd, 1) := by decide +kernel
theorem dX10_readOne_48 : decode cX10_readOne 48 = .ok (.invokevirtual 97, 3) := by decide +kernel
theorem dX10_readOne_51 : decode cX10_readOne 51 = .ok (.ifCond .ne 10, 3) := by decide +kernel
theorem dX10_readOne_54 : decode cX10_readOne 54 = .ok (.aload_n 0, 1) := by decide +kernel
theorem dX10_readOne_55 : decode cX10_readOne 55 = .ok (.getfield 88, 3) := by decide +kernel
theorem dX10_readOne_58 : decode cX10_readOne 58 = .ok (.iload_n 3, 1) := by decide +kernel
theorem dX10_readOne_59 : decode cX10_readOne 59 = .ok (.iadd, 1) := by decide +kernel
theorem dX10_readOne_60 : decode cX10_readOne 60 = .ok (.ireturn, 1) := by decide +kernel
theorem dX10_readOne_61 : decode cX10_readOne 61 = .ok (.iinc 3 1, 3) := by decide +kernel
theorem dX10_readOne_64 : decode cX10_readOne 64 = .ok (.goto (-29), 3) := by decide +kernel
theorem dX10_readOne_67 : decode cX10_readOne 67 = .ok (.bipush 10, 2) := by decide +kernel
theorem dX10_readOne_69 : decode cX10_readOne 69 = .ok (.aload_n 0, 1) := by decide +kernel
theorem dX10_readOne_70 : decode cX10_readOne 70 = .ok (.iload_n 1, 1) := by decide +kernel
theorem dX10_readOne_71 : decode cX10_readOne 71 = .ok (.aload_n 0, 1) := by decide +kernel
theorem dX10_readOne_72 : decode cX10_readOne 72 = .ok (.getfield 88, 3) := by decide +kernel
theorem dX10_readOne_75 : decode cX10_readOne 75 = .ok (.iconst 2, 1) := by decide +kernel
theorem dX10_readOne_76 : decode cX10_readOne 76 = .ok (.iadd, 1) := by decide +kernel
theorem dX10_readOne_77 : decode cX10_readOne 77 = .ok (.invokevirtual 101, 3) := by decide +kernel
theorem dX10_readOne_80 : decode cX10_readOne 80 = .ok (.imul, 1) := by decide +kernel
theorem dX10_readOne_81 : decode cX10_readOne 81 = .ok (.aload_n 0, 1) := by decide +kernel
theorem dX10_readOne_82 : decode cX10_readOne 82 = .ok (.iload_n 1, 1) := by decide +kernel
theorem dX10_readOne_83 : decode cX10_readOne 83 = .ok (.aload_n 0, 1) := by decide +kernel
theorem dX10_readOne_84 : decode cX10_readOne 84 = .ok (.getfield 88, 3) := by decide +kernel
theorem dX10_readOne_87 : decode cX10_readOne 87 = .ok (.iconst 3, 1) := by decide +kernel
theorem dX10_readOne_88 : decode cX10_readOne 88 = .ok (.iadd, 1) := by decide +kernel
theorem dX10_readOne_89 : decode cX10_readOne 89 = .ok (.invokevirtual 101, 3) := by decide +kernel
theorem dX10_readOne_92 : decode cX10_readOne 92 = .ok (.iadd, 1) := by decide +kernel
theorem dX10_readOne_93 : decode cX10_readOne 93 = .ok (.istore_n 3, 1) := by decide +kernel
theorem dX10_readOne_94 : decode cX10_readOne 94 = .ok (.iload_n 3, 1) := by decide +kernel
theorem dX10_readOne_95 : decode cX10_readOne 95 = .ok (.bipush 30, 2) := by decide +kernel
theorem dX10_readOne_97 : decode cX10_readOne 97 = .ok (.if_icmp .le 10, 3) := by decide +kernel
theorem dX10_readOne_100 : decode cX10_readOne 100 = .ok (.aload_n 0, 1) := by decide +kernel
theorem dX10_readOne_101 : decode cX10_readOne 101 = .ok (.getfield 88, 3) := by decide +kernel
theorem dX10_readOne_104 : decode cX10_readOne 104 = .ok (.iconst 2, 1) := by decide +kernel
theorem dX10_readOne_105 : decode cX10_readOne 105 = .ok (.iadd, 1) := by decide +kernel
theorem dX10_readOne_106 : decode cX10_readOne 106 = .ok (.ireturn, 1) := by decide +kernel
theorem dX10_readOne_107 : decode cX10_readOne 107 = .ok (.aload_n 0, 1) := by decide +kernel
theorem dX10_readOne_108 : decode cX10_readOne 108 = .ok (.getfield 38, 3) := by decide +kernel
theorem dX10_readOne_111 : decode cX10_readOne 111 = .ok (.aload_n 0, 1) := by decide +kernel
theorem dX10_readOne_112 : decode cX10_readOne 112 = .ok (.getfield 94, 3) := by decide +kernel
theorem dX10_readOne_115 : decode cX10_readOne 115 = .ok (.iload_n 2, 1) := by decide +kernel
theorem dX10_readOne_116 : decode cX10_readOne 116 = .ok (.iastore, 1) := by decide +kernel
theorem dX10_readOne_117 : decode cX10_readOne 117 = .ok (.aload_n 0, 1) := by decide +kernel
theorem dX10_readOne_118 : decode cX10_readOne 118 = .ok (.getfield 41, 3) := by decide +kernel
theorem dX10_readOne_121 : decode cX10_readOne 121 = .ok (.aload_n 0, 1) := by decide +kernel
theorem dX10_readOne_122 : decode cX10_readOne 122 = .ok (.getfield 94, 3) := by decide +kernel
theorem dX10_readOne_125 : decode cX10_readOne 125 = .ok (.aload_n 0, 1) := by decide +kernel
theorem dX10_readOne_126 : decode cX10_readOne 126 = .ok (.iload_n 1, 1) := by decide +kernel
theorem dX10_readOne_127 : decode cX10_readOne 127 = .ok (.aload_n 0, 1) := by decide +kernel
theorem dX10_readOne_128 : decode cX10_readOne 128 = .ok (.getfield 88, 3) := by decide +kernel
theorem dX10_readOne_131 : decode cX10_readOne 131 = .ok (.iconst 1, 1) := by decide +kernel
theorem dX10_readOne_132 : decode cX10_readOne 132 = .ok (.iadd, 1) := by decide +kernel
theorem dX10_readOne_133 : decode cX10_readOne 133 = .ok (.invokevirtual 101, 3) := by decide +kernel
theorem dX10_readOne_136 : decode cX10_readOne 136 = .ok (.iastore, 1) := by decide +kernel
theorem dX10_readOne_137 : decode cX10_readOne 137 = .ok (.aload_n 0, 1) := by decide +kernel
theorem dX10_readOne_138 : decode cX10_readOne 138 = .ok (.getfield 44, 3) := by decide +kernel
theorem dX10_readOne_141 : decode cX10_readOne 141 = .ok (.aload_n 0, 1) := by decide +kernel
theorem dX10_readOne_142 : decode cX10_readOne 142 = .ok (.getfield 94, 3) := by decide +kernel
theorem dX10_readOne_145 : decode cX10_readOne 145 = .ok (.iload_n 3, 1) := by decide +kernel
theorem dX10_readOne_146 : decode cX10_readOne 146 = .ok (.iastore, 1) := by decide +kernel
theorem dX10_readOne_147 : decode cX10_readOne 147 = .ok (.aload_n 0, 1) := by decide +kernel
theorem dX10_readOne_148 : decode cX10_readOne 148 = .ok (.dup, 1) := by decide +kernel
theorem dX10_readOne_149 : decode cX10_readOne 149 = .ok (.getfield 94, 3) := by decide +kernel
theorem dX10_readOne_152 : decode cX10_readOne 152 = .ok (.iconst 1, 1) := by decide +kernel
theorem dX10_readOne_153 : decode cX10_readOne 153 = .ok (.iadd, 1) := by decide +kernel
theorem dX10_readOne_154 : decode cX10_readOne 154 = .ok (.putfield 94, 3) := by decide +kernel
theorem dX10_readOne_157 : decode cX10_readOne 157 = .ok (.aload_n 0, 1) := by decide +kernel
theorem dX10_readOne_158 : decode cX10_readOne 158 = .ok (.dup, 1) := by decide +kernel
theorem dX10_readOne_159 : decode cX10_readOne 159 = .ok (.getfield 88, 3) := by decide +kernel
theorem dX10_readOne_162 : decode cX10_readOne 162 = .ok (.iconst 4, 1) := by decide +kernel
theorem dX10_readOne_163 : decode cX10_readOne 163 = .ok (.iadd, 1) := by decide +kernel
theorem dX10_readOne_164 : decode cX10_readOne 164 = .ok (.putfield 88, 3) := by decide +kernel
theorem dX10_readOne_167 : decode cX10_readOne 167 = .ok (.bipush (-9), 2) := by decide +kernel
theorem dX10_readOne_169 : decode cX10_readOne 169 = .ok (.ireturn, 1) := by decide +kernel
theorem dX10_faultOf_0 : decode cX10_faultOf 0 = .ok (.aload_n 0, 1) := by decide +kernel
theorem dX10_faultOf_1 : decode cX10_faultOf 1 = .ok (.iconst 0, 1) := by decide +kernel
theorem dX10_faultOf_2 : decode cX10_faultOf 2 = .ok (.putfield 88, 3) := by decide +kernel
theorem dX10_faultOf_5 : decode cX10_faultOf 5 = .ok (.aload_n 0, 1) := by decide +kernel
theorem dX10_faultOf_6 : decode cX10_faultOf 6 = .ok (.iconst 0, 1) := by decide +kernel
theorem dX10_faultOf_7 : decode cX10_faultOf 7 = .ok (.putfield 94, 3) := by decide +kernel
theorem dX10_faultOf_10 : decode cX10_faultOf 10 = .ok (.aload_n 0, 1) := by decide +kernel
theorem dX10_faultOf_11 : decode cX10_faultOf 11 = .ok (.iload_n 1, 1) := by decide +kernel
theorem dX10_faultOf_12 : decode cX10_faultOf 12 = .ok (.invokevirtual 104, 3) := by decide +kernel
theorem dX10_faultOf_15 : decode cX10_faultOf 15 = .ok (.aload_n 0, 1) := by decide +kernel
theorem dX10_faultOf_16 : decode cX10_faultOf 16 = .ok (.iload_n 1, 1) := by decide +kernel
theorem dX10_faultOf_17 : decode cX10_faultOf 17 = .ok (.aload_n 0, 1) := by decide +kernel
theorem dX10_faultOf_18 : decode cX10_faultOf 18 = .ok (.getfield 88, 3) := by decide +kernel
theorem dX10_faultOf_21 : decode cX10_faultOf 21 = .ok (.invokevirtual 85, 3) := by decide +kernel
theorem dX10_faultOf_24 : decode cX10_faultOf 24 = .ok (.bipush 100, 2) := by decide +kernel
theorem dX10_faultOf_26 : decode cX10_faultOf 26 = .ok (.if_icmp .eq 8, 3) := by decide +kernel
theorem dX10_faultOf_29 : decode cX10_faultOf 29 = .ok (.aload_n 0, 1) := by decide +kernel
theorem dX10_faultOf_30 : decode cX10_faultOf 30 = .ok (.getfield 88, 3) := by decide +kernel
theorem dX10_faultOf_33 : decode cX10_faultOf 33 = .ok (.ireturn, 1) := by decide +kernel
theorem dX10_faultOf_34 : decode cX10_faultOf 34 = .ok (.iconst 1, 1) := by decide +kernel
theorem dX10_faultOf_35 : decode cX10_faultOf 35 = .ok (.istore_n 2, 1) := by decide +kernel
theorem dX10_faultOf_36 : decode cX10_faultOf 36 = .ok (.iload_n 2, 1) := by decide +kernel
theorem dX10_faultOf_37 : decode cX10_faultOf 37 = .ok (.iconst 2, 1) := by decide +kernel
theorem dX10_faultOf_38 : decode cX10_faultOf 38 = .ok (.if_icmp .gt 30, 3) := by decide +kernel
theorem dX10_faultOf_41 : decode cX10_faultOf 41 = .ok (.aload_n 0, 1) := by decide +kernel
theorem dX10_faultOf_42 : decode cX10_faultOf 42 = .ok (.iload_n 1, 1) := by decide +kernel
theorem dX10_faultOf_43 : decode cX10_faultOf 43 = .ok (.aload_n 0, 1) := by decide +kernel
theorem dX10_faultOf_44 : decode cX10_faultOf 44 = .ok (.getfield 88, 3) := by decide +kernel
theorem dX10_faultOf_47 : decode cX10_faultOf 47 = .ok (.iload_n 2, 1) := by decide +kernel
theorem dX10_faultOf_48 : decode cX10_faultOf 48 = .ok (.iadd, 1) := by decide +kernel
theorem dX10_faultOf_49 : decode cX10_faultOf 49 = .ok (.invokevirtual 97, 3) := by decide +kernel
theorem dX10_faultOf_52 : decode cX10_faultOf 52 = .ok (.ifCond .ne 10, 3) := by decide +kernel
theorem dX10_faultOf_55 : decode cX10_faultOf 55 = .ok (.aload_n 0, 1) := by decide +kernel
theorem dX10_faultOf_56 : decode cX10_faultOf 56 = .ok (.getfield 88, 3) := by decide +kernel
theorem dX10_faultOf_59 : decode cX10_faultOf 59 = .ok (.iload_n 2, 1) := by decide +kernel
theorem dX10_faultOf_60 : decode cX10_faultOf 60 = .ok (.iadd, 1) := by decide +kernel
theorem dX10_faultOf_61 : decode cX10_faultOf 61 = .ok (.ireturn, 1) := by decide +kernel
theorem dX10_faultOf_62 : decode cX10_faultOf 62 = .ok (.iinc 2 1, 3) := by decide +kernel
theorem dX10_faultOf_65 : decode cX10_faultOf 65 = .ok (.goto (-29), 3) := by decide +kernel
theorem dX10_faultOf_68 : decode cX10_faultOf 68 = .ok (.aload_n 0, 1) := by decide +kernel
theorem dX10_faultOf_69 : decode cX10_faultOf 69 = .ok (.aload_n 0, 1) := by decide +kernel
theorem dX10_faultOf_70 : decode cX10_faultOf 70 = .ok (.iload_n 1, 1) := by decide +kernel
theorem dX10_faultOf_71 : decode cX10_faultOf 71 = .ok (.aload_n 0, 1) := by decide +kernel
theorem dX10_faultOf_72 : decode cX10_faultOf 72 = .ok (.getfield 88, 3) := by decide +kernel
theorem dX10_faultOf_75 : decode cX10_faultOf 75 = .ok (.iconst 1, 1) := by decide +kernel
theorem dX10_faultOf_76 : decode cX10_faultOf 76 = .ok (.iadd, 1) := by decide +kernel
theorem dX10_faultOf_77 : decode cX10_faultOf 77 = .ok (.invokevirtual 101, 3) := by decide +kernel
theorem dX10_faultOf_80 : decode cX10_faultOf 80 = .ok (.putfield 108, 3) := by decide +kernel
theorem dX10_faultOf_83 : decode cX10_faultOf 83 = .ok (.aload_n 0, 1) := by decide +kernel
theorem dX10_faultOf_84 : decode cX10_faultOf 84 = .ok (.aload_n 0, 1) := by decide +kernel
theorem dX10_faultOf_85 : decode cX10_faultOf 85 = .ok (.iload_n 1, 1) := by decide +kernel
theorem dX10_faultOf_86 : decode cX10_faultOf 86 = .ok (.aload_n 0, 1) := by decide +kernel
theorem dX10_faultOf_87 : decode cX10_faultOf 87 = .ok (.getfield 88, 3) := by decide +kernel
theorem dX10_faultOf_90 : decode cX10_faultOf 90 = .ok (.iconst 2, 1) := by decide +kernel
theorem dX10_faultOf_91 : decode cX10_faultOf 91 = .ok (.iadd, 1) := by decide +kernel
theorem dX10_faultOf_92 : decode cX10_faultOf 92 = .ok (.invokevirtual 101, 3) := by decide +kernel
theorem dX10_faultOf_95 : decode cX10_faultOf 95 = .ok (.putfield 111, 3) := by decide +kernel
theorem dX10_faultOf_98 : decode cX10_faultOf 98 = .ok (.aload_n 0, 1) := by decide +kernel
theorem dX10_faultOf_99 : decode cX10_faultOf 99 = .ok (.dup, 1) := by decide +kernel
theorem dX10_faultOf_100 : decode cX10_faultOf 100 = .ok (.getfield 88, 3) := by decide +kernel
theorem dX10_faultOf_103 : decode cX10_faultOf 103 = .ok (.iconst 3, 1) := by decide +kernel
theorem dX10_faultOf_104 : decode cX10_faultOf 104 = .ok (.iadd, 1) := by decide +kernel
theorem dX10_faultOf_105 : decode cX10_faultOf 105 = .ok (.putfield 88, 3) := by decide +kernel
theorem dX10_faultOf_108 : decode cX10_faultOf 108 = .ok (.aload_n 0, 1) := by decide +kernel
theorem dX10_faultOf_109 : decode cX10_faultOf 109 = .ok (.iload_n 1, 1) := by decide +kernel
theorem dX10_faultOf_110 : decode cX10_faultOf 110 = .ok (.invokevirtual 104, 3) := by decide +kernel
theorem dX10_faultOf_113 : decode cX10_faultOf 113 = .ok (.aload_n 0, 1) := by decide +kernel
theorem dX10_faultOf_114 : decode cX10_faultOf 114 = .ok (.getfield 88, 3) := by decide +kernel
theorem dX10_faultOf_117 : decode cX10_faultOf 117 = .ok (.aload_n 0, 1) := by decide +kernel
theorem dX10_faultOf_118 : decode cX10_faultOf 118 = .ok (.getfield 28, 3) := by decide +kernel
theorem dX10_faultOf_121 : decode cX10_faultOf 121 = .ok (.iload_n 1, 1) := by decide +kernel
theorem dX10_faultOf_122 : decode cX10_faultOf 122 = .ok (.iaload, 1) := by decide +kernel
theorem dX10_faultOf_123 : decode cX10_faultOf 123 = .ok (.if_icmp .lt 10, 3) := by decide +kernel
theorem dX10_faultOf_126 : decode cX10_faultOf 126 = .ok (.aload_n 0, 1) := by decide +kernel
theorem dX10_faultOf_127 : decode cX10_faultOf 127 = .ok (.getfield 94, 3) := by decide +kernel
theorem dX10_faultOf_130 : decode cX10_faultOf 130 = .ok (.ifCond .ne 25, 3) := by decide +kernel
theorem dX10_faultOf_133 : decode cX10_faultOf 133 = .ok (.aload_n 0, 1) := by decide +kernel
theorem dX10_faultOf_134 : decode cX10_faultOf 134 = .ok (.iload_n 1, 1) := by decide +kernel
theorem dX10_faultOf_135 : decode cX10_faultOf 135 = .ok (.invokevirtual 114, 3) := by decide +kernel
theorem dX10_faultOf_138 : decode cX10_faultOf 138 = .ok (.istore_n 2, 1) := by decide +kernel
theorem dX10_faultOf_139 : decode cX10_faultOf 139 = .ok (.iload_n 2, 1) := by decide +kernel
theorem dX10_faultOf_140 : decode cX10_faultOf 140 = .ok (.bipush (-9), 2) := by decide +kernel
theorem dX10_faultOf_142 : decode cX10_faultOf 142 = .ok (.if_icmp .eq 5, 3) := by decide +kernel
theorem dX10_faultOf_145 : decode cX10_faultOf 145 = .ok (.iload_n 2, 1) := by decide +kernel
theorem dX10_faultOf_146 : decode cX10_faultOf 146 = .ok (.ireturn, 1) := by decide +kernel
theorem dX10_faultOf_147 : decode cX10_faultOf 147 = .ok (.aload_n 0, 1) := by decide +kernel
theorem dX10_faultOf_148 : decode cX10_faultOf 148 = .ok (.iload_n 1, 1) := by decide +kernel
theorem dX10_faultOf_149 : decode cX10_faultOf 149 = .ok (.invokevirtual 104, 3) := by decide +kernel
theorem dX10_faultOf_152 : decode cX10_faultOf 152 = .ok (.goto (-39), 3) := by decide +kernel
theorem dX10_faultOf_155 : decode cX10_faultOf 155 = .ok (.bipush (-9), 2) := by decide +kernel
theorem dX10_faultOf_157 : decode cX10_faultOf 157 = .ok (.ireturn, 1) := by decide +kernel
theorem dX10_fault_0 : decode cX10_fault 0 = .ok (.iload_n 1, 1) := by decide +kernel
theorem dX10_fault_1 : decode cX10_fault 1 = .ok (.invokestatic 82, 3) := by decide +kernel
theorem dX10_fault_4 : decode cX10_fault 4 = .ok (.ifCond .ne 5, 3) := by decide +kernel
theorem dX10_fault_7 : decode cX10_fault 7 = .ok (.iconst (-1), 1) := by decide +kernel
theorem dX10_fault_8 : decode cX10_fault 8 = .ok (.ireturn, 1) := by decide +kernel
theorem dX10_fault_9 : decode cX10_fault 9 = .ok (.aload_n 0, 1) := by decide +kernel
theorem dX10_fault_10 : decode cX10_fault 10 = .ok (.getfield 28, 3) := by decide +kernel
theorem dX10_fault_13 : decode cX10_fault 13 = .ok (.iload_n 1, 1) := by decide +kernel
theorem dX10_fault_14 : decode cX10_fault 14 = .ok (.iaload, 1) := by decide +kernel
theorem dX10_fault_15 : decode cX10_fault 15 = .ok (.bipush (-9), 2) := by decide +kernel
theorem dX10_fault_17 : decode cX10_fault 17 = .ok (.if_icmp .ne 11, 3) := by decide +kernel
theorem dX10_fault_20 : decode cX10_fault 20 = .ok (.aload_n 0, 1) := by decide +kernel
theorem dX10_fault_21 : decode cX10_fault 21 = .ok (.iconst 1, 1) := by decide +kernel
theorem dX10_fault_22 : decode cX10_fault 22 = .ok (.invokevirtual 71, 3) := by decide +kernel
theorem dX10_fault_25 : decode cX10_fault 25 = .ok (.goto 8, 3) := by decide +kernel
theorem dX10_fault_28 : decode cX10_fault 28 = .ok (.aload_n 0, 1) := by decide +kernel
theorem dX10_fault_29 : decode cX10_fault 29 = .ok (.iload_n 1, 1) := by decide +kernel
theorem dX10_fault_30 : decode cX10_fault 30 = .ok (.invokevirtual 117, 3) := by decide +kernel
theorem dX10_fault_33 : decode cX10_fault 33 = .ok (.ireturn, 1) := by decide +kernel
theorem dX10_front_0 : decode cX10_front 0 = .ok (.iload_n 1, 1) := by decide +kernel
theorem dX10_front_1 : decode cX10_front 1 = .ok (.invokestatic 82, 3) := by decide +kernel
theorem dX10_front_4 : decode cX10_front 4 = .ok (.ifCond .ne 5, 3) := by decide +kernel
theorem dX10_front_7 : decode cX10_front 7 = .ok (.iconst (-1), 1) := by decide +kernel
theorem dX10_front_8 : decode cX10_front 8 = .ok (.ireturn, 1) := by decide +kernel
theorem dX10_front_9 : decode cX10_front 9 = .ok (.aload_n 0, 1) := by decide +kernel
theorem dX10_front_10 : decode cX10_front 10 = .ok (.getfield 28, 3) := by decide +kernel
theorem dX10_front_13 : decode cX10_front 13 = .ok (.iload_n 1, 1) := by decide +kernel
theorem dX10_front_14 : decode cX10_front 14 = .ok (.iaload, 1) := by decide +kernel
theorem dX10_front_15 : decode cX10_front 15 = .ok (.bipush (-9), 2) := by decide +kernel
theorem dX10_front_17 : decode cX10_front 17 = .ok (.if_icmp .ne 9, 3) := by decide +kernel
theorem dX10_front_20 : decode cX10_front 20 = .ok (.aload_n 0, 1) := by decide +kernel
theorem dX10_front_21 : decode cX10_front 21 = .ok (.iconst 1, 1) := by decide +kernel
theorem dX10_front_22 : decode cX10_front 22 = .ok (.invokevirtual 71, 3) := by decide +kernel
theorem dX10_front_25 : decode cX10_front 25 = .ok (.ireturn, 1) := by decide +kernel
theorem dX10_front_26 : decode cX10_front 26 = .ok (.aload_n 0, 1) := by decide +kernel
theorem dX10_front_27 : decode cX10_front 27 = .ok (.iload_n 1, 1) := by decide +kernel
theorem dX10_front_28 : decode cX10_front 28 = .ok (.invokevirtual 117, 3) := by decide +kernel
theorem dX10_front_31 : decode cX10_front 31 = .ok (.bipush (-9), 2) := by decide +kernel
theorem dX10_front_33 : decode cX10_front 33 = .ok (.if_icmp .eq 6, 3) := by decide +kernel
theorem dX10_front_36 : decode cX10_front 36 = .ok (.bipush (-4), 2) := by decide +kernel
theorem dX10_front_38 : decode cX10_front 38 = .ok (.ireturn, 1) := by decide +kernel
theorem dX10_front_39 : decode cX10_front 39 = .ok (.aload_n 0, 1) := by decide +kernel
theorem dX10_front_40 : decode cX10_front 40 = .ok (.aload_n 0, 1) := by decide +kernel
theorem dX10_front_41 : decode cX10_front 41 = .ok (.getfield 94, 3) := by decide +kernel
theorem dX10_front_44 : decode cX10_front 44 = .ok (.putfield 120, 3) := by decide +kernel
theorem dX10_front_47 : decode cX10_front 47 = .ok (.aload_n 0, 1) := by decide +kernel
theorem dX10_front_48 : decode cX10_front 48 = .ok (.aload_n 0, 1) := by decide +kernel
theorem dX10_front_49 : decode cX10_front 49 = .ok (.getfield 108, 3) := by decide +kernel
theorem dX10_front_52 : decode cX10_front 52 = .ok (.putfield 123, 3) := by decide +kernel
theorem dX10_front_55 : decode cX10_front 55 = .ok (.aload_n 0, 1) := by decide +kernel
theorem dX10_front_56 : decode cX10_front 56 = .ok (.aload_n 0, 1) := by decide +kernel
theorem dX10_front_57 : decode cX10_front 57 = .ok (.getfield 111, 3) := by decide +kernel
theorem dX10_front_60 : decode cX10_front 60 = .ok (.putfield 126, 3) := by decide +kernel
theorem dX10_front_63 : decode cX10_front 63 = .ok (.aload_n 0, 1) := by decide +kernel
theorem dX10_front_64 : decode cX10_front 64 = .ok (.iconst 0, 1) := by decide +kernel
theorem dX10_front_65 : decode cX10_front 65 = .ok (.putfield 129, 3) := by decide +kernel
theorem dX10_front_68 : decode cX10_front 68 = .ok (.iconst 0, 1) := by decide +kernel
theorem dX10_front_69 : decode cX10_front 69 = .ok (.istore_n 2, 1) := by decide +kernel
theorem dX10_front_70 : decode cX10_front 70 = .ok (.iload_n 2, 1) := by decide +kernel
theorem dX10_front_71 : decode cX10_front 71 = .ok (.aload_n 0, 1) := by decide +kernel
theorem dX10_front_72 : decode cX10_front 72 = .ok (.getfield 120, 3) := by decide +kernel
theorem dX10_front_75 : decode cX10_front 75 = .ok (.if_icmp .ge 48, 3) := by decide +kernel
theorem dX10_front_78 : decode cX10_front 78 = .ok (.aload_n 0, 1) := by decide +kernel
theorem dX10_front_79 : decode cX10_front 79 = .ok (.getfield 13, 3) := by decide +kernel
theorem dX10_front_82 : decode cX10_front 82 = .ok (.iload_n 2, 1) := by decide +kernel
theorem dX10_front_83 : decode cX10_front 83 = .ok (.aload_n 0, 1) := by decide +kernel
theorem dX10_front_84 : decode cX10_front 84 = .ok (.getfield 38, 3) := by decide +kernel
theorem dX10_front_87 : decode cX10_front 87 = .ok (.iload_n 2, 1) := by decide +kernel
theorem dX10_front_88 : decode cX10_front 88 = .ok (.iaload, 1) := by decide +kernel
theorem dX10_front_89 : decode cX10_front 89 = .ok (.iastore, 1) := by decide +kernel
theorem dX10_front_90 : decode cX10_front 90 = .ok (.aload_n 0, 1) := by decide +kernel
theorem dX10_front_91 : decode cX10_front 91 = .ok (.getfield 7, 3) := by decide +kernel
theorem dX10_front_94 : decode cX10_front 94 = .ok (.iload_n 2, 1) := by decide +kernel
theorem dX10_front_95 : decode cX10_front 95 = .ok (.aload_n 0, 1) := by decide +kernel
theorem dX10_front_96 : decode cX10_front 96 = .ok (.getfield 41, 3) := by decide +kernel
theorem dX10_front_99 : decode cX10_front 99 = .ok (.iload_n 2, 1) := by decide +kernel
theorem dX10_front_100 : decode cX10_front 100 = .ok (.iaload, 1) := by decide +kernel
theorem dX10_front_101 : decode cX10_front 101 = .ok (.iastore, 1) := by decide +kernel
theorem dX10_front_102 : decode cX10_front 102 = .ok (.aload_n 0, 1) := by decide +kernel
theorem dX10_front_103 : decode cX10_front 103 = .ok (.getfield 7, 3) := by decide +kernel
theorem dX10_front_106 : decode cX10_front 106 = .ok (.bipush 6, 2) := by decide +kernel
theorem dX10_front_108 : decode cX10_front 108 = .ok (.iload_n 2, 1) := by decide +kernel
theorem dX10_front_109 : decode cX10_front 109 = .ok (.iadd, 1) := by decide +kernel
theorem dX10_front_110 : decode cX10_front 110 = .ok (.aload_n 0, 1) := by decide +kernel
theorem dX10_front_111 : decode cX10_front 111 = .ok (.getfield 44, 3) := by decide +kernel
theorem dX10_front_114 : decode cX10_front 114 = .ok (.iload_n 2, 1) := by decide +kernel
theorem dX10_front_115 : decode cX10_front 115 = .ok (.iaload, 1) := by decide +kernel
theorem dX10_front_116 : decode cX10_front 116 = .ok (.iastore, 1) := by decide +kernel
theorem dX10_front_117 : decode cX10_front 117 = .ok (.iinc 2 1, 3) := by decide +kernel
theorem dX10_front_120 : decode cX10_front 120 = .ok (.goto (-50), 3) := by decide +kernel
theorem dX10_front_123 : decode cX10_front 123 = .ok (.aload_n 0, 1) := by decide +kernel
theorem dX10_front_124 : decode cX10_front 124 = .ok (.getfield 7, 3) := by decide +kernel
theorem dX10_front_127 : decode cX10_front 127 = .ok (.bipush 12, 2) := by decide +kernel
theorem dX10_front_129 : decode cX10_front 129 = .ok (.iconst 0, 1) := by decide +kernel
theorem dX10_front_130 : decode cX10_front 130 = .ok (.iastore, 1) := by decide +kernel
theorem dX10_front_131 : decode cX10_front 131 = .ok (.aload_n 0, 1) := by decide +kernel
theorem dX10_front_132 : decode cX10_front 132 = .ok (.getfield 7, 3) := by decide +kernel
theorem dX10_front_135 : decode cX10_front 135 = .ok (.bipush 13, 2) := by decide +kernel
theorem dX10_front_137 : decode cX10_front 137 = .ok (.aload_n 0, 1) := by decide +kernel
theorem dX10_front_138 : decode cX10_front 138 = .ok (.getfield 123, 3) := by decide +kernel
theorem dX10_front_141 : decode cX10_front 141 = .ok (.iastore, 1) := by decide +kernel
theorem dX10_front_142 : decode cX10_front 142 = .ok (.aload_n 0, 1) := by decide +kernel
theorem dX10_front_143 : decode cX10_front 143 = .ok (.getfield 7, 3) := by decide +kernel
theorem dX10_front_146 : decode cX10_front 146 = .ok (.bipush 14, 2) := by decide +kernel
theorem dX10_front_148 : decode cX10_front 148 = .ok (.iconst 1, 1) := by decide +kernel
theorem dX10_front_149 : decode cX10_front 149 = .ok (.iastore, 1) := by decide +kernel
theorem dX10_front_150 : decode cX10_front 150 = .ok (.aload_n 0, 1) := by decide +kernel
theorem dX10_front_151 : decode cX10_front 151 = .ok (.getfield 7, 3) := by decide +kernel
theorem dX10_front_154 : decode cX10_front 154 = .ok (.bipush 15, 2) := by decide +kernel
theorem dX10_front_156 : decode cX10_front 156 = .ok (.iconst 0, 1) := by decide +kernel
theorem dX10_front_157 : decode cX10_front 157 = .ok (.iastore, 1) := by decide +kernel
theorem dX10_front_158 : decode cX10_front 158 = .ok (.aload_n 0, 1) := by decide +kernel
theorem dX10_front_159 : decode cX10_front 159 = .ok (.getfield 7, 3) := by decide +kernel
theorem dX10_front_162 : decode cX10_front 162 = .ok (.bipush 16, 2) := by decide +kernel
theorem dX10_front_164 : decode cX10_front 164 = .ok (.iconst 0, 1) := by decide +kernel
theorem dX10_front_165 : decode cX10_front 165 = .ok (.iastore, 1) := by decide +kernel
theorem dX10_front_166 : decode cX10_front 166 = .ok (.aload_n 0, 1) := by decide +kernel
theorem dX10_front_167 : decode cX10_front 167 = .ok (.invokevirtual 53, 3) := by decide +kernel
theorem dX10_front_170 : decode cX10_front 170 = .ok (.aload_n 0, 1) := by decide +kernel
theorem dX10_front_171 : decode cX10_front 171 = .ok (.getfield 120, 3) := by decide +kernel
theorem dX10_front_174 : decode cX10_front 174 = .ok (.ireturn, 1) := by decide +kernel
theorem dX10_now_0 : decode cX10_now 0 = .ok (.bipush 17, 2) := by decide +kernel
theorem dX10_now_2 : decode cX10_now 2 = .ok (.aload_n 0, 1) := by decide +kernel
theorem dX10_now_3 : decode cX10_now 3 = .ok (.getfield 129, 3) := by decide +kernel
theorem dX10_now_6 : decode cX10_now 6 = .ok (.imul, 1) := by decide +kernel
theorem dX10_now_7 : decode cX10_now 7 = .ok (.ireturn, 1) := by decide +kernel
theorem dX10_copyRow_0 : decode cX10_copyRow 0 = .ok (.iconst 0, 1) := by decide +kernel
theorem dX10_copyRow_1 : decode cX10_copyRow 1 = .ok (.istore_n 3, 1) := by decide +kernel
theorem dX10_copyRow_2 : decode cX10_copyRow 2 = .ok (.iload_n 3, 1) := by decide +kernel
theorem dX10_copyRow_3 : decode cX10_copyRow 3 = .ok (.bipush 17, 2) := by decide +kernel
theorem dX10_copyRow_5 : decode cX10_copyRow 5 = .ok (.if_icmp .ge 25, 3) := by decide +kernel
theorem dX10_copyRow_8 : decode cX10_copyRow 8 = .ok (.aload_n 0, 1) := by decide +kernel
theorem dX10_copyRow_9 : decode cX10_copyRow 9 = .ok (.getfield 7, 3) := by decide +kernel
theorem dX10_copyRow_12 : decode cX10_copyRow 12 = .ok (.iload_n 2, 1) := by decide +kernel
theorem dX10_copyRow_13 : decode cX10_copyRow 13 = .ok (.iload_n 3, 1) := by decide +kernel
theorem dX10_copyRow_14 : decode cX10_copyRow 14 = .ok (.iadd, 1) := by decide +kernel
theorem dX10_copyRow_15 : decode cX10_copyRow 15 = .ok (.aload_n 0, 1) := by decide +kernel
theorem dX10_copyRow_16 : decode cX10_copyRow 16 = .ok (.getfield 7, 3) := by decide +kernel
theorem dX10_copyRow_19 : decode cX10_copyRow 19 = .ok (.iload_n 1, 1) := by decide +kernel
theorem dX10_copyRow_20 : decode cX10_copyRow 20 = .ok (.iload_n 3, 1) := by decide +kernel
theorem dX10_copyRow_21 : decode cX10_copyRow 21 = .ok (.iadd, 1) := by decide +kernel
theorem dX10_copyRow_22 : decode cX10_copyRow 22 = .ok (.iaload, 1) := by decide +kernel
theorem dX10_copyRow_23 : decode cX10_copyRow 23 = .ok (.iastore, 1) := by decide +kernel
theorem dX10_copyRow_24 : decode cX10_copyRow 24 = .ok (.iinc 3 1, 3) := by decide +kernel
theorem dX10_copyRow_27 : decode cX10_copyRow 27 = .ok (.goto (-25), 3) := by decide +kernel
theorem dX10_copyRow_30 : decode cX10_copyRow 30 = .ok (.return_, 1) := by decide +kernel
theorem dX10_lesser_0 : decode cX10_lesser 0 = .ok (.iload_n 0, 1) := by decide +kernel
theorem dX10_lesser_1 : decode cX10_lesser 1 = .ok (.iload_n 1, 1) := by decide +kernel
theorem dX10_lesser_2 : decode cX10_lesser 2 = .ok (.if_icmp .ge 7, 3) := by decide +kernel
theorem dX10_lesser_5 : decode cX10_lesser 5 = .ok (.iload_n 0, 1) := by decide +kernel
theorem dX10_lesser_6 : decode cX10_lesser 6 = .ok (.goto 4, 3) := by decide +kernel
theorem dX10_lesser_9 : decode cX10_lesser 9 = .ok (.iload_n 1, 1) := by decide +kernel
theorem dX10_lesser_10 : decode cX10_lesser 10 = .ok (.ireturn, 1) := by decide +kernel
theorem dX10_gatheredBy_0 : decode cX10_gatheredBy 0 = .ok (.iload_n 0, 1) := by decide +kernel
theorem dX10_gatheredBy_1 : decode cX10_gatheredBy 1 = .ok (.tableswitch 56 2 5 #[31, 38, 56, 42], 31) := by decide +kernel
theorem dX10_gatheredBy_32 : decode cX10_gatheredBy 32 = .ok (.iload_n 1, 1) := by decide +kernel
theorem dX10_gatheredBy_33 : decode cX10_gatheredBy 33 = .ok (.bipush 9, 2) := by decide +kernel
theorem dX10_gatheredBy_35 : decode cX10_gatheredBy 35 = .ok (.invokestatic 132, 3) := by decide +kernel
theorem dX10_gatheredBy_38 : decode cX10_gatheredBy 38 = .ok (.ireturn, 1) := by decide +kernel
theorem dX10_gatheredBy_39 : decode cX10_gatheredBy 39 = .ok (.iload_n 1, 1) := by decide +kernel
theorem dX10_gatheredBy_40 : decode cX10_gatheredBy 40 = .ok (.iconst 2, 1) := by decide +kernel
theorem dX10_gatheredBy_41 : decode cX10_gatheredBy 41 = .ok (.idiv, 1) := by decide +kernel
theorem dX10_gatheredBy_42 : decode cX10_gatheredBy 42 = .ok (.ireturn, 1) := by decide +kernel
theorem dX10_gatheredBy_43 : decode cX10_gatheredBy 43 = .ok (.iload_n 1, 1) := by decide +kernel
theorem dX10_gatheredBy_44 : decode cX10_gatheredBy 44 = .ok (.bipush 20, 2) := by decide +kernel
theorem dX10_gatheredBy_46 : decode cX10_gatheredBy 46 = .ok (.if_icmp .lt 7, 3) := by decide +kernel
theorem dX10_gatheredBy_49 : decode cX10_gatheredBy 49 = .ok (.iload_n 1, 1) := by decide +kernel
theorem dX10_gatheredBy_50 : decode cX10_gatheredBy 50 = .ok (.goto 6, 3) := by decide +kernel
theorem dX10_gatheredBy_53 : decode cX10_gatheredBy 53 = .ok (.iload_n 1, 1) := by decide +kernel
theorem dX10_gatheredBy_54 : decode cX10_gatheredBy 54 = .ok (.iconst 2, 1) := by decide +kernel
theorem dX10_gatheredBy_55 : decode cX10_gatheredBy 55 = .ok (.idiv, 1) := by decide +kernel
theorem dX10_gatheredBy_56 : decode cX10_gatheredBy 56 = .ok (.ireturn, 1) := by decide +kernel
theorem dX10_gatheredBy_57 : decode cX10_gatheredBy 57 = .ok (.iload_n 1, 1) := by decide +kernel
theorem dX10_gatheredBy_58 : decode cX10_gatheredBy 58 = .ok (.iconst 2, 1) := by decide +kernel
theorem dX10_gatheredBy_59 : decode cX10_gatheredBy 59 = .ok (.invokestatic 132, 3) := by decide +kernel
theorem dX10_gatheredBy_62 : decode cX10_gatheredBy 62 = .ok (.ireturn, 1) := by decide +kernel
theorem dX10_turnIn_0 : decode cX10_turnIn 0 = .ok (.aload_n 0, 1) := by decide +kernel
theorem dX10_turnIn_1 : decode cX10_turnIn 1 = .ok (.getfield 7, 3) := by decide +kernel
theorem dX10_turnIn_4 : decode cX10_turnIn 4 = .ok (.iload_n 1, 1) := by decide +kernel
theorem dX10_turnIn_5 : decode cX10_turnIn 5 = .ok (.bipush 12, 2) := by decide +kernel
theorem dX10_turnIn_7 : decode cX10_turnIn 7 = .ok (.iadd, 1) := by decide +kernel
theorem dX10_turnIn_8 : decode cX10_turnIn 8 = .ok (.iaload, 1) := by decide +kernel
theorem dX10_turnIn_9 : decode cX10_turnIn 9 = .ok (.istore 5, 2) := by decide +kernel
theorem dX10_turnIn_11 : decode cX10_turnIn 11 = .ok (.iload 5, 2) := by decide +kernel
theorem dX10_turnIn_13 : decode cX10_turnIn 13 = .ok (.ifCond .le 71, 3) := by decide +kernel
theorem dX10_turnIn_16 : decode cX10_turnIn 16 = .ok (.aload_n 0, 1) := by decide +kernel
theorem dX10_turnIn_17 : decode cX10_turnIn 17 = .ok (.getfield 7, 3) := by decide +kernel
theorem dX10_turnIn_20 : decode cX10_turnIn 20 = .ok (.iload_n 1, 1) := by decide +kernel
theorem dX10_turnIn_21 : decode cX10_turnIn 21 = .ok (.bipush 15, 2) := by decide +kernel
theorem dX10_turnIn_23 : decode cX10_turnIn 23 = .ok (.iadd, 1) := by decide +kernel
theorem dX10_turnIn_24 : decode cX10_turnIn 24 = .ok (.iaload, 1) := by decide +kernel
theorem dX10_turnIn_25 : decode cX10_turnIn 25 = .ok (.iconst 1, 1) := by decide +kernel
theorem dX10_turnIn_26 : decode cX10_turnIn 26 = .ok (.if_icmp .ne 10, 3) := by decide +kernel
theorem dX10_turnIn_29 : decode cX10_turnIn 29 = .ok (.iload 5, 2) := by decide +kernel
theorem dX10_turnIn_31 : decode cX10_turnIn 31 = .ok (.iconst 2, 1) := by decide +kernel
theorem dX10_turnIn_32 : decode cX10_turnIn 32 = .ok (.idiv, 1) := by decide +kernel
theorem dX10_turnIn_33 : decode cX10_turnIn 33 = .ok (.goto 15, 3) := by decide +kernel
theorem dX10_turnIn_36 : decode cX10_turnIn 36 = .ok (.bipush 60, 2) := by decide +kernel
theorem dX10_turnIn_38 : decode cX10_turnIn 38 = .ok (.iload 5, 2) := by decide +kernel
theorem dX10_turnIn_40 : decode cX10_turnIn 40 = .ok (.aload_n 0, 1) := by decide +kernel
theorem dX10_turnIn_41 : decode cX10_turnIn 41 = .ok (.getfield 126, 3) := by decide +kernel
theorem dX10_turnIn_44 : decode cX10_turnIn 44 = .ok (.iadd, 1) := by decide +kernel
theorem dX10_turnIn_45 : decode cX10_turnIn 45 = .ok (.invokestatic 132, 3) := by decide +kernel
theorem dX10_turnIn_48 : decode cX10_turnIn 48 = .ok (.istore 5, 2) := by decide +kernel
theorem dX10_turnIn_50 : decode cX10_turnIn 50 = .ok (.aload_n 0, 1) := by decide +kernel
theorem dX10_turnIn_51 : decode cX10_turnIn 51 = .ok (.getfield 7, 3) := by decide +kernel
theorem dX10_turnIn_54 : decode cX10_turnIn 54 = .ok (.iload_n 1, 1) := by decide +kernel
theorem dX10_turnIn_55 : decode cX10_turnIn 55 = .ok (.bipush 13, 2) := by decide +kernel
theorem dX10_turnIn_57 : decode cX10_turnIn 57 = .ok (.iadd, 1) := by decide +kernel
theorem dX10_turnIn_58 : decode cX10_turnIn 58 = .ok (.aload_n 0, 1) := by decide +kernel
theorem dX10_turnIn_59 : decode cX10_turnIn 59 = .ok (.getfield 7, 3) := by decide +kernel
theorem dX10_turnIn_62 : decode cX10_turnIn 62 = .ok (.iload_n 1, 1) := by decide +kernel
theorem dX10_turnIn_63 : decode cX10_turnIn 63 = .ok (.bipush 13, 2) := by decide +kernel
theorem dX10_turnIn_65 : decode cX10_turnIn 65 = .ok (.iadd, 1) := by decide +kernel
theorem dX10_turnIn_66 : decode cX10_turnIn 66 = .ok (.iaload, 1) := by decide +kernel
theorem dX10_turnIn_67 : decode cX10_turnIn 67 = .ok (.aload_n 0, 1) := by decide +kernel
theorem dX10_turnIn_68 : decode cX10_turnIn 68 = .ok (.getfield 7, 3) := by decide +kernel
theorem dX10_turnIn_71 : decode cX10_turnIn 71 = .ok (.iload_n 1, 1) := by decide +kernel
theorem dX10_turnIn_72 : decode cX10_turnIn 72 = .ok (.bipush 14, 2) := by decide +kernel
theorem dX10_turnIn_74 : decode cX10_turnIn 74 = .ok (.iadd, 1) := by decide +kernel
theorem dX10_turnIn_75 : decode cX10_turnIn 75 = .ok (.iaload, 1) := by decide +kernel
theorem dX10_turnIn_76 : decode cX10_turnIn 76 = .ok (.iadd, 1) := by decide +kernel
theorem dX10_turnIn_77 : decode cX10_turnIn 77 = .ok (.bipush 9, 2) := by decide +kernel
theorem dX10_turnIn_79 : decode cX10_turnIn 79 = .ok (.iadd, 1) := by decide +kernel
theorem dX10_turnIn_80 : decode cX10_turnIn 80 = .ok (.bipush 10, 2) := by decide +kernel
theorem dX10_turnIn_82 : decode cX10_turnIn 82 = .ok (.irem, 1) := by decide +kernel
theorem dX10_turnIn_83 : decode cX10_turnIn 83 = .ok (.iastore, 1) := by decide +kernel
theorem dX10_turnIn_84 : decode cX10_turnIn 84 = .ok (.iconst 0, 1) := by decide +kernel
theorem dX10_turnIn_85 : decode cX10_turnIn 85 = .ok (.istore 6, 2) := by decide +kernel
theorem dX10_turnIn_87 : decode cX10_turnIn 87 = .ok (.iconst 0, 1) := by decide +kernel
theorem dX10_turnIn_88 : decode cX10_turnIn 88 = .ok (.istore 7, 2) := by decide +kernel
theorem dX10_turnIn_90 : decode cX10_turnIn 90 = .ok (.iload 7, 2) := by decide +kernel
theorem dX10_turnIn_92 : decode cX10_turnIn 92 = .ok (.aload_n 0, 1) := by decide +kernel
theorem dX10_turnIn_93 : decode cX10_turnIn 93 = .ok (.getfield 120, 3) := by decide +kernel
theorem dX10_turnIn_96 : decode cX10_turnIn 96 = .ok (.if_icmp .ge 224, 3) := by decide +kernel
theorem dX10_turnIn_99 : decode cX10_turnIn 99 = .ok (.iload 7, 2) := by decide +kernel
theorem dX10_turnIn_101 : decode cX10_turnIn 101 = .ok (.iload_n 3, 1) := by decide +kernel
theorem dX10_turnIn_102 : decode cX10_turnIn 102 = .ok (.if_icmp .ne 8, 3) := by decide +kernel
theorem dX10_turnIn_105 : decode cX10_turnIn 105 = .ok (.iload 4, 2) := by decide +kernel
theorem dX10_turnIn_107 : decode cX10_turnIn 107 = .ok (.goto 10, 3) := by decide +kernel
theorem dX10_turnIn_110 : decode cX10_turnIn 110 = .ok (.aload_n 0, 1) := by decide +kernel
theorem dX10_turnIn_111 : decode cX10_turnIn 111 = .ok (.getfield 13, 3) := by decide +kernel
theorem dX10_turnIn_114 : decode cX10_turnIn 114 = .ok (.iload 7, 2) := by decide +kernel
theorem dX10_turnIn_116 : decode cX10_turnIn 116 = .ok (.iaload, 1) := by decide +kernel
theorem dX10_turnIn_117 : decode cX10_turnIn 117 = .ok (.istore 8, 2) := by decide +kernel
theorem dX10_turnIn_119 : decode cX10_turnIn 119 = .ok (.aload_n 0, 1) := by decide +kernel
theorem dX10_turnIn_120 : decode cX10_turnIn 120 = .ok (.getfield 7, 3) := by decide +kernel
theorem dX10_turnIn_123 : decode cX10_turnIn 123 = .ok (.iload_n 1, 1) := by decide +kernel
theorem dX10_turnIn_124 : decode cX10_turnIn 124 = .ok (.iload 7, 2) := by decide +kernel
theorem dX10_turnIn_126 : decode cX10_turnIn 126 = .ok (.iadd, 1) := by decide +kernel
theorem dX10_turnIn_127 : decode cX10_turnIn 127 = .ok (.iaload, 1) := by decide +kernel
theorem dX10_turnIn_128 : decode cX10_turnIn 128 = .ok (.aload_n 0, 1) := by decide +kernel
theorem dX10_turnIn_129 : decode cX10_turnIn 129 = .ok (.getfield 7, 3) := by decide +kernel
theorem dX10_turnIn_132 : decode cX10_turnIn 132 = .ok (.iload_n 1, 1) := by decide +kernel
theorem dX10_turnIn_133 : decode cX10_turnIn 133 = .ok (.bipush 13, 2) := by decide +kernel
theorem dX10_turnIn_135 : decode cX10_turnIn 135 = .ok (.iadd, 1) := by decide +kernel
theorem dX10_turnIn_136 : decode cX10_turnIn 136 = .ok (.iaload, 1) := by decide +kernel
theorem dX10_turnIn_137 : decode cX10_turnIn 137 = .ok (.if_icmp .ne 22, 3) := by decide +kernel
theorem dX10_turnIn_140 : decode cX10_turnIn 140 = .ok (.iload_n 2, 1) := by decide +kernel
theorem dX10_turnIn_141 : decode cX10_turnIn 141 = .ok (.iload 7, 2) := by decide +kernel
theorem dX10_turnIn_143 : decode cX10_turnIn 143 = .ok (.invokestatic 135, 3) := by decide +kernel
theorem dX10_turnIn_146 : decode cX10_turnIn 146 = .ok (.ifCond .ne 13, 3) := by decide +kernel
theorem dX10_turnIn_149 : decode cX10_turnIn 149 = .ok (.iload 8, 2) := by decide +kernel
theorem dX10_turnIn_151 : decode cX10_turnIn 151 = .ok (.iload 5, 2) := by decide +kernel
theorem dX10_turnIn_153 : decode cX10_turnIn 153 = .ok (.invokestatic 138, 3) := by decide +kernel
theorem dX10_turnIn_156 : decode cX10_turnIn 156 = .ok (.goto 4, 3) := by decide +kernel
theorem dX10_turnIn_159 : decode cX10_turnIn 159 = .ok (.iconst 0, 1) := by decide +kernel
theorem dX10_turnIn_160 : decode cX10_turnIn 160 = .ok (.istore 9, 2) := by decide +kernel
theorem dX10_turnIn_162 : decode cX10_turnIn 162 = .ok (.iload 9, 2) := by decide +kernel
theorem dX10_turnIn_164 : decode cX10_turnIn 164 = .ok (.ifCond .le 73, 3) := by decide +kernel
theorem dX10_turnIn_167 : decode cX10_turnIn 167 = .ok (.iload 6, 2) := by decide +kernel
theorem dX10_turnIn_169 : decode cX10_turnIn 169 = .ok (.iconst 1, 1) := by decide +kernel
theorem dX10_turnIn_170 : decode cX10_turnIn 170 = .ok (.iload 7, 2) := by decide +kernel
theorem dX10_turnIn_172 : decode cX10_turnIn 172 = .ok (.ishl, 1) := by decide +kernel
theorem dX10_turnIn_173 : decode cX10_turnIn 173 = .ok (.ior, 1) := by decide +kernel
theorem dX10_turnIn_174 : decode cX10_turnIn 174 = .ok (.istore 6, 2) := by decide +kernel
theorem dX10_turnIn_176 : decode cX10_turnIn 176 = .ok (.aload_n 0, 1) := by decide +kernel
theorem dX10_turnIn_177 : decode cX10_turnIn 177 = .ok (.getfield 7, 3) := by decide +kernel
theorem dX10_turnIn_180 : decode cX10_turnIn 180 = .ok (.iload_n 1, 1) := by decide +kernel
theorem dX10_turnIn_181 : decode cX10_turnIn 181 = .ok (.bipush 6, 2) := by decide +kernel
theorem dX10_turnIn_183 : decode cX10_turnIn 183 = .ok (.iadd, 1) := by decide +kernel
theorem dX10_turnIn_184 : decode cX10_turnIn 184 = .ok (.iload 7, 2) := by decide +kernel
theorem dX10_turnIn_186 : decode cX10_turnIn 186 = .ok (.iadd, 1) := by decide +kernel
theorem dX10_turnIn_187 : decode cX10_turnIn 187 = .ok (.bipush 30, 2) := by decide +kernel
theorem dX10_turnIn_189 : decode cX10_turnIn 189 = .ok (.aload_n 0, 1) := by decide +kernel
theorem dX10_turnIn_190 : decode cX10_turnIn 190 = .ok (.getfield 7, 3) := by decide +kernel
theorem dX10_turnIn_193 : decode cX10_turnIn 193 = .ok (.iload_n 1, 1) := by decide +kernel
theorem dX10_turnIn_194 : decode cX10_turnIn 194 = .ok (.bipush 6, 2) := by decide +kernel
theorem dX10_turnIn_196 : decode cX10_turnIn 196 = .ok (.iadd, 1) := by decide +kernel
theorem dX10_turnIn_197 : decode cX10_turnIn 197 = .ok (.iload 7, 2) := by decide +kernel
theorem dX10_turnIn_199 : decode cX10_turnIn 199 = .ok (.iadd, 1) := by decide +kernel
theorem dX10_turnIn_200 : decode cX10_turnIn 200 = .ok (.iaload, 1) := by decide +kernel
theorem dX10_turnIn_201 : decode cX10_turnIn 201 = .ok (.iload 9, 2) := by decide +kernel
theorem dX10_turnIn_203 : decode cX10_turnIn 203 = .ok (.iadd, 1) := by decide +kernel
theorem dX10_turnIn_204 : decode cX10_turnIn 204 = .ok (.invokestatic 132, 3) := by decide +kernel
theorem dX10_turnIn_207 : decode cX10_turnIn 207 = .ok (.iastore, 1) := by decide +kernel
theorem dX10_turnIn_208 : decode cX10_turnIn 208 = .ok (.iload 5, 2) := by decide +kernel
theorem dX10_turnIn_210 : decode cX10_turnIn 210 = .ok (.iload 9, 2) := by decide +kernel
theorem dX10_turnIn_212 : decode cX10_turnIn 212 = .ok (.isub, 1) := by decide +kernel
theorem dX10_turnIn_213 : decode cX10_turnIn 213 = .ok (.istore 5, 2) := by decide +kernel
theorem dX10_turnIn_215 : decode cX10_turnIn 215 = .ok (.iload 8, 2) := by decide +kernel
theorem dX10_turnIn_217 : decode cX10_turnIn 217 = .ok (.iconst 4, 1) := by decide +kernel
theorem dX10_turnIn_218 : decode cX10_turnIn 218 = .ok (.if_icmp .ne 15, 3) := by decide +kernel
theorem dX10_turnIn_221 : decode cX10_turnIn 221 = .ok (.bipush 60, 2) := by decide +kernel
theorem dX10_turnIn_223 : decode cX10_turnIn 223 = .ok (.iload 5, 2) := by decide +kernel
theorem dX10_turnIn_225 : decode cX10_turnIn 225 = .ok (.iconst 3, 1) := by decide +kernel
theorem dX10_turnIn_226 : decode cX10_turnIn 226 = .ok (.iadd, 1) := by decide +kernel
theorem dX10_turnIn_227 : decode cX10_turnIn 227 = .ok (.invokestatic 132, 3) := by decide +kernel
theorem dX10_turnIn_230 : decode cX10_turnIn 230 = .ok (.goto 5, 3) := by decide +kernel
theorem dX10_turnIn_233 : decode cX10_turnIn 233 = .ok (.iload 5, 2) := by decide +kernel
theorem dX10_turnIn_235 : decode cX10_turnIn 235 = .ok (.istore 5, 2) := by decide +kernel
theorem dX10_turnIn_237 : decode cX10_turnIn 237 = .ok (.iload 8, 2) := by decide +kernel
theorem dX10_turnIn_239 : decode cX10_turnIn 239 = .ok (.iconst 1, 1) := by decide +kernel
theorem dX10_turnIn_240 : decode cX10_turnIn 240 = .ok (.if_icmp .eq 21, 3) := by decide +kernel
theorem dX10_turnIn_243 : decode cX10_turnIn 243 = .ok (.iload 8, 2) := by decide +kernel
theorem dX10_turnIn_245 : decode cX10_turnIn 245 = .ok (.iconst 4, 1) := by decide +kernel
theorem dX10_turnIn_246 : decode cX10_turnIn 246 = .ok (.if_icmp .eq 15, 3) := by decide +kernel
theorem dX10_turnIn_249 : decode cX10_turnIn 249 = .ok (.aload_n 0, 1) := by decide +kernel
theorem dX10_turnIn_250 : decode cX10_turnIn 250 = .ok (.getfield 7, 3) := by decide +kernel
theorem dX10_turnIn_253 : decode cX10_turnIn 253 = .ok (.iload_n 1, 1) := by decide +kernel
theorem dX10_turnIn_254 : decode cX10_turnIn 254 = .ok (.bipush 15, 2) := by decide +kernel
theorem dX10_turnIn_256 : decode cX10_turnIn 256 = .ok (.iadd, 1) := by decide +kernel
theorem dX10_turnIn_257 : decode cX10_turnIn 257 = .ok (.iaload, 1) := by decide +kernel
theorem dX10_turnIn_258 : decode cX10_turnIn 258 = .ok (.ifCond .ne 7, 3) := by decide +kernel
theorem dX10_turnIn_261 : decode cX10_turnIn 261 = .ok (.iconst 1, 1) := by decide +kernel
theorem dX10_turnIn_262 : decode cX10_turnIn 262 = .ok (.goto 4, 3) := by decide +kernel
theorem dX10_turnIn_265 : decode cX10_turnIn 265 = .ok (.iconst 0, 1) := by decide +kernel
theorem dX10_turnIn_266 : decode cX10_turnIn 266 = .ok (.istore 10, 2) := by decide +kernel
theorem dX10_turnIn_268 : decode cX10_turnIn 268 = .ok (.aload_n 0, 1) := by decide +kernel
theorem dX10_turnIn_269 : decode cX10_turnIn 269 = .ok (.getfield 7, 3) := by decide +kernel
theorem dX10_turnIn_272 : decode cX10_turnIn 272 = .ok (.iload_n 1, 1) := by decide +kernel
theorem dX10_turnIn_273 : decode cX10_turnIn 273 = .ok (.bipush 6, 2) := by decide +kernel
theorem dX10_turnIn_275 : decode cX10_turnIn 275 = .ok (.iadd, 1) := by decide +kernel
theorem dX10_turnIn_276 : decode cX10_turnIn 276 = .ok (.iload 7, 2) := by decide +kernel
theorem dX10_turnIn_278 : decode cX10_turnIn 278 = .ok (.iadd, 1) := by decide +kernel
theorem dX10_turnIn_279 : decode cX10_turnIn 279 = .ok (.iload 10, 2) := by decide +kernel
theorem dX10_turnIn_281 : decode cX10_turnIn 281 = .ok (.ifCond .eq 18, 3) := by decide +kernel
theorem dX10_turnIn_284 : decode cX10_turnIn 284 = .ok (.aload_n 0, 1) := by decide +kernel
theorem dX10_turnIn_285 : decode cX10_turnIn 285 = .ok (.getfield 7, 3) := by decide +kernel
theorem dX10_turnIn_288 : decode cX10_turnIn 288 = .ok (.iload_n 1, 1) := by decide +kernel
theorem dX10_turnIn_289 : decode cX10_turnIn 289 = .ok (.bipush 6, 2) := by decide +kernel
theorem dX10_turnIn_291 : decode cX10_turnIn 291 = .ok (.iadd, 1) := by decide +kernel
theorem dX10_turnIn_292 : decode cX10_turnIn 292 = .ok (.iload 7, 2) := by decide +kernel
theorem dX10_turnIn_294 : decode cX10_turnIn 294 = .ok (.iadd, 1) := by decide +kernel
theorem dX10_turnIn_295 : decode cX10_turnIn 295 = .ok (.iaload, 1) := by decide +kernel
theorem dX10_turnIn_296 : decode cX10_turnIn 296 = .ok (.goto 17, 3) := by decide +kernel
theorem dX10_turnIn_299 : decode cX10_turnIn 299 = .ok (.aload_n 0, 1) := by decide +kernel
theorem dX10_turnIn_300 : decode cX10_turnIn 300 = .ok (.getfield 7, 3) := by decide +kernel
theorem dX10_turnIn_303 : decode cX10_turnIn 303 = .ok (.iload_n 1, 1) := by decide +kernel
theorem dX10_turnIn_304 : decode cX10_turnIn 304 = .ok (.bipush 6, 2) := by decide +kernel
theorem dX10_turnIn_306 : decode cX10_turnIn 306 = .ok (.iadd, 1) := by decide +kernel
theorem dX10_turnIn_307 : decode cX10_turnIn 307 = .ok (.iload 7, 2) := by decide +kernel
theorem dX10_turnIn_309 : decode cX10_turnIn 309 = .ok (.iadd, 1) := by decide +kernel
theorem dX10_turnIn_310 : decode cX10_turnIn 310 = .ok (.iaload, 1) := by decide +kernel
theorem dX10_turnIn_311 : decode cX10_turnIn 311 = .ok (.iconst 2, 1) := by decide +kernel
theorem dX10_turnIn_312 : decode cX10_turnIn 312 = .ok (.idiv, 1) := by decide +kernel
theorem dX10_turnIn_313 : decode cX10_turnIn 313 = .ok (.iastore, 1) := by decide +kernel
theorem dX10_turnIn_314 : decode cX10_turnIn 314 = .ok (.iinc 7 1, 3) := by decide +kernel
theorem dX10_turnIn_317 : decode cX10_turnIn 317 = .ok (.goto (-227), 3) := by decide +kernel
theorem dX10_turnIn_320 : decode cX10_turnIn 320 = .ok (.aload_n 0, 1) := by decide +kernel
theorem dX10_turnIn_321 : decode cX10_turnIn 321 = .ok (.getfield 7, 3) := by decide +kernel
theorem dX10_turnIn_324 : decode cX10_turnIn 324 = .ok (.iload_n 1, 1) := by decide +kernel
theorem dX10_turnIn_325 : decode cX10_turnIn 325 = .ok (.bipush 12, 2) := by decide +kernel
theorem dX10_turnIn_327 : decode cX10_turnIn 327 = .ok (.iadd, 1) := by decide +kernel
theorem dX10_turnIn_328 : decode cX10_turnIn 328 = .ok (.iload 5, 2) := by decide +kernel
theorem dX10_turnIn_330 : decode cX10_turnIn 330 = .ok (.iastore, 1) := by decide +kernel
theorem dX10_turnIn_331 : decode cX10_turnIn 331 = .ok (.aload_n 0, 1) := by decide +kernel
theorem dX10_turnIn_332 : decode cX10_turnIn 332 = .ok (.getfield 7, 3) := by decide +kernel
theorem dX10_turnIn_335 : decode cX10_turnIn 335 = .ok (.iload_n 1, 1) := by decide +kernel
theorem dX10_turnIn_336 : decode cX10_turnIn 336 = .ok (.bipush 13, 2) := by decide +kernel
theorem dX10_turnIn_338 : decode cX10_turnIn 338 = .ok (.iadd, 1) := by decide +kernel
theorem dX10_turnIn_339 : decode cX10_turnIn 339 = .ok (.iload 5, 2) := by decide +kernel
theorem dX10_turnIn_341 : decode cX10_turnIn 341 = .ok (.ifCond .ne 10, 3) := by decide +kernel
theorem dX10_turnIn_344 : decode cX10_turnIn 344 = .ok (.aload_n 0, 1) := by decide +kernel
theorem dX10_turnIn_345 : decode cX10_turnIn 345 = .ok (.getfield 123, 3) := by decide +kernel
theorem dX10_turnIn_348 : decode cX10_turnIn 348 = .ok (.goto 12, 3) := by decide +kernel
theorem dX10_turnIn_351 : decode cX10_turnIn 351 = .ok (.aload_n 0, 1) := by decide +kernel
theorem dX10_turnIn_352 : decode cX10_turnIn 352 = .ok (.getfield 7, 3) := by decide +kernel
theorem dX10_turnIn_355 : decode cX10_turnIn 355 = .ok (.iload_n 1, 1) := by decide +kernel
theorem dX10_turnIn_356 : decode cX10_turnIn 356 = .ok (.bipush 13, 2) := by decide +kernel
theorem dX10_turnIn_358 : decode cX10_turnIn 358 = .ok (.iadd, 1) := by decide +kernel
theorem dX10_turnIn_359 : decode cX10_turnIn 359 = .ok (.iaload, 1) := by decide +kernel
theorem dX10_turnIn_360 : decode cX10_turnIn 360 = .ok (.iastore, 1) := by decide +kernel
theorem dX10_turnIn_361 : decode cX10_turnIn 361 = .ok (.aload_n 0, 1) := by decide +kernel
theorem dX10_turnIn_362 : decode cX10_turnIn 362 = .ok (.getfield 7, 3) := by decide +kernel
theorem dX10_turnIn_365 : decode cX10_turnIn 365 = .ok (.iload_n 1, 1) := by decide +kernel
theorem dX10_turnIn_366 : decode cX10_turnIn 366 = .ok (.bipush 16, 2) := by decide +kernel
theorem dX10_turnIn_368 : decode cX10_turnIn 368 = .ok (.iadd, 1) := by decide +kernel
theorem dX10_turnIn_369 : decode cX10_turnIn 369 = .ok (.dup2, 1) := by decide +kernel
theorem dX10_turnIn_370 : decode cX10_turnIn 370 = .ok (.iaload, 1) := by decide +kernel
theorem dX10_turnIn_371 : decode cX10_turnIn 371 = .ok (.iconst 1, 1) := by decide +kernel
theorem dX10_turnIn_372 : decode cX10_turnIn 372 = .ok (.iadd, 1) := by decide +kernel
theorem dX10_turnIn_373 : decode cX10_turnIn 373 = .ok (.iastore, 1) := by decide +kernel
theorem dX10_turnIn_374 : decode cX10_turnIn 374 = .ok (.iload 6, 2) := by decide +kernel
theorem dX10_turnIn_376 : decode cX10_turnIn 376 = .ok (.ireturn, 1) := by decide +kernel
theorem dX10_plainTurn_0 : decode cX10_plainTurn 0 = .ok (.aload_n 0, 1) := by decide +kernel
theorem dX10_plainTurn_1 : decode cX10_plainTurn 1 = .ok (.iload_n 1, 1) := by decide +kernel
theorem dX10_plainTurn_2 : decode cX10_plainTurn 2 = .ok (.iconst 0, 1) := by decide +kernel
theorem dX10_plainTurn_3 : decode cX10_plainTurn 3 = .ok (.bipush (-9), 2) := by decide +kernel
theorem dX10_plainTurn_5 : decode cX10_plainTurn 5 = .ok (.iconst 0, 1) := by decide +kernel
theorem dX10_plainTurn_6 : decode cX10_plainTurn 6 = .ok (.invokevirtual 141, 3) := by decide +kernel
theorem dX10_plainTurn_9 : decode cX10_plainTurn 9 = .ok (.ireturn, 1) := by decide +kernel
theorem dX10_isOne_0 : decode cX10_isOne 0 = .ok (.iload_n 1, 1) := by decide +kernel
theorem dX10_isOne_1 : decode cX10_isOne 1 = .ok (.iconst 0, 1) := by decide +kernel
theorem dX10_isOne_2 : decode cX10_isOne 2 = .ok (.aload_n 0, 1) := by decide +kernel
theorem dX10_isOne_3 : decode cX10_isOne 3 = .ok (.getfield 120, 3) := by decide +kernel
theorem dX10_isOne_6 : decode cX10_isOne 6 = .ok (.iconst 1, 1) := by decide +kernel
theorem dX10_isOne_7 : decode cX10_isOne 7 = .ok (.isub, 1) := by decide +kernel
theorem dX10_isOne_8 : decode cX10_isOne 8 = .ok (.invokestatic 63, 3) := by decide +kernel
theorem dX10_isOne_11 : decode cX10_isOne 11 = .ok (.ireturn, 1) := by decide +kernel
theorem dX10_distance_0 : decode cX10_distance 0 = .ok (.aload_n 0, 1) := by decide +kernel
theorem dX10_distance_1 : decode cX10_distance 1 = .ok (.getfield 7, 3) := by decide +kernel
theorem dX10_distance_4 : decode cX10_distance 4 = .ok (.aload_n 0, 1) := by decide +kernel
theorem dX10_distance_5 : decode cX10_distance 5 = .ok (.invokevirtual 145, 3) := by decide +kernel
theorem dX10_distance_8 : decode cX10_distance 8 = .ok (.iload_n 1, 1) := by decide +kernel
theorem dX10_distance_9 : decode cX10_distance 9 = .ok (.iadd, 1) := by decide +kernel
theorem dX10_distance_10 : decode cX10_distance 10 = .ok (.iaload, 1) := by decide +kernel
theorem dX10_distance_11 : decode cX10_distance 11 = .ok (.aload_n 0, 1) := by decide +kernel
theorem dX10_distance_12 : decode cX10_distance 12 = .ok (.getfield 7, 3) := by decide +kernel
theorem dX10_distance_15 : decode cX10_distance 15 = .ok (.aload_n 0, 1) := by decide +kernel
theorem dX10_distance_16 : decode cX10_distance 16 = .ok (.invokevirtual 145, 3) := by decide +kernel
theorem dX10_distance_19 : decode cX10_distance 19 = .ok (.bipush 13, 2) := by decide +kernel
theorem dX10_distance_21 : decode cX10_distance 21 = .ok (.iadd, 1) := by decide +kernel
theorem dX10_distance_22 : decode cX10_distance 22 = .ok (.iaload, 1) := by decide +kernel
theorem dX10_distance_23 : decode cX10_distance 23 = .ok (.isub, 1) := by decide +kernel
theorem dX10_distance_24 : decode cX10_distance 24 = .ok (.istore_n 2, 1) := by decide +kernel
theorem dX10_distance_25 : decode cX10_distance 25 = .ok (.iload_n 2, 1) := by decide +kernel
theorem dX10_distance_26 : decode cX10_distance 26 = .ok (.ifCond .ge 8, 3) := by decide +kernel
theorem dX10_distance_29 : decode cX10_distance 29 = .ok (.iload_n 2, 1) := by decide +kernel
theorem dX10_distance_30 : decode cX10_distance 30 = .ok (.ineg, 1) := by decide +kernel
theorem dX10_distance_31 : decode cX10_distance 31 = .ok (.goto 4, 3) := by decide +kernel
theorem dX10_distance_34 : decode cX10_distance 34 = .ok (.iload_n 2, 1) := by decide +kernel
theorem dX10_distance_35 : decode cX10_distance 35 = .ok (.istore_n 2, 1) := by decide +kernel
theorem dX10_distance_36 : decode cX10_distance 36 = .ok (.iload_n 2, 1) := by decide +kernel
theorem dX10_distance_37 : decode cX10_distance 37 = .ok (.bipush 10, 2) := by decide +kernel
theorem dX10_distance_39 : decode cX10_distance 39 = .ok (.iload_n 2, 1) := by decide +kernel
theorem dX10_distance_40 : decode cX10_distance 40 = .ok (.isub, 1) := by decide +kernel
theorem dX10_distance_41 : decode cX10_distance 41 = .ok (.invokestatic 132, 3) := by decide +kernel
theorem dX10_distance_44 : decode cX10_distance 44 = .ok (.ireturn, 1) := by decide +kernel
theorem dX10_ofOne_0 : decode cX10_ofOne 0 = .ok (.iload_n 2, 1) := by decide +kernel
theorem dX10_ofOne_1 : decode cX10_ofOne 1 = .ok (.tableswitch 87 0 3 #[31, 38, 50, 65], 31) := by decide +kernel
theorem dX10_ofOne_32 : decode cX10_ofOne 32 = .ok (.aload_n 0, 1) := by decide +kernel
theorem dX10_ofOne_33 : decode cX10_ofOne 33 = .ok (.getfield 13, 3) := by decide +kernel
theorem dX10_ofOne_36 : decode cX10_ofOne 36 = .ok (.iload_n 1, 1) := by decide +kernel
theorem dX10_ofOne_37 : decode cX10_ofOne 37 = .ok (.iaload, 1) := by decide +kernel
theorem dX10_ofOne_38 : decode cX10_ofOne 38 = .ok (.ireturn, 1) := by decide +kernel
theorem dX10_ofOne_39 : decode cX10_ofOne 39 = .ok (.aload_n 0, 1) := by decide +kernel
theorem dX10_ofOne_40 : decode cX10_ofOne 40 = .ok (.getfield 7, 3) := by decide +kernel
theorem dX10_ofOne_43 : decode cX10_ofOne 43 = .ok (.aload_n 0, 1) := by decide +kernel
theorem dX10_ofOne_44 : decode cX10_ofOne 44 = .ok (.invokevirtual 145, 3) := by decide +kernel
theorem dX10_ofOne_47 : decode cX10_ofOne 47 = .ok (.iload_n 1, 1) := by decide +kernel
theorem dX10_ofOne_48 : decode cX10_ofOne 48 = .ok (.iadd, 1) := by decide +kernel
theorem dX10_ofOne_49 : decode cX10_ofOne 49 = .ok (.iaload, 1) := by decide +kernel
theorem dX10_ofOne_50 : decode cX10_ofOne 50 = .ok (.ireturn, 1) := by decide +kernel
theorem dX10_ofOne_51 : decode cX10_ofOne 51 = .ok (.aload_n 0, 1) := by decide +kernel
theorem dX10_ofOne_52 : decode cX10_ofOne 52 = .ok (.getfield 7, 3) := by decide +kernel
theorem dX10_ofOne_55 : decode cX10_ofOne 55 = .ok (.aload_n 0, 1) := by decide +kernel
theorem dX10_ofOne_56 : decode cX10_ofOne 56 = .ok (.invokevirtual 145, 3) := by decide +kernel
theorem dX10_ofOne_59 : decode cX10_ofOne 59 = .ok (.bipush 6, 2) := by decide +kernel
theorem dX10_ofOne_61 : decode cX10_ofOne 61 = .ok (.iadd, 1) := by decide +kernel
theorem dX10_ofOne_62 : decode cX10_ofOne 62 = .ok (.iload_n 1, 1) := by decide +kernel
theorem dX10_ofOne_63 : decode cX10_ofOne 63 = .ok (.iadd, 1) := by decide +kernel
theorem dX10_ofOne_64 : decode cX10_ofOne 64 = .ok (.iaload, 1) := by decide +kernel
theorem dX10_ofOne_65 : decode cX10_ofOne 65 = .ok (.ireturn, 1) := by decide +kernel
theorem dX10_ofOne_66 : decode cX10_ofOne 66 = .ok (.aload_n 0, 1) := by decide +kernel
theorem dX10_ofOne_67 : decode cX10_ofOne 67 = .ok (.getfield 13, 3) := by decide +kernel
theorem dX10_ofOne_70 : decode cX10_ofOne 70 = .ok (.iload_n 1, 1) := by decide +kernel
theorem dX10_ofOne_71 : decode cX10_ofOne 71 = .ok (.iaload, 1) := by decide +kernel
theorem dX10_ofOne_72 : decode cX10_ofOne 72 = .ok (.aload_n 0, 1) := by decide +kernel
theorem dX10_ofOne_73 : decode cX10_ofOne 73 = .ok (.getfield 7, 3) := by decide +kernel
theorem dX10_ofOne_76 : decode cX10_ofOne 76 = .ok (.aload_n 0, 1) := by decide +kernel
theorem dX10_ofOne_77 : decode cX10_ofOne 77 = .ok (.invokevirtual 145, 3) := by decide +kernel
theorem dX10_ofOne_80 : decode cX10_ofOne 80 = .ok (.bipush 12, 2) := by decide +kernel
theorem dX10_ofOne_82 : decode cX10_ofOne 82 = .ok (.iadd, 1) := by decide +kernel
theorem dX10_ofOne_83 : decode cX10_ofOne 83 = .ok (.iaload, 1) := by decide +kernel
theorem dX10_ofOne_84 : decode cX10_ofOne 84 = .ok (.invokestatic 138, 3) := by decide +kernel
theorem dX10_ofOne_87 : decode cX10_ofOne 87 = .ok (.ireturn, 1) := by decide +kernel
theorem dX10_ofOne_88 : decode cX10_ofOne 88 = .ok (.aload_n 0, 1) := by decide +kernel
theorem dX10_ofOne_89 : decode cX10_ofOne 89 = .ok (.iload_n 1, 1) := by decide +kernel
theorem dX10_ofOne_90 : decode cX10_ofOne 90 = .ok (.invokevirtual 149, 3) := by decide +kernel
theorem dX10_ofOne_93 : decode cX10_ofOne 93 = .ok (.ireturn, 1) := by decide +kernel
theorem dX10_one_0 : decode cX10_one 0 = .ok (.aload_n 0, 1) := by decide +kernel
theorem dX10_one_1 : decode cX10_one 1 = .ok (.iload_n 1, 1) := by decide +kernel
theorem dX10_one_2 : decode cX10_one 2 = .ok (.invokevirtual 152, 3) := by decide +kernel
theorem dX10_one_5 : decode cX10_one 5 = .ok (.ifCond .eq 25, 3) := by decide +kernel
theorem dX10_one_8 : decode cX10_one 8 = .ok (.iload_n 2, 1) := by decide +kernel
theorem dX10_one_9 : decode cX10_one 9 = .ok (.iconst 0, 1) := by decide +kernel
theorem dX10_one_10 : decode cX10_one 10 = .ok (.iconst 4, 1) := by decide +kernel
theorem dX10_one_11 : decode cX10_one 11 = .ok (.invokestatic 63, 3) := by decide +kernel
theorem dX10_one_14 : decode cX10_one 14 = .ok (.ifCond .eq 16, 3) := by decide +kernel
theorem dX10_one_17 : decode cX10_one 17 = .ok (.aload_n 0, 1) := by decide +kernel
theorem dX10_one_18 : decode cX10_one 18 = .ok (.aload_n 0, 1) := by decide +kernel
theorem dX10_one_19 : decode cX10_one 19 = .ok (.iload_n 1, 1) := by decide +kernel
theorem dX10_one_20 : decode cX10_one 20 = .ok (.iload_n 2, 1) := by decide +kernel
theorem dX10_one_21 : decode cX10_one 21 = .ok (.invokevirtual 155, 3) := by decide +kernel
theorem dX10_one_24 : decode cX10_one 24 = .ok (.invokevirtual 79, 3) := by decide +kernel
theorem dX10_one_27 : decode cX10_one 27 = .ok (.goto 4, 3) := by decide +kernel
theorem dX10_one_30 : decode cX10_one 30 = .ok (.iconst (-1), 1) := by decide +kernel
theorem dX10_one_31 : decode cX10_one 31 = .ok (.ireturn, 1) := by decide +kernel
theorem dX10_allHave_0 : decode cX10_allHave 0 = .ok (.iconst 0, 1) := by decide +kernel
theorem dX10_allHave_1 : decode cX10_allHave 1 = .ok (.istore_n 2, 1) := by decide +kernel
theorem dX10_allHave_2 : decode cX10_allHave 2 = .ok (.iconst 0, 1) := by decide +kernel
theorem dX10_allHave_3 : decode cX10_allHave 3 = .ok (.istore_n 3, 1) := by decide +kernel
theorem dX10_allHave_4 : decode cX10_allHave 4 = .ok (.iload_n 3, 1) := by decide +kernel
theorem dX10_allHave_5 : decode cX10_allHave 5 = .ok (.aload_n 0, 1) := by decide +kernel
theorem dX10_allHave_6 : decode cX10_allHave 6 = .ok (.getfield 120, 3) := by decide +kernel
theorem dX10_allHave_9 : decode cX10_allHave 9 = .ok (.if_icmp .ge 23, 3) := by decide +kernel
theorem dX10_allHave_12 : decode cX10_allHave 12 = .ok (.iload_n 2, 1) := by decide +kernel
theorem dX10_allHave_13 : decode cX10_allHave 13 = .ok (.aload_n 0, 1) := by decide +kernel
theorem dX10_allHave_14 : decode cX10_allHave 14 = .ok (.getfield 7, 3) := by decide +kernel
theorem dX10_allHave_17 : decode cX10_allHave 17 = .ok (.iload_n 1, 1) := by decide +kernel
theorem dX10_allHave_18 : decode cX10_allHave 18 = .ok (.bipush 6, 2) := by decide +kernel
theorem dX10_allHave_20 : decode cX10_allHave 20 = .ok (.iadd, 1) := by decide +kernel
theorem dX10_allHave_21 : decode cX10_allHave 21 = .ok (.iload_n 3, 1) := by decide +kernel
theorem dX10_allHave_22 : decode cX10_allHave 22 = .ok (.iadd, 1) := by decide +kernel
theorem dX10_allHave_23 : decode cX10_allHave 23 = .ok (.iaload, 1) := by decide +kernel
theorem dX10_allHave_24 : decode cX10_allHave 24 = .ok (.iadd, 1) := by decide +kernel
theorem dX10_allHave_25 : decode cX10_allHave 25 = .ok (.istore_n 2, 1) := by decide +kernel
theorem dX10_allHave_26 : decode cX10_allHave 26 = .ok (.iinc 3 1, 3) := by decide +kernel
theorem dX10_allHave_29 : decode cX10_allHave 29 = .ok (.goto (-25), 3) := by decide +kernel
theorem dX10_allHave_32 : decode cX10_allHave 32 = .ok (.iload_n 2, 1) := by decide +kernel
theorem dX10_allHave_33 : decode cX10_allHave 33 = .ok (.ireturn, 1) := by decide +kernel
theorem dX10_isOf_0 : decode cX10_isOf 0 = .ok (.iload_n 0, 1) := by decide +kernel
theorem dX10_isOf_1 : decode cX10_isOf 1 = .ok (.iload_n 1, 1) := by decide +kernel
theorem dX10_isOf_2 : decode cX10_isOf 2 = .ok (.if_icmp .eq 23, 3) := by decide +kernel
theorem dX10_isOf_5 : decode cX10_isOf 5 = .ok (.iload_n 0, 1) := by decide +kernel
theorem dX10_isOf_6 : decode cX10_isOf 6 = .ok (.iconst 4, 1) := by decide +kernel
theorem dX10_isOf_7 : decode cX10_isOf 7 = .ok (.if_icmp .ne 8, 3) := by decide +kernel
theorem dX10_isOf_10 : decode cX10_isOf 10 = .ok (.iload_n 1, 1) := by decide +kernel
theorem dX10_isOf_11 : decode cX10_isOf 11 = .ok (.iconst 1, 1) := by decide +kernel
theorem dX10_isOf_12 : decode cX10_isOf 12 = .ok (.if_icmp .eq 13, 3) := by decide +kernel
theorem dX10_isOf_15 : decode cX10_isOf 15 = .ok (.iload_n 0, 1) := by decide +kernel
theorem dX10_isOf_16 : decode cX10_isOf 16 = .ok (.iconst 5, 1) := by decide +kernel
theorem dX10_isOf_17 : decode cX10_isOf 17 = .ok (.if_icmp .ne 12, 3) := by decide +kernel
theorem dX10_isOf_20 : decode cX10_isOf 20 = .ok (.iload_n 1, 1) := by decide +kernel
theorem dX10_isOf_21 : decode cX10_isOf 21 = .ok (.iconst 3, 1) := by decide +kernel
theorem dX10_isOf_22 : decode cX10_isOf 22 = .ok (.if_icmp .ne 7, 3) := by decide +kernel
theorem dX10_isOf_25 : decode cX10_isOf 25 = .ok (.iconst 1, 1) := by decide +kernel
theorem dX10_isOf_26 : decode cX10_isOf 26 = .ok (.goto 4, 3) := by decide +kernel
theorem dX10_isOf_29 : decode cX10_isOf 29 = .ok (.iconst 0, 1) := by decide +kernel
theorem dX10_isOf_30 : decode cX10_isOf 30 = .ok (.ireturn, 1) := by decide +kernel
theorem dX10_leastAlike_0 : decode cX10_leastAlike 0 = .ok (.iload_n 1, 1) := by decide +kernel
theorem dX10_leastAlike_1 : decode cX10_leastAlike 1 = .ok (.aload_n 0, 1) := by decide +kernel
theorem dX10_leastAlike_2 : decode cX10_leastAlike 2 = .ok (.getfield 7, 3) := by decide +kernel
theorem dX10_leastAlike_5 : decode cX10_leastAlike 5 = .ok (.aload_n 0, 1) := by decide +kernel
theorem dX10_leastAlike_6 : decode cX10_leastAlike 6 = .ok (.invokevirtual 145, 3) := by decide +kernel
theorem dX10_leastAlike_9 : decode cX10_leastAlike 9 = .ok (.bipush 12, 2) := by decide +kernel
theorem dX10_leastAlike_11 : decode cX10_leastAlike 11 = .ok (.iadd, 1) := by decide +kernel
theorem dX10_leastAlike_12 : decode cX10_leastAlike 12 = .ok (.iaload, 1) := by decide +kernel
theorem dX10_leastAlike_13 : decode cX10_leastAlike 13 = .ok (.invokestatic 138, 3) := by decide +kernel
theorem dX10_leastAlike_16 : decode cX10_leastAlike 16 = .ok (.istore_n 2, 1) := by decide +kernel
theorem dX10_leastAlike_17 : decode cX10_leastAlike 17 = .ok (.iconst 0, 1) := by decide +kernel
theorem dX10_leastAlike_18 : decode cX10_leastAlike 18 = .ok (.istore_n 3, 1) := by decide +kernel
theorem dX10_leastAlike_19 : decode cX10_leastAlike 19 = .ok (.iload_n 1, 1) := by decide +kernel
theorem dX10_leastAlike_20 : decode cX10_leastAlike 20 = .ok (.iload_n 3, 1) := by decide +kernel
theorem dX10_leastAlike_21 : decode cX10_leastAlike 21 = .ok (.invokestatic 138, 3) := by decide +kernel
theorem dX10_leastAlike_24 : decode cX10_leastAlike 24 = .ok (.iload_n 2, 1) := by decide +kernel
theorem dX10_leastAlike_25 : decode cX10_leastAlike 25 = .ok (.if_icmp .eq 9, 3) := by decide +kernel
theorem dX10_leastAlike_28 : decode cX10_leastAlike 28 = .ok (.iinc 3 1, 3) := by decide +kernel
theorem dX10_leastAlike_31 : decode cX10_leastAlike 31 = .ok (.goto (-12), 3) := by decide +kernel
theorem dX10_leastAlike_34 : decode cX10_leastAlike 34 = .ok (.iload_n 3, 1) := by decide +kernel
theorem dX10_leastAlike_35 : decode cX10_leastAlike 35 = .ok (.ireturn, 1) := by decide +kernel
theorem dX10_mark_0 : decode cX10_mark 0 = .ok (.aload_n 0, 1) := by decide +kernel
theorem dX10_mark_1 : decode cX10_mark 1 = .ok (.iload_n 1, 1) := by decide +kernel
theorem dX10_mark_2 : decode cX10_mark 2 = .ok (.invokevirtual 152, 3) := by decide +kernel
theorem dX10_mark_5 : decode cX10_mark 5 = .ok (.ifCond .eq 12, 3) := by decide +kernel
theorem dX10_mark_8 : decode cX10_mark 8 = .ok (.iload_n 2, 1) := by decide +kernel
theorem dX10_mark_9 : decode cX10_mark 9 = .ok (.iconst 1, 1) := by decide +kernel
theorem dX10_mark_10 : decode cX10_mark 10 = .ok (.iconst 5, 1) := by decide +kernel
theorem dX10_mark_11 : decode cX10_mark 11 = .ok (.invokestatic 63, 3) := by decide +kernel
theorem dX10_mark_14 : decode cX10_mark 14 = .ok (.ifCond .ne 5, 3) := by decide +kernel
theorem dX10_mark_17 : decode cX10_mark 17 = .ok (.iconst (-1), 1) := by decide +kernel
theorem dX10_mark_18 : decode cX10_mark 18 = .ok (.ireturn, 1) := by decide +kernel
theorem dX10_mark_19 : decode cX10_mark 19 = .ok (.aload_n 0, 1) := by decide +kernel
theorem dX10_mark_20 : decode cX10_mark 20 = .ok (.getfield 13, 3) := by decide +kernel
theorem dX10_mark_23 : decode cX10_mark 23 = .ok (.iload_n 1, 1) := by decide +kernel
theorem dX10_mark_24 : decode cX10_mark 24 = .ok (.iaload, 1) := by decide +kernel
theorem dX10_mark_25 : decode cX10_mark 25 = .ok (.iload_n 2, 1) := by decide +kernel
theorem dX10_mark_26 : decode cX10_mark 26 = .ok (.invokestatic 158, 3) := by decide +kernel
theorem dX10_mark_29 : decode cX10_mark 29 = .ok (.ifCond .ne 9, 3) := by decide +kernel
theorem dX10_mark_32 : decode cX10_mark 32 = .ok (.aload_n 0, 1) := by decide +kernel
theorem dX10_mark_33 : decode cX10_mark 33 = .ok (.iconst 3, 1) := by decide +kernel
theorem dX10_mark_34 : decode cX10_mark 34 = .ok (.invokevirtual 71, 3) := by decide +kernel
theorem dX10_mark_37 : decode cX10_mark 37 = .ok (.ireturn, 1) := by decide +kernel
theorem dX10_mark_38 : decode cX10_mark 38 = .ok (.aload_n 0, 1) := by decide +kernel
theorem dX10_mark_39 : decode cX10_mark 39 = .ok (.getfield 7, 3) := by decide +kernel
theorem dX10_mark_42 : decode cX10_mark 42 = .ok (.aload_n 0, 1) := by decide +kernel
theorem dX10_mark_43 : decode cX10_mark 43 = .ok (.invokevirtual 145, 3) := by decide +kernel
theorem dX10_mark_46 : decode cX10_mark 46 = .ok (.bipush 12, 2) := by decide +kernel
theorem dX10_mark_48 : decode cX10_mark 48 = .ok (.iadd, 1) := by decide +kernel
theorem dX10_mark_49 : decode cX10_mark 49 = .ok (.iaload, 1) := by decide +kernel
theorem dX10_mark_50 : decode cX10_mark 50 = .ok (.istore_n 3, 1) := by decide +kernel
theorem dX10_mark_51 : decode cX10_mark 51 = .ok (.iload_n 2, 1) := by decide +kernel
theorem dX10_mark_52 : decode cX10_mark 52 = .ok (.tableswitch 90 1 4 #[32, 56, 74, 85], 32) := by decide +kernel
theorem dX10_mark_84 : decode cX10_mark 84 = .ok (.aload_n 0, 1) := by decide +kernel
theorem dX10_mark_85 : decode cX10_mark 85 = .ok (.aload_n 0, 1) := by decide +kernel
theorem dX10_mark_86 : decode cX10_mark 86 = .ok (.invokevirtual 145, 3) := by decide +kernel
theorem dX10_mark_89 : decode cX10_mark 89 = .ok (.invokevirtual 161, 3) := by decide +kernel
theorem dX10_mark_92 : decode cX10_mark 92 = .ok (.aload_n 0, 1) := by decide +kernel
theorem dX10_mark_93 : decode cX10_mark 93 = .ok (.getfield 7, 3) := by decide +kernel
theorem dX10_mark_96 : decode cX10_mark 96 = .ok (.aload_n 0, 1) := by decide +kernel
theorem dX10_mark_97 : decode cX10_mark 97 = .ok (.invokevirtual 145, 3) := by decide +kernel
theorem dX10_mark_100 : decode cX10_mark 100 = .ok (.bipush 6, 2) := by decide +kernel
theorem dX10_mark_102 : decode cX10_mark 102 = .ok (.iadd, 1) := by decide +kernel
theorem dX10_mark_103 : decode cX10_mark 103 = .ok (.iload_n 1, 1) := by decide +kernel
theorem dX10_mark_104 : decode cX10_mark 104 = .ok (.iadd, 1) := by decide +kernel
theorem dX10_mark_105 : decode cX10_mark 105 = .ok (.iaload, 1) := by decide +kernel
theorem dX10_mark_106 : decode cX10_mark 106 = .ok (.isub, 1) := by decide +kernel
theorem dX10_mark_107 : decode cX10_mark 107 = .ok (.ireturn, 1) := by decide +kernel
theorem dX10_mark_108 : decode cX10_mark 108 = .ok (.bipush 30, 2) := by decide +kernel
theorem dX10_mark_110 : decode cX10_mark 110 = .ok (.aload_n 0, 1) := by decide +kernel
theorem dX10_mark_111 : decode cX10_mark 111 = .ok (.getfield 7, 3) := by decide +kernel
theorem dX10_mark_114 : decode cX10_mark 114 = .ok (.aload_n 0, 1) := by decide +kernel
theorem dX10_mark_115 : decode cX10_mark 115 = .ok (.invokevirtual 145, 3) := by decide +kernel
theorem dX10_mark_118 : decode cX10_mark 118 = .ok (.bipush 6, 2) := by decide +kernel
theorem dX10_mark_120 : decode cX10_mark 120 = .ok (.iadd, 1) := by decide +kernel
theorem dX10_mark_121 : decode cX10_mark 121 = .ok (.iload_n 1, 1) := by decide +kernel
theorem dX10_mark_122 : decode cX10_mark 122 = .ok (.iadd, 1) := by decide +kernel
theorem dX10_mark_123 : decode cX10_mark 123 = .ok (.iaload, 1) := by decide +kernel
theorem dX10_mark_124 : decode cX10_mark 124 = .ok (.isub, 1) := by decide +kernel
theorem dX10_mark_125 : decode cX10_mark 125 = .ok (.ireturn, 1) := by decide +kernel
theorem dX10_mark_126 : decode cX10_mark 126 = .ok (.aload_n 0, 1) := by decide +kernel
theorem dX10_mark_127 : decode cX10_mark 127 = .ok (.aload_n 0, 1) := by decide +kernel
theorem dX10_mark_128 : decode cX10_mark 128 = .ok (.getfield 13, 3) := by decide +kernel
theorem dX10_mark_131 : decode cX10_mark 131 = .ok (.iload_n 1, 1) := by decide +kernel
theorem dX10_mark_132 : decode cX10_mark 132 = .ok (.iaload, 1) := by decide +kernel
theorem dX10_mark_133 : decode cX10_mark 133 = .ok (.invokevirtual 164, 3) := by decide +kernel
theorem dX10_mark_136 : decode cX10_mark 136 = .ok (.ireturn, 1) := by decide +kernel
theorem dX10_mark_137 : decode cX10_mark 137 = .ok (.bipush 60, 2) := by decide +kernel
theorem dX10_mark_139 : decode cX10_mark 139 = .ok (.iload_n 3, 1) := by decide +kernel
theorem dX10_mark_140 : decode cX10_mark 140 = .ok (.isub, 1) := by decide +kernel
theorem dX10_mark_141 : decode cX10_mark 141 = .ok (.ireturn, 1) := by decide +kernel
theorem dX10_mark_142 : decode cX10_mark 142 = .ok (.iload_n 3, 1) := by decide +kernel
theorem dX10_mark_143 : decode cX10_mark 143 = .ok (.bipush 20, 2) := by decide +kernel
theorem dX10_mark_145 : decode cX10_mark 145 = .ok (.if_icmp .lt 7, 3) := by decide +kernel
theorem dX10_mark_148 : decode cX10_mark 148 = .ok (.iconst 0, 1) := by decide +kernel
theorem dX10_mark_149 : decode cX10_mark 149 = .ok (.goto 7, 3) := by decide +kernel
theorem dX10_mark_152 : decode cX10_mark 152 = .ok (.bipush 20, 2) := by decide +kernel
theorem dX10_mark_154 : decode cX10_mark 154 = .ok (.iload_n 3, 1) := by decide +kernel
theorem dX10_mark_155 : decode cX10_mark 155 = .ok (.isub, 1) := by decide +kernel
theorem dX10_mark_156 : decode cX10_mark 156 = .ok (.ireturn, 1) := by decide +kernel
theorem dX10_begin_0 : decode cX10_begin 0 = .ok (.aload_n 0, 1) := by decide +kernel
theorem dX10_begin_1 : decode cX10_begin 1 = .ok (.aload_n 0, 1) := by decide +kernel
theorem dX10_begin_2 : decode cX10_begin 2 = .ok (.invokevirtual 145, 3) := by decide +kernel
theorem dX10_begin_5 : decode cX10_begin 5 = .ok (.aload_n 0, 1) := by decide +kernel
theorem dX10_begin_6 : decode cX10_begin 6 = .ok (.invokevirtual 145, 3) := by decide +kernel
theorem dX10_begin_9 : decode cX10_begin 9 = .ok (.bipush 17, 2) := by decide +kernel
theorem dX10_begin_11 : decode cX10_begin 11 = .ok (.iadd, 1) := by decide +kernel
theorem dX10_begin_12 : decode cX10_begin 12 = .ok (.invokevirtual 167, 3) := by decide +kernel
theorem dX10_begin_15 : decode cX10_begin 15 = .ok (.aload_n 0, 1) := by decide +kernel
theorem dX10_begin_16 : decode cX10_begin 16 = .ok (.dup, 1) := by decide +kernel
theorem dX10_begin_17 : decode cX10_begin 17 = .ok (.getfield 129, 3) := by decide +kernel
theorem dX10_begin_20 : decode cX10_begin 20 = .ok (.iconst 1, 1) := by decide +kernel
theorem dX10_begin_21 : decode cX10_begin 21 = .ok (.iadd, 1) := by decide +kernel
theorem dX10_begin_22 : decode cX10_begin 22 = .ok (.putfield 129, 3) := by decide +kernel
theorem dX10_begin_25 : decode cX10_begin 25 = .ok (.aload_n 0, 1) := by decide +kernel
theorem dX10_begin_26 : decode cX10_begin 26 = .ok (.invokevirtual 145, 3) := by decide +kernel
theorem dX10_begin_29 : decode cX10_begin 29 = .ok (.ireturn, 1) := by decide +kernel
theorem dX10_turn_0 : decode cX10_turn 0 = .ok (.aload_n 0, 1) := by decide +kernel
theorem dX10_turn_1 : decode cX10_turn 1 = .ok (.getfield 120, 3) := by decide +kernel
theorem dX10_turn_4 : decode cX10_turn 4 = .ok (.ifCond .ne 6, 3) := by decide +kernel
theorem dX10_turn_7 : decode cX10_turn 7 = .ok (.bipush (-4), 2) := by decide +kernel
theorem dX10_turn_9 : decode cX10_turn 9 = .ok (.ireturn, 1) := by decide +kernel
theorem dX10_turn_10 : decode cX10_turn 10 = .ok (.aload_n 0, 1) := by decide +kernel
theorem dX10_turn_11 : decode cX10_turn 11 = .ok (.getfield 129, 3) := by decide +kernel
theorem dX10_turn_14 : decode cX10_turn 14 = .ok (.bipush 40, 2) := by decide +kernel
theorem dX10_turn_16 : decode cX10_turn 16 = .ok (.if_icmp .ne 8, 3) := by decide +kernel
theorem dX10_turn_19 : decode cX10_turn 19 = .ok (.bipush (-2), 2) := by decide +kernel
theorem dX10_turn_21 : decode cX10_turn 21 = .ok (.goto 11, 3) := by decide +kernel
theorem dX10_turn_24 : decode cX10_turn 24 = .ok (.aload_n 0, 1) := by decide +kernel
theorem dX10_turn_25 : decode cX10_turn 25 = .ok (.aload_n 0, 1) := by decide +kernel
theorem dX10_turn_26 : decode cX10_turn 26 = .ok (.invokevirtual 171, 3) := by decide +kernel
theorem dX10_turn_29 : decode cX10_turn 29 = .ok (.invokevirtual 174, 3) := by decide +kernel
theorem dX10_turn_32 : decode cX10_turn 32 = .ok (.ireturn, 1) := by decide +kernel
theorem dX10_spoonIn_0 : decode cX10_spoonIn 0 = .ok (.aload_n 0, 1) := by decide +kernel
theorem dX10_spoonIn_1 : decode cX10_spoonIn 1 = .ok (.getfield 7, 3) := by decide +kernel
theorem dX10_spoonIn_4 : decode cX10_spoonIn 4 = .ok (.iload_n 1, 1) := by decide +kernel
theorem dX10_spoonIn_5 : decode cX10_spoonIn 5 = .ok (.bipush 12, 2) := by decide +kernel
theorem dX10_spoonIn_7 : decode cX10_spoonIn 7 = .ok (.iadd, 1) := by decide +kernel
theorem dX10_spoonIn_8 : decode cX10_spoonIn 8 = .ok (.bipush 60, 2) := by decide +kernel
theorem dX10_spoonIn_10 : decode cX10_spoonIn 10 = .ok (.aload_n 0, 1) := by decide +kernel
theorem dX10_spoonIn_11 : decode cX10_spoonIn 11 = .ok (.getfield 7, 3) := by decide +kernel
theorem dX10_spoonIn_14 : decode cX10_spoonIn 14 = .ok (.iload_n 1, 1) := by decide +kernel
theorem dX10_spoonIn_15 : decode cX10_spoonIn 15 = .ok (.bipush 12, 2) := by decide +kernel
theorem dX10_spoonIn_17 : decode cX10_spoonIn 17 = .ok (.iadd, 1) := by decide +kernel
theorem dX10_spoonIn_18 : decode cX10_spoonIn 18 = .ok (.iaload, 1) := by decide +kernel
theorem dX10_spoonIn_19 : decode cX10_spoonIn 19 = .ok (.iload_n 2, 1) := by decide +kernel
theorem dX10_spoonIn_20 : decode cX10_spoonIn 20 = .ok (.iadd, 1) := by decide +kernel
theorem dX10_spoonIn_21 : decode cX10_spoonIn 21 = .ok (.invokestatic 132, 3) := by decide +kernel
theorem dX10_spoonIn_24 : decode cX10_spoonIn 24 = .ok (.iastore, 1) := by decide +kernel
theorem dX10_spoonIn_25 : decode cX10_spoonIn 25 = .ok (.return_, 1) := by decide +kernel
theorem dX10_spoon_0 : decode cX10_spoon 0 = .ok (.iload_n 1, 1) := by decide +kernel
theorem dX10_spoon_1 : decode cX10_spoon 1 = .ok (.iconst 1, 1) := by decide +kernel
theorem dX10_spoon_2 : decode cX10_spoon 2 = .ok (.bipush 9, 2) := by decide +kernel
theorem dX10_spoon_4 : decode cX10_spoon 4 = .ok (.invokestatic 63, 3) := by decide +kernel
theorem dX10_spoon_7 : decode cX10_spoon 7 = .ok (.ifCond .ne 5, 3) := by decide +kernel
theorem dX10_spoon_10 : decode cX10_spoon 10 = .ok (.iconst (-1), 1) := by decide +kernel
theorem dX10_spoon_11 : decode cX10_spoon 11 = .ok (.ireturn, 1) := by decide +kernel
theorem dX10_spoon_12 : decode cX10_spoon 12 = .ok (.aload_n 0, 1) := by decide +kernel
theorem dX10_spoon_13 : decode cX10_spoon 13 = .ok (.getfield 120, 3) := by decide +kernel
theorem dX10_spoon_16 : decode cX10_spoon 16 = .ok (.ifCond .eq 20, 3) := by decide +kernel
theorem dX10_spoon_19 : decode cX10_spoon 19 = .ok (.aload_n 0, 1) := by decide +kernel
theorem dX10_spoon_20 : decode cX10_spoon 20 = .ok (.getfield 7, 3) := by decide +kernel
theorem dX10_spoon_23 : decode cX10_spoon 23 = .ok (.aload_n 0, 1) := by decide +kernel
theorem dX10_spoon_24 : decode cX10_spoon 24 = .ok (.invokevirtual 145, 3) := by decide +kernel
theorem dX10_spoon_27 : decode cX10_spoon 27 = .ok (.bipush 12, 2) := by decide +kernel
theorem dX10_spoon_29 : decode cX10_spoon 29 = .ok (.iadd, 1) := by decide +kernel
theorem dX10_spoon_30 : decode cX10_spoon 30 = .ok (.iaload, 1) := by decide +kernel
theorem dX10_spoon_31 : decode cX10_spoon 31 = .ok (.bipush 60, 2) := by decide +kernel
theorem dX10_spoon_33 : decode cX10_spoon 33 = .ok (.if_icmp .ne 6, 3) := by decide +kernel
theorem dX10_spoon_36 : decode cX10_spoon 36 = .ok (.bipush (-4), 2) := by decide +kernel
theorem dX10_spoon_38 : decode cX10_spoon 38 = .ok (.ireturn, 1) := by decide +kernel
theorem dX10_spoon_39 : decode cX10_spoon 39 = .ok (.aload_n 0, 1) := by decide +kernel
theorem dX10_spoon_40 : decode cX10_spoon 40 = .ok (.getfield 129, 3) := by decide +kernel
theorem dX10_spoon_43 : decode cX10_spoon 43 = .ok (.bipush 40, 2) := by decide +kernel
theorem dX10_spoon_45 : decode cX10_spoon 45 = .ok (.if_icmp .ne 6, 3) := by decide +kernel
theorem dX10_spoon_48 : decode cX10_spoon 48 = .ok (.bipush (-2), 2) := by decide +kernel
theorem dX10_spoon_50 : decode cX10_spoon 50 = .ok (.ireturn, 1) := by decide +kernel
theorem dX10_spoon_51 : decode cX10_spoon 51 = .ok (.aload_n 0, 1) := by decide +kernel
theorem dX10_spoon_52 : decode cX10_spoon 52 = .ok (.aload_n 0, 1) := by decide +kernel
theorem dX10_spoon_53 : decode cX10_spoon 53 = .ok (.invokevirtual 171, 3) := by decide +kernel
theorem dX10_spoon_56 : decode cX10_spoon 56 = .ok (.iload_n 1, 1) := by decide +kernel
theorem dX10_spoon_57 : decode cX10_spoon 57 = .ok (.invokevirtual 177, 3) := by decide +kernel
theorem dX10_spoon_60 : decode cX10_spoon 60 = .ok (.aload_n 0, 1) := by decide +kernel
theorem dX10_spoon_61 : decode cX10_spoon 61 = .ok (.getfield 7, 3) := by decide +kernel
theorem dX10_spoon_64 : decode cX10_spoon 64 = .ok (.aload_n 0, 1) := by decide +kernel
theorem dX10_spoon_65 : decode cX10_spoon 65 = .ok (.invokevirtual 145, 3) := by decide +kernel
theorem dX10_spoon_68 : decode cX10_spoon 68 = .ok (.bipush 12, 2) := by decide +kernel
theorem dX10_spoon_70 : decode cX10_spoon 70 = .ok (.iadd, 1) := by decide +kernel
theorem dX10_spoon_71 : decode cX10_spoon 71 = .ok (.iaload, 1) := by decide +kernel
theorem dX10_spoon_72 : decode cX10_spoon 72 = .ok (.ireturn, 1) := by decide +kernel
theorem dX10_wind_0 : decode cX10_wind 0 = .ok (.iload_n 1, 1) := by decide +kernel
theorem dX10_wind_1 : decode cX10_wind 1 = .ok (.iconst 0, 1) := by decide +kernel
theorem dX10_wind_2 : decode cX10_wind 2 = .ok (.iconst 2, 1) := by decide +kernel
theorem dX10_wind_3 : decode cX10_wind 3 = .ok (.invokestatic 63, 3) := by decide +kernel
theorem dX10_wind_6 : decode cX10_wind 6 = .ok (.ifCond .ne 5, 3) := by decide +kernel
theorem dX10_wind_9 : decode cX10_wind 9 = .ok (.iconst (-1), 1) := by decide +kernel
theorem dX10_wind_10 : decode cX10_wind 10 = .ok (.ireturn, 1) := by decide +kernel
theorem dX10_wind_11 : decode cX10_wind 11 = .ok (.aload_n 0, 1) := by decide +kernel
theorem dX10_wind_12 : decode cX10_wind 12 = .ok (.getfield 120, 3) := by decide +kernel
theorem dX10_wind_15 : decode cX10_wind 15 = .ok (.ifCond .eq 19, 3) := by decide +kernel
theorem dX10_wind_18 : decode cX10_wind 18 = .ok (.aload_n 0, 1) := by decide +kernel
theorem dX10_wind_19 : decode cX10_wind 19 = .ok (.getfield 7, 3) := by decide +kernel
theorem dX10_wind_22 : decode cX10_wind 22 = .ok (.aload_n 0, 1) := by decide +kernel
theorem dX10_wind_23 : decode cX10_wind 23 = .ok (.invokevirtual 145, 3) := by decide +kernel
theorem dX10_wind_26 : decode cX10_wind 26 = .ok (.bipush 14, 2) := by decide +kernel
theorem dX10_wind_28 : decode cX10_wind 28 = .ok (.iadd, 1) := by decide +kernel
theorem dX10_wind_29 : decode cX10_wind 29 = .ok (.iaload, 1) := by decide +kernel
theorem dX10_wind_30 : decode cX10_wind 30 = .ok (.iload_n 1, 1) := by decide +kernel
theorem dX10_wind_31 : decode cX10_wind 31 = .ok (.if_icmp .ne 6, 3) := by decide +kernel
theorem dX10_wind_34 : decode cX10_wind 34 = .ok (.bipush (-4), 2) := by decide +kernel
theorem dX10_wind_36 : decode cX10_wind 36 = .ok (.ireturn, 1) := by decide +kernel
theorem dX10_wind_37 : decode cX10_wind 37 = .ok (.aload_n 0, 1) := by decide +kernel
theorem dX10_wind_38 : decode cX10_wind 38 = .ok (.getfield 129, 3) := by decide +kernel
theorem dX10_wind_41 : decode cX10_wind 41 = .ok (.bipush 40, 2) := by decide +kernel
theorem dX10_wind_43 : decode cX10_wind 43 = .ok (.if_icmp .ne 6, 3) := by decide +kernel
theorem dX10_wind_46 : decode cX10_wind 46 = .ok (.bipush (-2), 2) := by decide +kernel
theorem dX10_wind_48 : decode cX10_wind 48 = .ok (.ireturn, 1) := by decide +kernel
theorem dX10_wind_49 : decode cX10_wind 49 = .ok (.aload_n 0, 1) := by decide +kernel
theorem dX10_wind_50 : decode cX10_wind 50 = .ok (.getfield 7, 3) := by decide +kernel
theorem dX10_wind_53 : decode cX10_wind 53 = .ok (.aload_n 0, 1) := by decide +kernel
theorem dX10_wind_54 : decode cX10_wind 54 = .ok (.invokevirtual 145, 3) := by decide +kernel
theorem dX10_wind_57 : decode cX10_wind 57 = .ok (.bipush 14, 2) := by decide +kernel
theorem dX10_wind_59 : decode cX10_wind 59 = .ok (.iadd, 1) := by decide +kernel
theorem dX10_wind_60 : decode cX10_wind 60 = .ok (.iaload, 1) := by decide +kernel
theorem dX10_wind_61 : decode cX10_wind 61 = .ok (.istore_n 2, 1) := by decide +kernel
theorem dX10_wind_62 : decode cX10_wind 62 = .ok (.aload_n 0, 1) := by decide +kernel
theorem dX10_wind_63 : decode cX10_wind 63 = .ok (.getfield 7, 3) := by decide +kernel
theorem dX10_wind_66 : decode cX10_wind 66 = .ok (.aload_n 0, 1) := by decide +kernel
theorem dX10_wind_67 : decode cX10_wind 67 = .ok (.invokevirtual 171, 3) := by decide +kernel
theorem dX10_wind_70 : decode cX10_wind 70 = .ok (.bipush 14, 2) := by decide +kernel
theorem dX10_wind_72 : decode cX10_wind 72 = .ok (.iadd, 1) := by decide +kernel
theorem dX10_wind_73 : decode cX10_wind 73 = .ok (.iload_n 1, 1) := by decide +kernel
theorem dX10_wind_74 : decode cX10_wind 74 = .ok (.iastore, 1) := by decide +kernel
theorem dX10_wind_75 : decode cX10_wind 75 = .ok (.iload_n 2, 1) := by decide +kernel
theorem dX10_wind_76 : decode cX10_wind 76 = .ok (.ireturn, 1) := by decide +kernel
theorem dX10_rain_0 : decode cX10_rain 0 = .ok (.iload_n 1, 1) := by decide +kernel
theorem dX10_rain_1 : decode cX10_rain 1 = .ok (.iconst 0, 1) := by decide +kernel
theorem dX10_rain_2 : decode cX10_rain 2 = .ok (.iconst 1, 1) := by decide +kernel
theorem dX10_rain_3 : decode cX10_rain 3 = .ok (.invokestatic 63, 3) := by decide +kernel
theorem dX10_rain_6 : decode cX10_rain 6 = .ok (.ifCond .ne 5, 3) := by decide +kernel
theorem dX10_rain_9 : decode cX10_rain 9 = .ok (.iconst (-1), 1) := by decide +kernel
theorem dX10_rain_10 : decode cX10_rain 10 = .ok (.ireturn, 1) := by decide +kernel
theorem dX10_rain_11 : decode cX10_rain 11 = .ok (.aload_n 0, 1) := by decide +kernel
theorem dX10_rain_12 : decode cX10_rain 12 = .ok (.getfield 120, 3) := by decide +kernel
theorem dX10_rain_15 : decode cX10_rain 15 = .ok (.ifCond .eq 19, 3) := by decide +kernel
theorem dX10_rain_18 : decode cX10_rain 18 = .ok (.aload_n 0, 1) := by decide +kernel
theorem dX10_rain_19 : decode cX10_rain 19 = .ok (.getfield 7, 3) := by decide +kernel
theorem dX10_rain_22 : decode cX10_rain 22 = .ok (.aload_n 0, 1) := by decide +kernel
theorem dX10_rain_23 : decode cX10_rain 23 = .ok (.invokevirtual 145, 3) := by decide +kernel
theorem dX10_rain_26 : decode cX10_rain 26 = .ok (.bipush 15, 2) := by decide +kernel
theorem dX10_rain_28 : decode cX10_rain 28 = .ok (.iadd, 1) := by decide +kernel
theorem dX10_rain_29 : decode cX10_rain 29 = .ok (.iaload, 1) := by decide +kernel
theorem dX10_rain_30 : decode cX10_rain 30 = .ok (.iload_n 1, 1) := by decide +kernel
theorem dX10_rain_31 : decode cX10_rain 31 = .ok (.if_icmp .ne 6, 3) := by decide +kernel
theorem dX10_rain_34 : decode cX10_rain 34 = .ok (.bipush (-4), 2) := by decide +kernel
theorem dX10_rain_36 : decode cX10_rain 36 = .ok (.ireturn, 1) := by decide +kernel
theorem dX10_rain_37 : decode cX10_rain 37 = .ok (.aload_n 0, 1) := by decide +kernel
theorem dX10_rain_38 : decode cX10_rain 38 = .ok (.getfield 129, 3) := by decide +kernel
theorem dX10_rain_41 : decode cX10_rain 41 = .ok (.bipush 40, 2) := by decide +kernel
theorem dX10_rain_43 : decode cX10_rain 43 = .ok (.if_icmp .ne 6, 3) := by decide +kernel
theorem dX10_rain_46 : decode cX10_rain 46 = .ok (.bipush (-2), 2) := by decide +kernel
theorem dX10_rain_48 : decode cX10_rain 48 = .ok (.ireturn, 1) := by decide +kernel
theorem dX10_rain_49 : decode cX10_rain 49 = .ok (.aload_n 0, 1) := by decide +kernel
theorem dX10_rain_50 : decode cX10_rain 50 = .ok (.getfield 7, 3) := by decide +kernel
theorem dX10_rain_53 : decode cX10_rain 53 = .ok (.aload_n 0, 1) := by decide +kernel
theorem dX10_rain_54 : decode cX10_rain 54 = .ok (.invokevirtual 171, 3) := by decide +kernel
theorem dX10_rain_57 : decode cX10_rain 57 = .ok (.bipush 15, 2) := by decide +kernel
theorem dX10_rain_59 : decode cX10_rain 59 = .ok (.iadd, 1) := by decide +kernel
theorem dX10_rain_60 : decode cX10_rain 60 = .ok (.iload_n 1, 1) := by decide +kernel
theorem dX10_rain_61 : decode cX10_rain 61 = .ok (.iastore, 1) := by decide +kernel
theorem dX10_rain_62 : decode cX10_rain 62 = .ok (.iload_n 1, 1) := by decide +kernel
theorem dX10_rain_63 : decode cX10_rain 63 = .ok (.ireturn, 1) := by decide +kernel
theorem dX10_stand_0 : decode cX10_stand 0 = .ok (.aload_n 0, 1) := by decide +kernel
theorem dX10_stand_1 : decode cX10_stand 1 = .ok (.iload_n 1, 1) := by decide +kernel
theorem dX10_stand_2 : decode cX10_stand 2 = .ok (.invokevirtual 152, 3) := by decide +kernel
theorem dX10_stand_5 : decode cX10_stand 5 = .ok (.ifCond .eq 13, 3) := by decide +kernel
theorem dX10_stand_8 : decode cX10_stand 8 = .ok (.iload_n 2, 1) := by decide +kernel
theorem dX10_stand_9 : decode cX10_stand 9 = .ok (.iconst 0, 1) := by decide +kernel
theorem dX10_stand_10 : decode cX10_stand 10 = .ok (.bipush 9, 2) := by decide +kernel
theorem dX10_stand_12 : decode cX10_stand 12 = .ok (.invokestatic 63, 3) := by decide +kernel
theorem dX10_stand_15 : decode cX10_stand 15 = .ok (.ifCond .ne 5, 3) := by decide +kernel
theorem dX10_stand_18 : decode cX10_stand 18 = .ok (.iconst (-1), 1) := by decide +kernel
theorem dX10_stand_19 : decode cX10_stand 19 = .ok (.ireturn, 1) := by decide +kernel
theorem dX10_stand_20 : decode cX10_stand 20 = .ok (.aload_n 0, 1) := by decide +kernel
theorem dX10_stand_21 : decode cX10_stand 21 = .ok (.getfield 7, 3) := by decide +kernel
theorem dX10_stand_24 : decode cX10_stand 24 = .ok (.aload_n 0, 1) := by decide +kernel
theorem dX10_stand_25 : decode cX10_stand 25 = .ok (.invokevirtual 145, 3) := by decide +kernel
theorem dX10_stand_28 : decode cX10_stand 28 = .ok (.iload_n 1, 1) := by decide +kernel
theorem dX10_stand_29 : decode cX10_stand 29 = .ok (.iadd, 1) := by decide +kernel
theorem dX10_stand_30 : decode cX10_stand 30 = .ok (.iaload, 1) := by decide +kernel
theorem dX10_stand_31 : decode cX10_stand 31 = .ok (.iload_n 2, 1) := by decide +kernel
theorem dX10_stand_32 : decode cX10_stand 32 = .ok (.if_icmp .ne 6, 3) := by decide +kernel
theorem dX10_stand_35 : decode cX10_stand 35 = .ok (.bipush (-4), 2) := by decide +kernel
theorem dX10_stand_37 : decode cX10_stand 37 = .ok (.ireturn, 1) := by decide +kernel
theorem dX10_stand_38 : decode cX10_stand 38 = .ok (.aload_n 0, 1) := by decide +kernel
theorem dX10_stand_39 : decode cX10_stand 39 = .ok (.getfield 129, 3) := by decide +kernel
theorem dX10_stand_42 : decode cX10_stand 42 = .ok (.bipush 40, 2) := by decide +kernel
theorem dX10_stand_44 : decode cX10_stand 44 = .ok (.if_icmp .ne 6, 3) := by decide +kernel
theorem dX10_stand_47 : decode cX10_stand 47 = .ok (.bipush (-2), 2) := by decide +kernel
theorem dX10_stand_49 : decode cX10_stand 49 = .ok (.ireturn, 1) := by decide +kernel
theorem dX10_stand_50 : decode cX10_stand 50 = .ok (.aload_n 0, 1) := by decide +kernel
theorem dX10_stand_51 : decode cX10_stand 51 = .ok (.getfield 7, 3) := by decide +kernel
theorem dX10_stand_54 : decode cX10_stand 54 = .ok (.aload_n 0, 1) := by decide +kernel
theorem dX10_stand_55 : decode cX10_stand 55 = .ok (.invokevirtual 145, 3) := by decide +kernel
theorem dX10_stand_58 : decode cX10_stand 58 = .ok (.iload_n 1, 1) := by decide +kernel
theorem dX10_stand_59 : decode cX10_stand 59 = .ok (.iadd, 1) := by decide +kernel
theorem dX10_stand_60 : decode cX10_stand 60 = .ok (.iaload, 1) := by decide +kernel
theorem dX10_stand_61 : decode cX10_stand 61 = .ok (.istore_n 3, 1) := by decide +kernel
theorem dX10_stand_62 : decode cX10_stand 62 = .ok (.aload_n 0, 1) := by decide +kernel
theorem dX10_stand_63 : decode cX10_stand 63 = .ok (.getfield 7, 3) := by decide +kernel
theorem dX10_stand_66 : decode cX10_stand 66 = .ok (.aload_n 0, 1) := by decide +kernel
theorem dX10_stand_67 : decode cX10_stand 67 = .ok (.invokevirtual 171, 3) := by decide +kernel
theorem dX10_stand_70 : decode cX10_stand 70 = .ok (.iload_n 1, 1) := by decide +kernel
theorem dX10_stand_71 : decode cX10_stand 71 = .ok (.iadd, 1) := by decide +kernel
theorem dX10_stand_72 : decode cX10_stand 72 = .ok (.iload_n 2, 1) := by decide +kernel
theorem dX10_stand_73 : decode cX10_stand 73 = .ok (.iastore, 1) := by decide +kernel
theorem dX10_stand_74 : decode cX10_stand 74 = .ok (.iload_n 3, 1) := by decide +kernel
theorem dX10_stand_75 : decode cX10_stand 75 = .ok (.ireturn, 1) := by decide +kernel
theorem dX10_undo_0 : decode cX10_undo 0 = .ok (.iload_n 1, 1) := by decide +kernel
theorem dX10_undo_1 : decode cX10_undo 1 = .ok (.iconst 0, 1) := by decide +kernel
theorem dX10_undo_2 : decode cX10_undo 2 = .ok (.aload_n 0, 1) := by decide +kernel
theorem dX10_undo_3 : decode cX10_undo 3 = .ok (.getfield 129, 3) := by decide +kernel
theorem dX10_undo_6 : decode cX10_undo 6 = .ok (.invokestatic 63, 3) := by decide +kernel
theorem dX10_undo_9 : decode cX10_undo 9 = .ok (.ifCond .ne 5, 3) := by decide +kernel
theorem dX10_undo_12 : decode cX10_undo 12 = .ok (.iconst (-1), 1) := by decide +kernel
theorem dX10_undo_13 : decode cX10_undo 13 = .ok (.ireturn, 1) := by decide +kernel
theorem dX10_undo_14 : decode cX10_undo 14 = .ok (.aload_n 0, 1) := by decide +kernel
theorem dX10_undo_15 : decode cX10_undo 15 = .ok (.getfield 129, 3) := by decide +kernel
theorem dX10_undo_18 : decode cX10_undo 18 = .ok (.iload_n 1, 1) := by decide +kernel
theorem dX10_undo_19 : decode cX10_undo 19 = .ok (.isub, 1) := by decide +kernel
theorem dX10_undo_20 : decode cX10_undo 20 = .ok (.istore_n 2, 1) := by decide +kernel
theorem dX10_undo_21 : decode cX10_undo 21 = .ok (.aload_n 0, 1) := by decide +kernel
theorem dX10_undo_22 : decode cX10_undo 22 = .ok (.iload_n 1, 1) := by decide +kernel
theorem dX10_undo_23 : decode cX10_undo 23 = .ok (.putfield 129, 3) := by decide +kernel
theorem dX10_undo_26 : decode cX10_undo 26 = .ok (.iload_n 2, 1) := by decide +kernel
theorem dX10_undo_27 : decode cX10_undo 27 = .ok (.ireturn, 1) := by decide +kernel
theorem dX10_keep_0 : decode cX10_keep 0 = .ok (.iload_n 1, 1) := by decide +kernel
theorem dX10_keep_1 : decode cX10_keep 1 = .ok (.iconst 0, 1) := by decide +kernel
theorem dX10_keep_2 : decode cX10_keep 2 = .ok (.iconst 2, 1) := by decide +kernel
theorem dX10_keep_3 : decode cX10_keep 3 = .ok (.invokestatic 63, 3) := by decide +kernel
theorem dX10_keep_6 : decode cX10_keep 6 = .ok (.ifCond .ne 5, 3) := by decide +kernel
theorem dX10_keep_9 : decode cX10_keep 9 = .ok (.iconst (-1), 1) := by decide +kernel
theorem dX10_keep_10 : decode cX10_keep 10 = .ok (.ireturn, 1) := by decide +kernel
theorem dX10_keep_11 : decode cX10_keep 11 = .ok (.aload_n 0, 1) := by decide +kernel
theorem dX10_keep_12 : decode cX10_keep 12 = .ok (.getfield 120, 3) := by decide +kernel
theorem dX10_keep_15 : decode cX10_keep 15 = .ok (.ifCond .ne 6, 3) := by decide +kernel
theorem dX10_keep_18 : decode cX10_keep 18 = .ok (.bipush (-4), 2) := by decide +kernel
theorem dX10_keep_20 : decode cX10_keep 20 = .ok (.ireturn, 1) := by decide +kernel
theorem dX10_keep_21 : decode cX10_keep 21 = .ok (.iconst 0, 1) := by decide +kernel
theorem dX10_keep_22 : decode cX10_keep 22 = .ok (.istore_n 2, 1) := by decide +kernel
theorem dX10_keep_23 : decode cX10_keep 23 = .ok (.iload_n 2, 1) := by decide +kernel
theorem dX10_keep_24 : decode cX10_keep 24 = .ok (.sipush 697, 3) := by decide +kernel
theorem dX10_keep_27 : decode cX10_keep 27 = .ok (.if_icmp .ge 29, 3) := by decide +kernel
theorem dX10_keep_30 : decode cX10_keep 30 = .ok (.aload_n 0, 1) := by decide +kernel
theorem dX10_keep_31 : decode cX10_keep 31 = .ok (.getfield 7, 3) := by decide +kernel
theorem dX10_keep_34 : decode cX10_keep 34 = .ok (.sipush 697, 3) := by decide +kernel
theorem dX10_keep_37 : decode cX10_keep 37 = .ok (.iload_n 1, 1) := by decide +kernel
theorem dX10_keep_38 : decode cX10_keep 38 = .ok (.iconst 1, 1) := by decide +kernel
theorem dX10_keep_39 : decode cX10_keep 39 = .ok (.iadd, 1) := by decide +kernel
theorem dX10_keep_40 : decode cX10_keep 40 = .ok (.imul, 1) := by decide +kernel
theorem dX10_keep_41 : decode cX10_keep 41 = .ok (.iload_n 2, 1) := by decide +kernel
theorem dX10_keep_42 : decode cX10_keep 42 = .ok (.iadd, 1) := by decide +kernel
theorem dX10_keep_43 : decode cX10_keep 43 = .ok (.aload_n 0, 1) := by decide +kernel
theorem dX10_keep_44 : decode cX10_keep 44 = .ok (.getfield 7, 3) := by decide +kernel
theorem dX10_keep_47 : decode cX10_keep 47 = .ok (.iload_n 2, 1) := by decide +kernel
theorem dX10_keep_48 : decode cX10_keep 48 = .ok (.iaload, 1) := by decide +kernel
theorem dX10_keep_49 : decode cX10_keep 49 = .ok (.iastore, 1) := by decide +kernel
theorem dX10_keep_50 : decode cX10_keep 50 = .ok (.iinc 2 1, 3) := by decide +kernel
theorem dX10_keep_53 : decode cX10_keep 53 = .ok (.goto (-30), 3) := by decide +kernel
theorem dX10_keep_56 : decode cX10_keep 56 = .ok (.aload_n 0, 1) := by decide +kernel
theorem dX10_keep_57 : decode cX10_keep 57 = .ok (.getfield 16, 3) := by decide +kernel
theorem dX10_keep_60 : decode cX10_keep 60 = .ok (.iload_n 1, 1) := by decide +kernel
theorem dX10_keep_61 : decode cX10_keep 61 = .ok (.aload_n 0, 1) := by decide +kernel
theorem dX10_keep_62 : decode cX10_keep 62 = .ok (.getfield 129, 3) := by decide +kernel
theorem dX10_keep_65 : decode cX10_keep 65 = .ok (.iastore, 1) := by decide +kernel
theorem dX10_keep_66 : decode cX10_keep 66 = .ok (.aload_n 0, 1) := by decide +kernel
theorem dX10_keep_67 : decode cX10_keep 67 = .ok (.getfield 129, 3) := by decide +kernel
theorem dX10_keep_70 : decode cX10_keep 70 = .ok (.ireturn, 1) := by decide +kernel
theorem dX10_on_0 : decode cX10_on 0 = .ok (.iload_n 1, 1) := by decide +kernel
theorem dX10_on_1 : decode cX10_on 1 = .ok (.iconst 0, 1) := by decide +kernel
theorem dX10_on_2 : decode cX10_on 2 = .ok (.iconst 2, 1) := by decide +kernel
theorem dX10_on_3 : decode cX10_on 3 = .ok (.invokestatic 63, 3) := by decide +kernel
theorem dX10_on_6 : decode cX10_on 6 = .ok (.ifCond .ne 5, 3) := by decide +kernel
theorem dX10_on_9 : decode cX10_on 9 = .ok (.iconst (-1), 1) := by decide +kernel
theorem dX10_on_10 : decode cX10_on 10 = .ok (.ireturn, 1) := by decide +kernel
theorem dX10_on_11 : decode cX10_on 11 = .ok (.aload_n 0, 1) := by decide +kernel
theorem dX10_on_12 : decode cX10_on 12 = .ok (.getfield 16, 3) := by decide +kernel
theorem dX10_on_15 : decode cX10_on 15 = .ok (.iload_n 1, 1) := by decide +kernel
theorem dX10_on_16 : decode cX10_on 16 = .ok (.iaload, 1) := by decide +kernel
theorem dX10_on_17 : decode cX10_on 17 = .ok (.bipush (-9), 2) := by decide +kernel
theorem dX10_on_19 : decode cX10_on 19 = .ok (.if_icmp .ne 9, 3) := by decide +kernel
theorem dX10_on_22 : decode cX10_on 22 = .ok (.aload_n 0, 1) := by decide +kernel
theorem dX10_on_23 : decode cX10_on 23 = .ok (.iconst 1, 1) := by decide +kernel
theorem dX10_on_24 : decode cX10_on 24 = .ok (.invokevirtual 71, 3) := by decide +kernel
theorem dX10_on_27 : decode cX10_on 27 = .ok (.ireturn, 1) := by decide +kernel
theorem dX10_on_28 : decode cX10_on 28 = .ok (.iconst 0, 1) := by decide +kernel
theorem dX10_on_29 : decode cX10_on 29 = .ok (.istore_n 2, 1) := by decide +kernel
theorem dX10_on_30 : decode cX10_on 30 = .ok (.iload_n 2, 1) := by decide +kernel
theorem dX10_on_31 : decode cX10_on 31 = .ok (.sipush 697, 3) := by decide +kernel
theorem dX10_on_34 : decode cX10_on 34 = .ok (.if_icmp .ge 29, 3) := by decide +kernel
theorem dX10_on_37 : decode cX10_on 37 = .ok (.aload_n 0, 1) := by decide +kernel
theorem dX10_on_38 : decode cX10_on 38 = .ok (.getfield 7, 3) := by decide +kernel
theorem dX10_on_41 : decode cX10_on 41 = .ok (.iload_n 2, 1) := by decide +kernel
theorem dX10_on_42 : decode cX10_on 42 = .ok (.aload_n 0, 1) := by decide +kernel
theorem dX10_on_43 : decode cX10_on 43 = .ok (.getfield 7, 3) := by decide +kernel
theorem dX10_on_46 : decode cX10_on 46 = .ok (.sipush 697, 3) := by decide +kernel
theorem dX10_on_49 : decode cX10_on 49 = .ok (.iload_n 1, 1) := by decide +kernel
theorem dX10_on_50 : decode cX10_on 50 = .ok (.iconst 1, 1) := by decide +kernel
theorem dX10_on_51 : decode cX10_on 51 = .ok (.iadd, 1) := by decide +kernel
theorem dX10_on_52 : decode cX10_on 52 = .ok (.imul, 1) := by decide +kernel
theorem dX10_on_53 : decode cX10_on 53 = .ok (.iload_n 2, 1) := by decide +kernel
theorem dX10_on_54 : decode cX10_on 54 = .ok (.iadd, 1) := by decide +kernel
theorem dX10_on_55 : decode cX10_on 55 = .ok (.iaload, 1) := by decide +kernel
theorem dX10_on_56 : decode cX10_on 56 = .ok (.iastore, 1) := by decide +kernel
theorem dX10_on_57 : decode cX10_on 57 = .ok (.iinc 2 1, 3) := by decide +kernel
theorem dX10_on_60 : decode cX10_on 60 = .ok (.goto (-30), 3) := by decide +kernel
theorem dX10_on_63 : decode cX10_on 63 = .ok (.aload_n 0, 1) := by decide +kernel
theorem dX10_on_64 : decode cX10_on 64 = .ok (.aload_n 0, 1) := by decide +kernel
theorem dX10_on_65 : decode cX10_on 65 = .ok (.getfield 16, 3) := by decide +kernel
theorem dX10_on_68 : decode cX10_on 68 = .ok (.iload_n 1, 1) := by decide +kernel
theorem dX10_on_69 : decode cX10_on 69 = .ok (.iaload, 1) := by decide +kernel
theorem dX10_on_70 : decode cX10_on 70 = .ok (.putfield 129, 3) := by decide +kernel
theorem dX10_on_73 : decode cX10_on 73 = .ok (.aload_n 0, 1) := by decide +kernel
theorem dX10_on_74 : decode cX10_on 74 = .ok (.getfield 129, 3) := by decide +kernel
theorem dX10_on_77 : decode cX10_on 77 = .ok (.ireturn, 1) := by decide +kernel
theorem dX10_gathers_0 : decode cX10_gathers 0 = .ok (.aload_n 0, 1) := by decide +kernel
theorem dX10_gathers_1 : decode cX10_gathers 1 = .ok (.iload_n 1, 1) := by decide +kernel
theorem dX10_gathers_2 : decode cX10_gathers 2 = .ok (.invokevirtual 152, 3) := by decide +kernel
theorem dX10_gathers_5 : decode cX10_gathers 5 = .ok (.ifCond .eq 26, 3) := by decide +kernel
theorem dX10_gathers_8 : decode cX10_gathers 8 = .ok (.iload_n 2, 1) := by decide +kernel
theorem dX10_gathers_9 : decode cX10_gathers 9 = .ok (.iconst 0, 1) := by decide +kernel
theorem dX10_gathers_10 : decode cX10_gathers 10 = .ok (.bipush 60, 2) := by decide +kernel
theorem dX10_gathers_12 : decode cX10_gathers 12 = .ok (.invokestatic 63, 3) := by decide +kernel
theorem dX10_gathers_15 : decode cX10_gathers 15 = .ok (.ifCond .eq 16, 3) := by decide +kernel
theorem dX10_gathers_18 : decode cX10_gathers 18 = .ok (.aload_n 0, 1) := by decide +kernel
theorem dX10_gathers_19 : decode cX10_gathers 19 = .ok (.getfield 13, 3) := by decide +kernel
theorem dX10_gathers_22 : decode cX10_gathers 22 = .ok (.iload_n 1, 1) := by decide +kernel
theorem dX10_gathers_23 : decode cX10_gathers 23 = .ok (.iaload, 1) := by decide +kernel
theorem dX10_gathers_24 : decode cX10_gathers 24 = .ok (.iload_n 2, 1) := by decide +kernel
theorem dX10_gathers_25 : decode cX10_gathers 25 = .ok (.invokestatic 138, 3) := by decide +kernel
theorem dX10_gathers_28 : decode cX10_gathers 28 = .ok (.goto 4, 3) := by decide +kernel
theorem dX10_gathers_31 : decode cX10_gathers 31 = .ok (.iconst (-1), 1) := by decide +kernel
theorem dX10_gathers_32 : decode cX10_gathers 32 = .ok (.ireturn, 1) := by decide +kernel
theorem dX10_goOn_0 : decode cX10_goOn 0 = .ok (.aload_n 0, 1) := by decide +kernel
theorem dX10_goOn_1 : decode cX10_goOn 1 = .ok (.aload_n 0, 1) := by decide +kernel
theorem dX10_goOn_2 : decode cX10_goOn 2 = .ok (.invokevirtual 145, 3) := by decide +kernel
theorem dX10_goOn_5 : decode cX10_goOn 5 = .ok (.sipush 2788, 3) := by decide +kernel
theorem dX10_goOn_8 : decode cX10_goOn 8 = .ok (.invokevirtual 167, 3) := by decide +kernel
theorem dX10_goOn_11 : decode cX10_goOn 11 = .ok (.iconst 0, 1) := by decide +kernel
theorem dX10_goOn_12 : decode cX10_goOn 12 = .ok (.istore_n 3, 1) := by decide +kernel
theorem dX10_goOn_13 : decode cX10_goOn 13 = .ok (.iload_n 3, 1) := by decide +kernel
theorem dX10_goOn_14 : decode cX10_goOn 14 = .ok (.iload_n 1, 1) := by decide +kernel
theorem dX10_goOn_15 : decode cX10_goOn 15 = .ok (.if_icmp .ge 22, 3) := by decide +kernel
theorem dX10_goOn_18 : decode cX10_goOn 18 = .ok (.aload_n 0, 1) := by decide +kernel
theorem dX10_goOn_19 : decode cX10_goOn 19 = .ok (.sipush 2788, 3) := by decide +kernel
theorem dX10_goOn_22 : decode cX10_goOn 22 = .ok (.iload_n 2, 1) := by decide +kernel
theorem dX10_goOn_23 : decode cX10_goOn 23 = .ok (.bipush (-9), 2) := by decide +kernel
theorem dX10_goOn_25 : decode cX10_goOn 25 = .ok (.iconst 0, 1) := by decide +kernel
theorem dX10_goOn_26 : decode cX10_goOn 26 = .ok (.invokevirtual 141, 3) := by decide +kernel
theorem dX10_goOn_29 : decode cX10_goOn 29 = .ok (.istore 4, 2) := by decide +kernel
theorem dX10_goOn_31 : decode cX10_goOn 31 = .ok (.iinc 3 1, 3) := by decide +kernel
theorem dX10_goOn_34 : decode cX10_goOn 34 = .ok (.goto (-21), 3) := by decide +kernel
theorem dX10_goOn_37 : decode cX10_goOn 37 = .ok (.return_, 1) := by decide +kernel
theorem dX10_cloud_0 : decode cX10_cloud 0 = .ok (.iload_n 1, 1) := by decide +kernel
theorem dX10_cloud_1 : decode cX10_cloud 1 = .ok (.iconst 0, 1) := by decide +kernel
theorem dX10_cloud_2 : decode cX10_cloud 2 = .ok (.bipush 40, 2) := by decide +kernel
theorem dX10_cloud_4 : decode cX10_cloud 4 = .ok (.invokestatic 63, 3) := by decide +kernel
theorem dX10_cloud_7 : decode cX10_cloud 7 = .ok (.ifCond .ne 5, 3) := by decide +kernel
theorem dX10_cloud_10 : decode cX10_cloud 10 = .ok (.iconst (-1), 1) := by decide +kernel
theorem dX10_cloud_11 : decode cX10_cloud 11 = .ok (.ireturn, 1) := by decide +kernel
theorem dX10_cloud_12 : decode cX10_cloud 12 = .ok (.aload_n 0, 1) := by decide +kernel
theorem dX10_cloud_13 : decode cX10_cloud 13 = .ok (.getfield 120, 3) := by decide +kernel
theorem dX10_cloud_16 : decode cX10_cloud 16 = .ok (.ifCond .ne 6, 3) := by decide +kernel
theorem dX10_cloud_19 : decode cX10_cloud 19 = .ok (.bipush (-4), 2) := by decide +kernel
theorem dX10_cloud_21 : decode cX10_cloud 21 = .ok (.ireturn, 1) := by decide +kernel
theorem dX10_cloud_22 : decode cX10_cloud 22 = .ok (.aload_n 0, 1) := by decide +kernel
theorem dX10_cloud_23 : decode cX10_cloud 23 = .ok (.iload_n 1, 1) := by decide +kernel
theorem dX10_cloud_24 : decode cX10_cloud 24 = .ok (.iconst 0, 1) := by decide +kernel
theorem dX10_cloud_25 : decode cX10_cloud 25 = .ok (.invokevirtual 180, 3) := by decide +kernel
theorem dX10_cloud_28 : decode cX10_cloud 28 = .ok (.aload_n 0, 1) := by decide +kernel
theorem dX10_cloud_29 : decode cX10_cloud 29 = .ok (.aload_n 0, 1) := by decide +kernel
theorem dX10_cloud_30 : decode cX10_cloud 30 = .ok (.getfield 7, 3) := by decide +kernel
theorem dX10_cloud_33 : decode cX10_cloud 33 = .ok (.sipush 2801, 3) := by decide +kernel
theorem dX10_cloud_36 : decode cX10_cloud 36 = .ok (.iaload, 1) := by decide +kernel
theorem dX10_cloud_37 : decode cX10_cloud 37 = .ok (.putfield 60, 3) := by decide +kernel
theorem dX10_cloud_40 : decode cX10_cloud 40 = .ok (.aload_n 0, 1) := by decide +kernel
theorem dX10_cloud_41 : decode cX10_cloud 41 = .ok (.getfield 7, 3) := by decide +kernel
theorem dX10_cloud_44 : decode cX10_cloud 44 = .ok (.sipush 2800, 3) := by decide +kernel
theorem dX10_cloud_47 : decode cX10_cloud 47 = .ok (.iaload, 1) := by decide +kernel
theorem dX10_cloud_48 : decode cX10_cloud 48 = .ok (.ireturn, 1) := by decide +kernel
theorem dX10_share_0 : decode cX10_share 0 = .ok (.aload_n 0, 1) := by decide +kernel
theorem dX10_share_1 : decode cX10_share 1 = .ok (.iload_n 1, 1) := by decide +kernel
theorem dX10_share_2 : decode cX10_share 2 = .ok (.invokevirtual 152, 3) := by decide +kernel
theorem dX10_share_5 : decode cX10_share 5 = .ok (.ifCond .eq 13, 3) := by decide +kernel
theorem dX10_share_8 : decode cX10_share 8 = .ok (.iload_n 2, 1) := by decide +kernel
theorem dX10_share_9 : decode cX10_share 9 = .ok (.iconst 0, 1) := by decide +kernel
theorem dX10_share_10 : decode cX10_share 10 = .ok (.bipush 40, 2) := by decide +kernel
theorem dX10_share_12 : decode cX10_share 12 = .ok (.invokestatic 63, 3) := by decide +kernel
theorem dX10_share_15 : decode cX10_share 15 = .ok (.ifCond .ne 5, 3) := by decide +kernel
theorem dX10_share_18 : decode cX10_share 18 = .ok (.iconst (-1), 1) := by decide +kernel
theorem dX10_share_19 : decode cX10_share 19 = .ok (.ireturn, 1) := by decide +kernel
theorem dX10_share_20 : decode cX10_share 20 = .ok (.aload_n 0, 1) := by decide +kernel
theorem dX10_share_21 : decode cX10_share 21 = .ok (.iload_n 2, 1) := by decide +kernel
theorem dX10_share_22 : decode cX10_share 22 = .ok (.iconst 0, 1) := by decide +kernel
theorem dX10_share_23 : decode cX10_share 23 = .ok (.invokevirtual 180, 3) := by decide +kernel
theorem dX10_share_26 : decode cX10_share 26 = .ok (.aload_n 0, 1) := by decide +kernel
theorem dX10_share_27 : decode cX10_share 27 = .ok (.getfield 7, 3) := by decide +kernel
theorem dX10_share_30 : decode cX10_share 30 = .ok (.sipush 2794, 3) := by decide +kernel
theorem dX10_share_33 : decode cX10_share 33 = .ok (.iload_n 1, 1) := by decide +kernel
theorem dX10_share_34 : decode cX10_share 34 = .ok (.iadd, 1) := by decide +kernel
theorem dX10_share_35 : decode cX10_share 35 = .ok (.iaload, 1) := by decide +kernel
theorem dX10_share_36 : decode cX10_share 36 = .ok (.ireturn, 1) := by decide +kernel
theorem dX10_first_0 : decode cX10_first 0 = .ok (.aload_n 0, 1) := by decide +kernel
theorem dX10_first_1 : decode cX10_first 1 = .ok (.iload_n 1, 1) := by decide +kernel
theorem dX10_first_2 : decode cX10_first 2 = .ok (.invokevirtual 152, 3) := by decide +kernel
theorem dX10_first_5 : decode cX10_first 5 = .ok (.ifCond .ne 5, 3) := by decide +kernel
theorem dX10_first_8 : decode cX10_first 8 = .ok (.iconst (-1), 1) := by decide +kernel
theorem dX10_first_9 : decode cX10_first 9 = .ok (.ireturn, 1) := by decide +kernel
theorem dX10_first_10 : decode cX10_first 10 = .ok (.aload_n 0, 1) := by decide +kernel
theorem dX10_first_11 : decode cX10_first 11 = .ok (.aload_n 0, 1) := by decide +kernel
theorem dX10_first_12 : decode cX10_first 12 = .ok (.invokevirtual 145, 3) := by decide +kernel
theorem dX10_first_15 : decode cX10_first 15 = .ok (.sipush 2788, 3) := by decide +kernel
theorem dX10_first_18 : decode cX10_first 18 = .ok (.invokevirtual 167, 3) := by decide +kernel
theorem dX10_first_21 : decode cX10_first 21 = .ok (.iconst 1, 1) := by decide +kernel
theorem dX10_first_22 : decode cX10_first 22 = .ok (.istore_n 2, 1) := by decide +kernel
theorem dX10_first_23 : decode cX10_first 23 = .ok (.iload_n 2, 1) := by decide +kernel
theorem dX10_first_24 : decode cX10_first 24 = .ok (.bipush 40, 2) := by decide +kernel
theorem dX10_first_26 : decode cX10_first 26 = .ok (.if_icmp .gt 25, 3) := by decide +kernel
theorem dX10_first_29 : decode cX10_first 29 = .ok (.aload_n 0, 1) := by decide +kernel
theorem dX10_first_30 : decode cX10_first 30 = .ok (.sipush 2788, 3) := by decide +kernel
theorem dX10_first_33 : decode cX10_first 33 = .ok (.invokevirtual 174, 3) := by decide +kernel
theorem dX10_first_36 : decode cX10_first 36 = .ok (.iload_n 1, 1) := by decide +kernel
theorem dX10_first_37 : decode cX10_first 37 = .ok (.invokestatic 135, 3) := by decide +kernel
theorem dX10_first_40 : decode cX10_first 40 = .ok (.ifCond .eq 5, 3) := by decide +kernel
theorem dX10_first_43 : decode cX10_first 43 = .ok (.iload_n 2, 1) := by decide +kernel
theorem dX10_first_44 : decode cX10_first 44 = .ok (.ireturn, 1) := by decide +kernel
theorem dX10_first_45 : decode cX10_first 45 = .ok (.iinc 2 1, 3) := by decide +kernel
theorem dX10_first_48 : decode cX10_first 48 = .ok (.goto (-25), 3) := by decide +kernel
theorem dX10_first_51 : decode cX10_first 51 = .ok (.bipush (-9), 2) := by decide +kernel
theorem dX10_first_53 : decode cX10_first 53 = .ok (.ireturn, 1) := by decide +kernel
theorem dX10_bits_0 : decode cX10_bits 0 = .ok (.iconst 0, 1) := by decide +kernel
theorem dX10_bits_1 : decode cX10_bits 1 = .ok (.istore_n 1, 1) := by decide +kernel
theorem dX10_bits_2 : decode cX10_bits 2 = .ok (.iconst 0, 1) := by decide +kernel
theorem dX10_bits_3 : decode cX10_bits 3 = .ok (.istore_n 2, 1) := by decide +kernel
theorem dX10_bits_4 : decode cX10_bits 4 = .ok (.iload_n 2, 1) := by decide +kernel
theorem dX10_bits_5 : decode cX10_bits 5 = .ok (.bipush 31, 2) := by decide +kernel
theorem dX10_bits_7 : decode cX10_bits 7 = .ok (.if_icmp .ge 17, 3) := by decide +kernel
theorem dX10_bits_10 : decode cX10_bits 10 = .ok (.iload_n 1, 1) := by decide +kernel
theorem dX10_bits_11 : decode cX10_bits 11 = .ok (.iload_n 0, 1) := by decide +kernel
theorem dX10_bits_12 : decode cX10_bits 12 = .ok (.iload_n 2, 1) := by decide +kernel
theorem dX10_bits_13 : decode cX10_bits 13 = .ok (.ishr, 1) := by decide +kernel
theorem dX10_bits_14 : decode cX10_bits 14 = .ok (.iconst 1, 1) := by decide +kernel
theorem dX10_bits_15 : decode cX10_bits 15 = .ok (.iand, 1) := by decide +kernel
theorem dX10_bits_16 : decode cX10_bits 16 = .ok (.iadd, 1) := by decide +kernel
theorem dX10_bits_17 : decode cX10_bits 17 = .ok (.istore_n 1, 1) := by decide +kernel
theorem dX10_bits_18 : decode cX10_bits 18 = .ok (.iinc 2 1, 3) := by decide +kernel
theorem dX10_bits_21 : decode cX10_bits 21 = .ok (.goto (-17), 3) := by decide +kernel
theorem dX10_bits_24 : decode cX10_bits 24 = .ok (.iload_n 1, 1) := by decide +kernel
theorem dX10_bits_25 : decode cX10_bits 25 = .ok (.ireturn, 1) := by decide +kernel
theorem dX10_away_0 : decode cX10_away 0 = .ok (.aload_n 0, 1) := by decide +kernel
theorem dX10_away_1 : decode cX10_away 1 = .ok (.iload_n 1, 1) := by decide +kernel
theorem dX10_away_2 : decode cX10_away 2 = .ok (.invokevirtual 152, 3) := by decide +kernel
theorem dX10_away_5 : decode cX10_away 5 = .ok (.ifCond .eq 23, 3) := by decide +kernel
theorem dX10_away_8 : decode cX10_away 8 = .ok (.iload_n 2, 1) := by decide +kernel
theorem dX10_away_9 : decode cX10_away 9 = .ok (.iconst 0, 1) := by decide +kernel
theorem dX10_away_10 : decode cX10_away 10 = .ok (.bipush 30, 2) := by decide +kernel
theorem dX10_away_12 : decode cX10_away 12 = .ok (.invokestatic 63, 3) := by decide +kernel
theorem dX10_away_15 : decode cX10_away 15 = .ok (.ifCond .eq 13, 3) := by decide +kernel
theorem dX10_away_18 : decode cX10_away 18 = .ok (.iload_n 3, 1) := by decide +kernel
theorem dX10_away_19 : decode cX10_away 19 = .ok (.iconst 1, 1) := by decide +kernel
theorem dX10_away_20 : decode cX10_away 20 = .ok (.bipush 20, 2) := by decide +kernel
theorem dX10_away_22 : decode cX10_away 22 = .ok (.invokestatic 63, 3) := by decide +kernel
theorem dX10_away_25 : decode cX10_away 25 = .ok (.ifCond .ne 5, 3) := by decide +kernel
theorem dX10_away_28 : decode cX10_away 28 = .ok (.iconst (-1), 1) := by decide +kernel
theorem dX10_away_29 : decode cX10_away 29 = .ok (.ireturn, 1) := by decide +kernel
theorem dX10_away_30 : decode cX10_away 30 = .ok (.bipush (-9), 2) := by decide +kernel
theorem dX10_away_32 : decode cX10_away 32 = .ok (.istore 4, 2) := by decide +kernel
theorem dX10_away_34 : decode cX10_away 34 = .ok (.iconst 0, 1) := by decide +kernel
theorem dX10_away_35 : decode cX10_away 35 = .ok (.istore 5, 2) := by decide +kernel
theorem dX10_away_37 : decode cX10_away 37 = .ok (.iload 5, 2) := by decide +kernel
theorem dX10_away_39 : decode cX10_away 39 = .ok (.iconst 1, 1) := by decide +kernel
theorem dX10_away_40 : decode cX10_away 40 = .ok (.aload_n 0, 1) := by decide +kernel
theorem dX10_away_41 : decode cX10_away 41 = .ok (.getfield 120, 3) := by decide +kernel
theorem dX10_away_44 : decode cX10_away 44 = .ok (.ishl, 1) := by decide +kernel
theorem dX10_away_45 : decode cX10_away 45 = .ok (.if_icmp .ge 68, 3) := by decide +kernel
theorem dX10_away_48 : decode cX10_away 48 = .ok (.iload 5, 2) := by decide +kernel
theorem dX10_away_50 : decode cX10_away 50 = .ok (.iload_n 1, 1) := by decide +kernel
theorem dX10_away_51 : decode cX10_away 51 = .ok (.invokestatic 135, 3) := by decide +kernel
theorem dX10_away_54 : decode cX10_away 54 = .ok (.ifCond .ne 53, 3) := by decide +kernel
theorem dX10_away_57 : decode cX10_away 57 = .ok (.iload 4, 2) := by decide +kernel
theorem dX10_away_59 : decode cX10_away 59 = .ok (.bipush (-9), 2) := by decide +kernel
theorem dX10_away_61 : decode cX10_away 61 = .ok (.if_icmp .eq 16, 3) := by decide +kernel
theorem dX10_away_64 : decode cX10_away 64 = .ok (.iload 5, 2) := by decide +kernel
theorem dX10_away_66 : decode cX10_away 66 = .ok (.invokestatic 183, 3) := by decide +kernel
theorem dX10_away_69 : decode cX10_away 69 = .ok (.iload 4, 2) := by decide +kernel
theorem dX10_away_71 : decode cX10_away 71 = .ok (.invokestatic 183, 3) := by decide +kernel
theorem dX10_away_74 : decode cX10_away 74 = .ok (.if_icmp .ge 33, 3) := by decide +kernel
theorem dX10_away_77 : decode cX10_away 77 = .ok (.aload_n 0, 1) := by decide +kernel
theorem dX10_away_78 : decode cX10_away 78 = .ok (.iload_n 3, 1) := by decide +kernel
theorem dX10_away_79 : decode cX10_away 79 = .ok (.iload 5, 2) := by decide +kernel
theorem dX10_away_81 : decode cX10_away 81 = .ok (.invokevirtual 180, 3) := by decide +kernel
theorem dX10_away_84 : decode cX10_away 84 = .ok (.aload_n 0, 1) := by decide +kernel
theorem dX10_away_85 : decode cX10_away 85 = .ok (.getfield 7, 3) := by decide +kernel
theorem dX10_away_88 : decode cX10_away 88 = .ok (.sipush 2794, 3) := by decide +kernel
theorem dX10_away_91 : decode cX10_away 91 = .ok (.iload_n 1, 1) := by decide +kernel
theorem dX10_away_92 : decode cX10_away 92 = .ok (.iadd, 1) := by decide +kernel
theorem dX10_away_93 : decode cX10_away 93 = .ok (.iaload, 1) := by decide +kernel
theorem dX10_away_94 : decode cX10_away 94 = .ok (.iload_n 2, 1) := by decide +kernel
theorem dX10_away_95 : decode cX10_away 95 = .ok (.if_icmp .lt 8, 3) := by decide +kernel
theorem dX10_away_98 : decode cX10_away 98 = .ok (.iload 5, 2) := by decide +kernel
theorem dX10_away_100 : decode cX10_away 100 = .ok (.goto 5, 3) := by decide +kernel
theorem dX10_away_103 : decode cX10_away 103 = .ok (.iload 4, 2) := by decide +kernel
theorem dX10_away_105 : decode cX10_away 105 = .ok (.istore 4, 2) := by decide +kernel
theorem dX10_away_107 : decode cX10_away 107 = .ok (.iinc 5 1, 3) := by decide +kernel
theorem dX10_away_110 : decode cX10_away 110 = .ok (.goto (-73), 3) := by decide +kernel
theorem dX10_away_113 : decode cX10_away 113 = .ok (.iload 4, 2) := by decide +kernel
theorem dX10_away_115 : decode cX10_away 115 = .ok (.bipush (-9), 2) := by decide +kernel
theorem dX10_away_117 : decode cX10_away 117 = .ok (.if_icmp .ne 6, 3) := by decide +kernel
theorem dX10_away_120 : decode cX10_away 120 = .ok (.bipush (-9), 2) := by decide +kernel
theorem dX10_away_122 : decode cX10_away 122 = .ok (.ireturn, 1) := by decide +kernel
theorem dX10_away_123 : decode cX10_away 123 = .ok (.aload_n 0, 1) := by decide +kernel
theorem dX10_away_124 : decode cX10_away 124 = .ok (.iload 4, 2) := by decide +kernel
theorem dX10_away_126 : decode cX10_away 126 = .ok (.putfield 60, 3) := by decide +kernel
theorem dX10_away_129 : decode cX10_away 129 = .ok (.iload 4, 2) := by decide +kernel
theorem dX10_away_131 : decode cX10_away 131 = .ok (.invokestatic 183, 3) := by decide +kernel
theorem dX10_away_134 : decode cX10_away 134 = .ok (.ireturn, 1) := by decide +kernel
theorem dX10_best_0 : decode cX10_best 0 = .ok (.aload_n 0, 1) := by decide +kernel
theorem dX10_best_1 : decode cX10_best 1 = .ok (.iload_n 1, 1) := by decide +kernel
theorem dX10_best_2 : decode cX10_best 2 = .ok (.invokevirtual 152, 3) := by decide +kernel
theorem dX10_best_5 : decode cX10_best 5 = .ok (.ifCond .eq 13, 3) := by decide +kernel
theorem dX10_best_8 : decode cX10_best 8 = .ok (.iload_n 2, 1) := by decide +kernel
theorem dX10_best_9 : decode cX10_best 9 = .ok (.iconst 1, 1) := by decide +kernel
theorem dX10_best_10 : decode cX10_best 10 = .ok (.bipush 20, 2) := by decide +kernel
theorem dX10_best_12 : decode cX10_best 12 = .ok (.invokestatic 63, 3) := by decide +kernel
theorem dX10_best_15 : decode cX10_best 15 = .ok (.ifCond .ne 5, 3) := by decide +kernel
theorem dX10_best_18 : decode cX10_best 18 = .ok (.iconst (-1), 1) := by decide +kernel
theorem dX10_best_19 : decode cX10_best 19 = .ok (.ireturn, 1) := by decide +kernel
theorem dX10_best_20 : decode cX10_best 20 = .ok (.bipush (-9), 2) := by decide +kernel
theorem dX10_best_22 : decode cX10_best 22 = .ok (.istore_n 3, 1) := by decide +kernel
theorem dX10_best_23 : decode cX10_best 23 = .ok (.iconst (-1), 1) := by decide +kernel
theorem dX10_best_24 : decode cX10_best 24 = .ok (.istore 4, 2) := by decide +kernel
theorem dX10_best_26 : decode cX10_best 26 = .ok (.iconst 0, 1) := by decide +kernel
theorem dX10_best_27 : decode cX10_best 27 = .ok (.istore 5, 2) := by decide +kernel
theorem dX10_best_29 : decode cX10_best 29 = .ok (.iload 5, 2) := by decide +kernel
theorem dX10_best_31 : decode cX10_best 31 = .ok (.bipush 10, 2) := by decide +kernel
theorem dX10_best_33 : decode cX10_best 33 = .ok (.if_icmp .ge 110, 3) := by decide +kernel
theorem dX10_best_36 : decode cX10_best 36 = .ok (.aload_n 0, 1) := by decide +kernel
theorem dX10_best_37 : decode cX10_best 37 = .ok (.aload_n 0, 1) := by decide +kernel
theorem dX10_best_38 : decode cX10_best 38 = .ok (.invokevirtual 145, 3) := by decide +kernel
theorem dX10_best_41 : decode cX10_best 41 = .ok (.sipush 2788, 3) := by decide +kernel
theorem dX10_best_44 : decode cX10_best 44 = .ok (.invokevirtual 167, 3) := by decide +kernel
theorem dX10_best_47 : decode cX10_best 47 = .ok (.aload_n 0, 1) := by decide +kernel
theorem dX10_best_48 : decode cX10_best 48 = .ok (.getfield 7, 3) := by decide +kernel
theorem dX10_best_51 : decode cX10_best 51 = .ok (.sipush 2788, 3) := by decide +kernel
theorem dX10_best_54 : decode cX10_best 54 = .ok (.iload_n 1, 1) := by decide +kernel
theorem dX10_best_55 : decode cX10_best 55 = .ok (.iadd, 1) := by decide +kernel
theorem dX10_best_56 : decode cX10_best 56 = .ok (.iload 5, 2) := by decide +kernel
theorem dX10_best_58 : decode cX10_best 58 = .ok (.iastore, 1) := by decide +kernel
theorem dX10_best_59 : decode cX10_best 59 = .ok (.iconst 0, 1) := by decide +kernel
theorem dX10_best_60 : decode cX10_best 60 = .ok (.istore 6, 2) := by decide +kernel
theorem dX10_best_62 : decode cX10_best 62 = .ok (.iload 6, 2) := by decide +kernel
theorem dX10_best_64 : decode cX10_best 64 = .ok (.iload_n 2, 1) := by decide +kernel
theorem dX10_best_65 : decode cX10_best 65 = .ok (.if_icmp .ge 18, 3) := by decide +kernel
theorem dX10_best_68 : decode cX10_best 68 = .ok (.aload_n 0, 1) := by decide +kernel
theorem dX10_best_69 : decode cX10_best 69 = .ok (.sipush 2788, 3) := by decide +kernel
theorem dX10_best_72 : decode cX10_best 72 = .ok (.invokevirtual 174, 3) := by decide +kernel
theorem dX10_best_75 : decode cX10_best 75 = .ok (.istore 7, 2) := by decide +kernel
theorem dX10_best_77 : decode cX10_best 77 = .ok (.iinc 6 1, 3) := by decide +kernel
theorem dX10_best_80 : decode cX10_best 80 = .ok (.goto (-18), 3) := by decide +kernel
theorem dX10_best_83 : decode cX10_best 83 = .ok (.aload_n 0, 1) := by decide +kernel
theorem dX10_best_84 : decode cX10_best 84 = .ok (.getfield 7, 3) := by decide +kernel
theorem dX10_best_87 : decode cX10_best 87 = .ok (.sipush 2794, 3) := by decide +kernel
theorem dX10_best_90 : decode cX10_best 90 = .ok (.iload_n 1, 1) := by decide +kernel
theorem dX10_best_91 : decode cX10_best 91 = .ok (.iadd, 1) := by decide +kernel
theorem dX10_best_92 : decode cX10_best 92 = .ok (.iaload, 1) := by decide +kernel
theorem dX10_best_93 : decode cX10_best 93 = .ok (.iload 4, 2) := by decide +kernel
theorem dX10_best_95 : decode cX10_best 95 = .ok (.if_icmp .le 8, 3) := by decide +kernel
theorem dX10_best_98 : decode cX10_best 98 = .ok (.iload 5, 2) := by decide +kernel
theorem dX10_best_100 : decode cX10_best 100 = .ok (.goto 4, 3) := by decide +kernel
theorem dX10_best_103 : decode cX10_best 103 = .ok (.iload_n 3, 1) := by decide +kernel
theorem dX10_best_104 : decode cX10_best 104 = .ok (.istore_n 3, 1) := by decide +kernel
theorem dX10_best_105 : decode cX10_best 105 = .ok (.aload_n 0, 1) := by decide +kernel
theorem dX10_best_106 : decode cX10_best 106 = .ok (.getfield 7, 3) := by decide +kernel
theorem dX10_best_109 : decode cX10_best 109 = .ok (.sipush 2794, 3) := by decide +kernel
theorem dX10_best_112 : decode cX10_best 112 = .ok (.iload_n 1, 1) := by decide +kernel
theorem dX10_best_113 : decode cX10_best 113 = .ok (.iadd, 1) := by decide +kernel
theorem dX10_best_114 : decode cX10_best 114 = .ok (.iaload, 1) := by decide +kernel
theorem dX10_best_115 : decode cX10_best 115 = .ok (.iload 4, 2) := by decide +kernel
theorem dX10_best_117 : decode cX10_best 117 = .ok (.if_icmp .le 16, 3) := by decide +kernel
theorem dX10_best_120 : decode cX10_best 120 = .ok (.aload_n 0, 1) := by decide +kernel
theorem dX10_best_121 : decode cX10_best 121 = .ok (.getfield 7, 3) := by decide +kernel
theorem dX10_best_124 : decode cX10_best 124 = .ok (.sipush 2794, 3) := by decide +kernel
theorem dX10_best_127 : decode cX10_best 127 = .ok (.iload_n 1, 1) := by decide +kernel
theorem dX10_best_128 : decode cX10_best 128 = .ok (.iadd, 1) := by decide +kernel
theorem dX10_best_129 : decode cX10_best 129 = .ok (.iaload, 1) := by decide +kernel
theorem dX10_best_130 : decode cX10_best 130 = .ok (.goto 5, 3) := by decide +kernel
theorem dX10_best_133 : decode cX10_best 133 = .ok (.iload 4, 2) := by decide +kernel
theorem dX10_best_135 : decode cX10_best 135 = .ok (.istore 4, 2) := by decide +kernel
theorem dX10_best_137 : decode cX10_best 137 = .ok (.iinc 5 1, 3) := by decide +kernel
theorem dX10_best_140 : decode cX10_best 140 = .ok (.goto (-111), 3) := by decide +kernel
theorem dX10_best_143 : decode cX10_best 143 = .ok (.aload_n 0, 1) := by decide +kernel
theorem dX10_best_144 : decode cX10_best 144 = .ok (.iload 4, 2) := by decide +kernel
theorem dX10_best_146 : decode cX10_best 146 = .ok (.putfield 60, 3) := by decide +kernel
theorem dX10_best_149 : decode cX10_best 149 = .ok (.iload_n 3, 1) := by decide +kernel
theorem dX10_best_150 : decode cX10_best 150 = .ok (.ireturn, 1) := by decide +kernel
theorem dX10_without_0 : decode cX10_without 0 = .ok (.aload_n 0, 1) := by decide +kernel
theorem dX10_without_1 : decode cX10_without 1 = .ok (.aload_n 0, 1) := by decide +kernel
theorem dX10_without_2 : decode cX10_without 2 = .ok (.invokevirtual 145, 3) := by decide +kernel
theorem dX10_without_5 : decode cX10_without 5 = .ok (.sipush 2788, 3) := by decide +kernel
theorem dX10_without_8 : decode cX10_without 8 = .ok (.invokevirtual 167, 3) := by decide +kernel
theorem dX10_without_11 : decode cX10_without 11 = .ok (.aload_n 0, 1) := by decide +kernel
theorem dX10_without_12 : decode cX10_without 12 = .ok (.sipush 2788, 3) := by decide +kernel
theorem dX10_without_15 : decode cX10_without 15 = .ok (.iload_n 3, 1) := by decide +kernel
theorem dX10_without_16 : decode cX10_without 16 = .ok (.invokevirtual 177, 3) := by decide +kernel
theorem dX10_without_19 : decode cX10_without 19 = .ok (.iconst 0, 1) := by decide +kernel
theorem dX10_without_20 : decode cX10_without 20 = .ok (.istore 4, 2) := by decide +kernel
theorem dX10_without_22 : decode cX10_without 22 = .ok (.iconst 0, 1) := by decide +kernel
theorem dX10_without_23 : decode cX10_without 23 = .ok (.istore 5, 2) := by decide +kernel
theorem dX10_without_25 : decode cX10_without 25 = .ok (.iload 5, 2) := by decide +kernel
theorem dX10_without_27 : decode cX10_without 27 = .ok (.iload_n 2, 1) := by decide +kernel
theorem dX10_without_28 : decode cX10_without 28 = .ok (.if_icmp .ge 21, 3) := by decide +kernel
theorem dX10_without_31 : decode cX10_without 31 = .ok (.iload 4, 2) := by decide +kernel
theorem dX10_without_33 : decode cX10_without 33 = .ok (.aload_n 0, 1) := by decide +kernel
theorem dX10_without_34 : decode cX10_without 34 = .ok (.sipush 2788, 3) := by decide +kernel
theorem dX10_without_37 : decode cX10_without 37 = .ok (.invokevirtual 174, 3) := by decide +kernel
theorem dX10_without_40 : decode cX10_without 40 = .ok (.ior, 1) := by decide +kernel
theorem dX10_without_41 : decode cX10_without 41 = .ok (.istore 4, 2) := by decide +kernel
theorem dX10_without_43 : decode cX10_without 43 = .ok (.iinc 5 1, 3) := by decide +kernel
theorem dX10_without_46 : decode cX10_without 46 = .ok (.goto (-21), 3) := by decide +kernel
theorem dX10_without_49 : decode cX10_without 49 = .ok (.iload_n 1, 1) := by decide +kernel
theorem dX10_without_50 : decode cX10_without 50 = .ok (.iload 4, 2) := by decide +kernel
theorem dX10_without_52 : decode cX10_without 52 = .ok (.iconst (-1), 1) := by decide +kernel
theorem dX10_without_53 : decode cX10_without 53 = .ok (.ixor, 1) := by decide +kernel
theorem dX10_without_54 : decode cX10_without 54 = .ok (.iand, 1) := by decide +kernel
theorem dX10_without_55 : decode cX10_without 55 = .ok (.ireturn, 1) := by decide +kernel
theorem dX10_least_0 : decode cX10_least 0 = .ok (.iload_n 1, 1) := by decide +kernel
theorem dX10_least_1 : decode cX10_least 1 = .ok (.iconst 0, 1) := by decide +kernel
theorem dX10_least_2 : decode cX10_least 2 = .ok (.iconst 1, 1) := by decide +kernel
theorem dX10_least_3 : decode cX10_least 3 = .ok (.aload_n 0, 1) := by decide +kernel
theorem dX10_least_4 : decode cX10_least 4 = .ok (.getfield 120, 3) := by decide +kernel
theorem dX10_least_7 : decode cX10_least 7 = .ok (.ishl, 1) := by decide +kernel
theorem dX10_least_8 : decode cX10_least 8 = .ok (.iconst 1, 1) := by decide +kernel
theorem dX10_least_9 : decode cX10_least 9 = .ok (.isub, 1) := by decide +kernel
theorem dX10_least_10 : decode cX10_least 10 = .ok (.invokestatic 63, 3) := by decide +kernel
theorem dX10_least_13 : decode cX10_least 13 = .ok (.ifCond .eq 13, 3) := by decide +kernel
theorem dX10_least_16 : decode cX10_least 16 = .ok (.iload_n 2, 1) := by decide +kernel
theorem dX10_least_17 : decode cX10_least 17 = .ok (.iconst 1, 1) := by decide +kernel
theorem dX10_least_18 : decode cX10_least 18 = .ok (.bipush 20, 2) := by decide +kernel
theorem dX10_least_20 : decode cX10_least 20 = .ok (.invokestatic 63, 3) := by decide +kernel
theorem dX10_least_23 : decode cX10_least 23 = .ok (.ifCond .ne 5, 3) := by decide +kernel
theorem dX10_least_26 : decode cX10_least 26 = .ok (.iconst (-1), 1) := by decide +kernel
theorem dX10_least_27 : decode cX10_least 27 = .ok (.ireturn, 1) := by decide +kernel
theorem dX10_least_28 : decode cX10_least 28 = .ok (.aload_n 0, 1) := by decide +kernel
theorem dX10_least_29 : decode cX10_least 29 = .ok (.getfield 120, 3) := by decide +kernel
theorem dX10_least_32 : decode cX10_least 32 = .ok (.ifCond .ne 6, 3) := by decide +kernel
theorem dX10_least_35 : decode cX10_least 35 = .ok (.bipush (-4), 2) := by decide +kernel
theorem dX10_least_37 : decode cX10_least 37 = .ok (.ireturn, 1) := by decide +kernel
theorem dX10_least_38 : decode cX10_least 38 = .ok (.iconst 0, 1) := by decide +kernel
theorem dX10_least_39 : decode cX10_least 39 = .ok (.istore_n 3, 1) := by decide +kernel
theorem dX10_least_40 : decode cX10_least 40 = .ok (.iload_n 3, 1) := by decide +kernel
theorem dX10_least_41 : decode cX10_least 41 = .ok (.bipush 30, 2) := by decide +kernel
theorem dX10_least_43 : decode cX10_least 43 = .ok (.if_icmp .gt 21, 3) := by decide +kernel
theorem dX10_least_46 : decode cX10_least 46 = .ok (.aload_n 0, 1) := by decide +kernel
theorem dX10_least_47 : decode cX10_least 47 = .ok (.iload_n 1, 1) := by decide +kernel
theorem dX10_least_48 : decode cX10_least 48 = .ok (.iload_n 2, 1) := by decide +kernel
theorem dX10_least_49 : decode cX10_least 49 = .ok (.iload_n 3, 1) := by decide +kernel
theorem dX10_least_50 : decode cX10_least 50 = .ok (.invokevirtual 186, 3) := by decide +kernel
theorem dX10_least_53 : decode cX10_least 53 = .ok (.ifCond .ne 5, 3) := by decide +kernel
theorem dX10_least_56 : decode cX10_least 56 = .ok (.iload_n 3, 1) := by decide +kernel
theorem dX10_least_57 : decode cX10_least 57 = .ok (.ireturn, 1) := by decide +kernel
theorem dX10_least_58 : decode cX10_least 58 = .ok (.iinc 3 1, 3) := by decide +kernel
theorem dX10_least_61 : decode cX10_least 61 = .ok (.goto (-21), 3) := by decide +kernel
theorem dX10_least_64 : decode cX10_least 64 = .ok (.bipush (-9), 2) := by decide +kernel
theorem dX10_least_66 : decode cX10_least 66 = .ok (.ireturn, 1) := by decide +kernel
theorem dX10_wrongRow_0 : decode cX10_wrongRow 0 = .ok (.aload_n 0, 1) := by decide +kernel
theorem dX10_wrongRow_1 : decode cX10_wrongRow 1 = .ok (.getfield 22, 3) := by decide +kernel
theorem dX10_wrongRow_4 : decode cX10_wrongRow 4 = .ok (.iload_n 1, 1) := by decide +kernel
theorem dX10_wrongRow_5 : decode cX10_wrongRow 5 = .ok (.iaload, 1) := by decide +kernel
theorem dX10_wrongRow_6 : decode cX10_wrongRow 6 = .ok (.bipush (-9), 2) := by decide +kernel
theorem dX10_wrongRow_8 : decode cX10_wrongRow 8 = .ok (.if_icmp .ne 5, 3) := by decide +kernel
theorem dX10_wrongRow_11 : decode cX10_wrongRow 11 = .ok (.iconst 1, 1) := by decide +kernel
theorem dX10_wrongRow_12 : decode cX10_wrongRow 12 = .ok (.ireturn, 1) := by decide +kernel
theorem dX10_wrongRow_13 : decode cX10_wrongRow 13 = .ok (.aload_n 0, 1) := by decide +kernel
theorem dX10_wrongRow_14 : decode cX10_wrongRow 14 = .ok (.getfield 22, 3) := by decide +kernel
theorem dX10_wrongRow_17 : decode cX10_wrongRow 17 = .ok (.iload_n 1, 1) := by decide +kernel
theorem dX10_wrongRow_18 : decode cX10_wrongRow 18 = .ok (.iaload, 1) := by decide +kernel
theorem dX10_wrongRow_19 : decode cX10_wrongRow 19 = .ok (.iconst 1, 1) := by decide +kernel
theorem dX10_wrongRow_20 : decode cX10_wrongRow 20 = .ok (.bipush 10, 2) := by decide +kernel
theorem dX10_wrongRow_22 : decode cX10_wrongRow 22 = .ok (.invokestatic 63, 3) := by decide +kernel
theorem dX10_wrongRow_25 : decode cX10_wrongRow 25 = .ok (.ifCond .ne 5, 3) := by decide +kernel
theorem dX10_wrongRow_28 : decode cX10_wrongRow 28 = .ok (.iconst 5, 1) := by decide +kernel
theorem dX10_wrongRow_29 : decode cX10_wrongRow 29 = .ok (.ireturn, 1) := by decide +kernel
theorem dX10_wrongRow_30 : decode cX10_wrongRow 30 = .ok (.iconst 0, 1) := by decide +kernel
theorem dX10_wrongRow_31 : decode cX10_wrongRow 31 = .ok (.istore_n 2, 1) := by decide +kernel
theorem dX10_wrongRow_32 : decode cX10_wrongRow 32 = .ok (.iconst 0, 1) := by decide +kernel
theorem dX10_wrongRow_33 : decode cX10_wrongRow 33 = .ok (.istore_n 3, 1) := by decide +kernel
theorem dX10_wrongRow_34 : decode cX10_wrongRow 34 = .ok (.iload_n 3, 1) := by decide +kernel
theorem dX10_wrongRow_35 : decode cX10_wrongRow 35 = .ok (.aload_n 0, 1) := by decide +kernel
theorem dX10_wrongRow_36 : decode cX10_wrongRow 36 = .ok (.getfield 22, 3) := by decide +kernel
theorem dX10_wrongRow_39 : decode cX10_wrongRow 39 = .ok (.iload_n 1, 1) := by decide +kernel
theorem dX10_wrongRow_40 : decode cX10_wrongRow 40 = .ok (.iaload, 1) := by decide +kernel
theorem dX10_wrongRow_41 : decode cX10_wrongRow 41 = .ok (.if_icmp .ge 35, 3) := by decide +kernel
theorem dX10_wrongRow_44 : decode cX10_wrongRow 44 = .ok (.aload_n 0, 1) := by decide +kernel
theorem dX10_wrongRow_45 : decode cX10_wrongRow 45 = .ok (.getfield 19, 3) := by decide +kernel
theorem dX10_wrongRow_48 : decode cX10_wrongRow 48 = .ok (.bipush 40, 2) := by decide +kernel
theorem dX10_wrongRow_50 : decode cX10_wrongRow 50 = .ok (.iload_n 1, 1) := by decide +kernel
theorem dX10_wrongRow_51 : decode cX10_wrongRow 51 = .ok (.imul, 1) := by decide +kernel
theorem dX10_wrongRow_52 : decode cX10_wrongRow 52 = .ok (.iload_n 3, 1) := by decide +kernel
theorem dX10_wrongRow_53 : decode cX10_wrongRow 53 = .ok (.iadd, 1) := by decide +kernel
theorem dX10_wrongRow_54 : decode cX10_wrongRow 54 = .ok (.iaload, 1) := by decide +kernel
theorem dX10_wrongRow_55 : decode cX10_wrongRow 55 = .ok (.iconst 0, 1) := by decide +kernel
theorem dX10_wrongRow_56 : decode cX10_wrongRow 56 = .ok (.bipush 30, 2) := by decide +kernel
theorem dX10_wrongRow_58 : decode cX10_wrongRow 58 = .ok (.invokestatic 63, 3) := by decide +kernel
theorem dX10_wrongRow_61 : decode cX10_wrongRow 61 = .ok (.ifCond .eq 7, 3) := by decide +kernel
theorem dX10_wrongRow_64 : decode cX10_wrongRow 64 = .ok (.iload_n 2, 1) := by decide +kernel
theorem dX10_wrongRow_65 : decode cX10_wrongRow 65 = .ok (.goto 4, 3) := by decide +kernel
theorem dX10_wrongRow_68 : decode cX10_wrongRow 68 = .ok (.iconst 3, 1) := by decide +kernel
theorem dX10_wrongRow_69 : decode cX10_wrongRow 69 = .ok (.istore_n 2, 1) := by decide +kernel
theorem dX10_wrongRow_70 : decode cX10_wrongRow 70 = .ok (.iinc 3 1, 3) := by decide +kernel
theorem dX10_wrongRow_73 : decode cX10_wrongRow 73 = .ok (.goto (-39), 3) := by decide +kernel
theorem dX10_wrongRow_76 : decode cX10_wrongRow 76 = .ok (.iload_n 2, 1) := by decide +kernel
theorem dX10_wrongRow_77 : decode cX10_wrongRow 77 = .ok (.ireturn, 1) := by decide +kernel
theorem dX10_isSo_0 : decode cX10_isSo 0 = .ok (.iconst 0, 1) := by decide +kernel
theorem dX10_isSo_1 : decode cX10_isSo 1 = .ok (.istore 4, 2) := by decide +kernel
theorem dX10_isSo_3 : decode cX10_isSo 3 = .ok (.iload 4, 2) := by decide +kernel
theorem dX10_isSo_5 : decode cX10_isSo 5 = .ok (.aload_n 0, 1) := by decide +kernel
theorem dX10_isSo_6 : decode cX10_isSo 6 = .ok (.getfield 22, 3) := by decide +kernel
theorem dX10_isSo_9 : decode cX10_isSo 9 = .ok (.iload_n 2, 1) := by decide +kernel
theorem dX10_isSo_10 : decode cX10_isSo 10 = .ok (.iaload, 1) := by decide +kernel
theorem dX10_isSo_11 : decode cX10_isSo 11 = .ok (.if_icmp .ge 48, 3) := by decide +kernel
theorem dX10_isSo_14 : decode cX10_isSo 14 = .ok (.aload_n 0, 1) := by decide +kernel
theorem dX10_isSo_15 : decode cX10_isSo 15 = .ok (.sipush 2788, 3) := by decide +kernel
theorem dX10_isSo_18 : decode cX10_isSo 18 = .ok (.iconst 0, 1) := by decide +kernel
theorem dX10_isSo_19 : decode cX10_isSo 19 = .ok (.iload_n 1, 1) := by decide +kernel
theorem dX10_isSo_20 : decode cX10_isSo 20 = .ok (.iload_n 3, 1) := by decide +kernel
theorem dX10_isSo_21 : decode cX10_isSo 21 = .ok (.invokevirtual 141, 3) := by decide +kernel
theorem dX10_isSo_24 : decode cX10_isSo 24 = .ok (.istore 5, 2) := by decide +kernel
theorem dX10_isSo_26 : decode cX10_isSo 26 = .ok (.aload_n 0, 1) := by decide +kernel
theorem dX10_isSo_27 : decode cX10_isSo 27 = .ok (.getfield 7, 3) := by decide +kernel
theorem dX10_isSo_30 : decode cX10_isSo 30 = .ok (.sipush 2794, 3) := by decide +kernel
theorem dX10_isSo_33 : decode cX10_isSo 33 = .ok (.iload_n 1, 1) := by decide +kernel
theorem dX10_isSo_34 : decode cX10_isSo 34 = .ok (.iadd, 1) := by decide +kernel
theorem dX10_isSo_35 : decode cX10_isSo 35 = .ok (.iaload, 1) := by decide +kernel
theorem dX10_isSo_36 : decode cX10_isSo 36 = .ok (.aload_n 0, 1) := by decide +kernel
theorem dX10_isSo_37 : decode cX10_isSo 37 = .ok (.getfield 19, 3) := by decide +kernel
theorem dX10_isSo_40 : decode cX10_isSo 40 = .ok (.bipush 40, 2) := by decide +kernel
theorem dX10_isSo_42 : decode cX10_isSo 42 = .ok (.iload_n 2, 1) := by decide +kernel
theorem dX10_isSo_43 : decode cX10_isSo 43 = .ok (.imul, 1) := by decide +kernel
theorem dX10_isSo_44 : decode cX10_isSo 44 = .ok (.iload 4, 2) := by decide +kernel
theorem dX10_isSo_46 : decode cX10_isSo 46 = .ok (.iadd, 1) := by decide +kernel
theorem dX10_isSo_47 : decode cX10_isSo 47 = .ok (.iaload, 1) := by decide +kernel
theorem dX10_isSo_48 : decode cX10_isSo 48 = .ok (.if_icmp .eq 5, 3) := by decide +kernel
theorem dX10_isSo_51 : decode cX10_isSo 51 = .ok (.iconst 0, 1) := by decide +kernel
theorem dX10_isSo_52 : decode cX10_isSo 52 = .ok (.ireturn, 1) := by decide +kernel
theorem dX10_isSo_53 : decode cX10_isSo 53 = .ok (.iinc 4 1, 3) := by decide +kernel
theorem dX10_isSo_56 : decode cX10_isSo 56 = .ok (.goto (-53), 3) := by decide +kernel
theorem dX10_isSo_59 : decode cX10_isSo 59 = .ok (.iconst 1, 1) := by decide +kernel
theorem dX10_isSo_60 : decode cX10_isSo 60 = .ok (.ireturn, 1) := by decide +kernel
theorem dX10_laySize_0 : decode cX10_laySize 0 = .ok (.aload_n 0, 1) := by decide +kernel
theorem dX10_laySize_1 : decode cX10_laySize 1 = .ok (.aload_n 0, 1) := by decide +kernel
theorem dX10_laySize_2 : decode cX10_laySize 2 = .ok (.invokevirtual 145, 3) := by decide +kernel
theorem dX10_laySize_5 : decode cX10_laySize 5 = .ok (.sipush 2788, 3) := by decide +kernel
theorem dX10_laySize_8 : decode cX10_laySize 8 = .ok (.invokevirtual 167, 3) := by decide +kernel
theorem dX10_laySize_11 : decode cX10_laySize 11 = .ok (.aload_n 0, 1) := by decide +kernel
theorem dX10_laySize_12 : decode cX10_laySize 12 = .ok (.getfield 7, 3) := by decide +kernel
theorem dX10_laySize_15 : decode cX10_laySize 15 = .ok (.sipush 2800, 3) := by decide +kernel
theorem dX10_laySize_18 : decode cX10_laySize 18 = .ok (.iload_n 1, 1) := by decide +kernel
theorem dX10_laySize_19 : decode cX10_laySize 19 = .ok (.iastore, 1) := by decide +kernel
theorem dX10_laySize_20 : decode cX10_laySize 20 = .ok (.aload_n 0, 1) := by decide +kernel
theorem dX10_laySize_21 : decode cX10_laySize 21 = .ok (.getfield 7, 3) := by decide +kernel
theorem dX10_laySize_24 : decode cX10_laySize 24 = .ok (.sipush 2801, 3) := by decide +kernel
theorem dX10_laySize_27 : decode cX10_laySize 27 = .ok (.iload_n 1, 1) := by decide +kernel
theorem dX10_laySize_28 : decode cX10_laySize 28 = .ok (.ifCond .ne 10, 3) := by decide +kernel
theorem dX10_laySize_31 : decode cX10_laySize 31 = .ok (.aload_n 0, 1) := by decide +kernel
theorem dX10_laySize_32 : decode cX10_laySize 32 = .ok (.getfield 123, 3) := by decide +kernel
theorem dX10_laySize_35 : decode cX10_laySize 35 = .ok (.goto 11, 3) := by decide +kernel
theorem dX10_laySize_38 : decode cX10_laySize 38 = .ok (.aload_n 0, 1) := by decide +kernel
theorem dX10_laySize_39 : decode cX10_laySize 39 = .ok (.getfield 7, 3) := by decide +kernel
theorem dX10_laySize_42 : decode cX10_laySize 42 = .ok (.sipush 2801, 3) := by decide +kernel
theorem dX10_laySize_45 : decode cX10_laySize 45 = .ok (.iaload, 1) := by decide +kernel
theorem dX10_laySize_46 : decode cX10_laySize 46 = .ok (.iastore, 1) := by decide +kernel
theorem dX10_laySize_47 : decode cX10_laySize 47 = .ok (.return_, 1) := by decide +kernel
theorem dX10_sizesOf_0 : decode cX10_sizesOf 0 = .ok (.iconst 0, 1) := by decide +kernel
theorem dX10_sizesOf_1 : decode cX10_sizesOf 1 = .ok (.istore_n 3, 1) := by decide +kernel
theorem dX10_sizesOf_2 : decode cX10_sizesOf 2 = .ok (.iconst 0, 1) := by decide +kernel
theorem dX10_sizesOf_3 : decode cX10_sizesOf 3 = .ok (.istore 4, 2) := by decide +kernel
theorem dX10_sizesOf_5 : decode cX10_sizesOf 5 = .ok (.iload 4, 2) := by decide +kernel
theorem dX10_sizesOf_7 : decode cX10_sizesOf 7 = .ok (.bipush 30, 2) := by decide +kernel
theorem dX10_sizesOf_9 : decode cX10_sizesOf 9 = .ok (.if_icmp .gt 41, 3) := by decide +kernel
theorem dX10_sizesOf_12 : decode cX10_sizesOf 12 = .ok (.aload_n 0, 1) := by decide +kernel
theorem dX10_sizesOf_13 : decode cX10_sizesOf 13 = .ok (.iload 4, 2) := by decide +kernel
theorem dX10_sizesOf_15 : decode cX10_sizesOf 15 = .ok (.invokevirtual 190, 3) := by decide +kernel
theorem dX10_sizesOf_18 : decode cX10_sizesOf 18 = .ok (.iload_n 3, 1) := by decide +kernel
theorem dX10_sizesOf_19 : decode cX10_sizesOf 19 = .ok (.aload_n 0, 1) := by decide +kernel
theorem dX10_sizesOf_20 : decode cX10_sizesOf 20 = .ok (.iload_n 1, 1) := by decide +kernel
theorem dX10_sizesOf_21 : decode cX10_sizesOf 21 = .ok (.iload_n 2, 1) := by decide +kernel
theorem dX10_sizesOf_22 : decode cX10_sizesOf 22 = .ok (.aload_n 0, 1) := by decide +kernel
theorem dX10_sizesOf_23 : decode cX10_sizesOf 23 = .ok (.getfield 13, 3) := by decide +kernel
theorem dX10_sizesOf_26 : decode cX10_sizesOf 26 = .ok (.iload_n 1, 1) := by decide +kernel
theorem dX10_sizesOf_27 : decode cX10_sizesOf 27 = .ok (.iaload, 1) := by decide +kernel
theorem dX10_sizesOf_28 : decode cX10_sizesOf 28 = .ok (.invokevirtual 193, 3) := by decide +kernel
theorem dX10_sizesOf_31 : decode cX10_sizesOf 31 = .ok (.ifCond .eq 10, 3) := by decide +kernel
theorem dX10_sizesOf_34 : decode cX10_sizesOf 34 = .ok (.iconst 1, 1) := by decide +kernel
theorem dX10_sizesOf_35 : decode cX10_sizesOf 35 = .ok (.iload 4, 2) := by decide +kernel
theorem dX10_sizesOf_37 : decode cX10_sizesOf 37 = .ok (.ishl, 1) := by decide +kernel
theorem dX10_sizesOf_38 : decode cX10_sizesOf 38 = .ok (.goto 4, 3) := by decide +kernel
theorem dX10_sizesOf_41 : decode cX10_sizesOf 41 = .ok (.iconst 0, 1) := by decide +kernel
theorem dX10_sizesOf_42 : decode cX10_sizesOf 42 = .ok (.ior, 1) := by decide +kernel
theorem dX10_sizesOf_43 : decode cX10_sizesOf 43 = .ok (.istore_n 3, 1) := by decide +kernel
theorem dX10_sizesOf_44 : decode cX10_sizesOf 44 = .ok (.iinc 4 1, 3) := by decide +kernel
theorem dX10_sizesOf_47 : decode cX10_sizesOf 47 = .ok (.goto (-42), 3) := by decide +kernel
theorem dX10_sizesOf_50 : decode cX10_sizesOf 50 = .ok (.iload_n 3, 1) := by decide +kernel
theorem dX10_sizesOf_51 : decode cX10_sizesOf 51 = .ok (.ireturn, 1) := by decide +kernel
theorem dX10_sizes_0 : decode cX10_sizes 0 = .ok (.aload_n 0, 1) := by decide +kernel
theorem dX10_sizes_1 : decode cX10_sizes 1 = .ok (.iload_n 1, 1) := by decide +kernel
theorem dX10_sizes_2 : decode cX10_sizes 2 = .ok (.invokevirtual 152, 3) := by decide +kernel
theorem dX10_sizes_5 : decode cX10_sizes 5 = .ok (.ifCond .eq 10, 3) := by decide +kernel
theorem dX10_sizes_8 : decode cX10_sizes 8 = .ok (.iload_n 2, 1) := by decide +kernel
theorem dX10_sizes_9 : decode cX10_sizes 9 = .ok (.invokestatic 67, 3) := by decide +kernel
theorem dX10_sizes_12 : decode cX10_sizes 12 = .ok (.ifCond .ne 5, 3) := by decide +kernel
theorem dX10_sizes_15 : decode cX10_sizes 15 = .ok (.iconst (-1), 1) := by decide +kernel
theorem dX10_sizes_16 : decode cX10_sizes 16 = .ok (.ireturn, 1) := by decide +kernel
theorem dX10_sizes_17 : decode cX10_sizes 17 = .ok (.aload_n 0, 1) := by decide +kernel
theorem dX10_sizes_18 : decode cX10_sizes 18 = .ok (.iload_n 2, 1) := by decide +kernel
theorem dX10_sizes_19 : decode cX10_sizes 19 = .ok (.invokevirtual 196, 3) := by decide +kernel
theorem dX10_sizes_22 : decode cX10_sizes 22 = .ok (.ifCond .le 15, 3) := by decide +kernel
theorem dX10_sizes_25 : decode cX10_sizes 25 = .ok (.aload_n 0, 1) := by decide +kernel
theorem dX10_sizes_26 : decode cX10_sizes 26 = .ok (.aload_n 0, 1) := by decide +kernel
theorem dX10_sizes_27 : decode cX10_sizes 27 = .ok (.iload_n 2, 1) := by decide +kernel
theorem dX10_sizes_28 : decode cX10_sizes 28 = .ok (.invokevirtual 196, 3) := by decide +kernel
theorem dX10_sizes_31 : decode cX10_sizes 31 = .ok (.invokevirtual 71, 3) := by decide +kernel
theorem dX10_sizes_34 : decode cX10_sizes 34 = .ok (.goto 9, 3) := by decide +kernel
theorem dX10_sizes_37 : decode cX10_sizes 37 = .ok (.aload_n 0, 1) := by decide +kernel
theorem dX10_sizes_38 : decode cX10_sizes 38 = .ok (.iload_n 1, 1) := by decide +kernel
theorem dX10_sizes_39 : decode cX10_sizes 39 = .ok (.iload_n 2, 1) := by decide +kernel
theorem dX10_sizes_40 : decode cX10_sizes 40 = .ok (.invokevirtual 199, 3) := by decide +kernel
theorem dX10_sizes_43 : decode cX10_sizes 43 = .ok (.ireturn, 1) := by decide +kernel
theorem dX10_winds_0 : decode cX10_winds 0 = .ok (.aload_n 0, 1) := by decide +kernel
theorem dX10_winds_1 : decode cX10_winds 1 = .ok (.iload_n 1, 1) := by decide +kernel
theorem dX10_winds_2 : decode cX10_winds 2 = .ok (.invokevirtual 152, 3) := by decide +kernel
theorem dX10_winds_5 : decode cX10_winds 5 = .ok (.ifCond .eq 10, 3) := by decide +kernel
theorem dX10_winds_8 : decode cX10_winds 8 = .ok (.iload_n 2, 1) := by decide +kernel
theorem dX10_winds_9 : decode cX10_winds 9 = .ok (.invokestatic 67, 3) := by decide +kernel
theorem dX10_winds_12 : decode cX10_winds 12 = .ok (.ifCond .ne 5, 3) := by decide +kernel
theorem dX10_winds_15 : decode cX10_winds 15 = .ok (.iconst (-1), 1) := by decide +kernel
theorem dX10_winds_16 : decode cX10_winds 16 = .ok (.ireturn, 1) := by decide +kernel
theorem dX10_winds_17 : decode cX10_winds 17 = .ok (.aload_n 0, 1) := by decide +kernel
theorem dX10_winds_18 : decode cX10_winds 18 = .ok (.iload_n 2, 1) := by decide +kernel
theorem dX10_winds_19 : decode cX10_winds 19 = .ok (.invokevirtual 196, 3) := by decide +kernel
theorem dX10_winds_22 : decode cX10_winds 22 = .ok (.ifCond .le 13, 3) := by decide +kernel
theorem dX10_winds_25 : decode cX10_winds 25 = .ok (.aload_n 0, 1) := by decide +kernel
theorem dX10_winds_26 : decode cX10_winds 26 = .ok (.aload_n 0, 1) := by decide +kernel
theorem dX10_winds_27 : decode cX10_winds 27 = .ok (.iload_n 2, 1) := by decide +kernel
theorem dX10_winds_28 : decode cX10_winds 28 = .ok (.invokevirtual 196, 3) := by decide +kernel
theorem dX10_winds_31 : decode cX10_winds 31 = .ok (.invokevirtual 71, 3) := by decide +kernel
theorem dX10_winds_34 : decode cX10_winds 34 = .ok (.ireturn, 1) := by decide +kernel
theorem dX10_winds_35 : decode cX10_winds 35 = .ok (.iconst 0, 1) := by decide +kernel
theorem dX10_winds_36 : decode cX10_winds 36 = .ok (.istore_n 3, 1) := by decide +kernel
theorem dX10_winds_37 : decode cX10_winds 37 = .ok (.iconst 0, 1) := by decide +kernel
theorem dX10_winds_38 : decode cX10_winds 38 = .ok (.istore 4, 2) := by decide +kernel
theorem dX10_winds_40 : decode cX10_winds 40 = .ok (.iload 4, 2) := by decide +kernel
theorem dX10_winds_42 : decode cX10_winds 42 = .ok (.iconst 3, 1) := by decide +kernel
theorem dX10_winds_43 : decode cX10_winds 43 = .ok (.if_icmp .ge 56, 3) := by decide +kernel
theorem dX10_winds_46 : decode cX10_winds 46 = .ok (.aload_n 0, 1) := by decide +kernel
theorem dX10_winds_47 : decode cX10_winds 47 = .ok (.aload_n 0, 1) := by decide +kernel
theorem dX10_winds_48 : decode cX10_winds 48 = .ok (.invokevirtual 145, 3) := by decide +kernel
theorem dX10_winds_51 : decode cX10_winds 51 = .ok (.sipush 2788, 3) := by decide +kernel
theorem dX10_winds_54 : decode cX10_winds 54 = .ok (.invokevirtual 167, 3) := by decide +kernel
theorem dX10_winds_57 : decode cX10_winds 57 = .ok (.aload_n 0, 1) := by decide +kernel
theorem dX10_winds_58 : decode cX10_winds 58 = .ok (.getfield 7, 3) := by decide +kernel
theorem dX10_winds_61 : decode cX10_winds 61 = .ok (.sipush 2802, 3) := by decide +kernel
theorem dX10_winds_64 : decode cX10_winds 64 = .ok (.iload 4, 2) := by decide +kernel
theorem dX10_winds_66 : decode cX10_winds 66 = .ok (.iastore, 1) := by decide +kernel
theorem dX10_winds_67 : decode cX10_winds 67 = .ok (.iload_n 3, 1) := by decide +kernel
theorem dX10_winds_68 : decode cX10_winds 68 = .ok (.aload_n 0, 1) := by decide +kernel
theorem dX10_winds_69 : decode cX10_winds 69 = .ok (.iload_n 1, 1) := by decide +kernel
theorem dX10_winds_70 : decode cX10_winds 70 = .ok (.iload_n 2, 1) := by decide +kernel
theorem dX10_winds_71 : decode cX10_winds 71 = .ok (.aload_n 0, 1) := by decide +kernel
theorem dX10_winds_72 : decode cX10_winds 72 = .ok (.getfield 13, 3) := by decide +kernel
theorem dX10_winds_75 : decode cX10_winds 75 = .ok (.iload_n 1, 1) := by decide +kernel
theorem dX10_winds_76 : decode cX10_winds 76 = .ok (.iaload, 1) := by decide +kernel
theorem dX10_winds_77 : decode cX10_winds 77 = .ok (.invokevirtual 193, 3) := by decide +kernel
theorem dX10_winds_80 : decode cX10_winds 80 = .ok (.ifCond .eq 10, 3) := by decide +kernel
theorem dX10_winds_83 : decode cX10_winds 83 = .ok (.iconst 1, 1) := by decide +kernel
theorem dX10_winds_84 : decode cX10_winds 84 = .ok (.iload 4, 2) := by decide +kernel
theorem dX10_winds_86 : decode cX10_winds 86 = .ok (.ishl, 1) := by decide +kernel
theorem dX10_winds_87 : decode cX10_winds 87 = .ok (.goto 4, 3) := by decide +kernel
theorem dX10_winds_90 : decode cX10_winds 90 = .ok (.iconst 0, 1) := by decide +kernel
theorem dX10_winds_91 : decode cX10_winds 91 = .ok (.ior, 1) := by decide +kernel
theorem dX10_winds_92 : decode cX10_winds 92 = .ok (.istore_n 3, 1) := by decide +kernel
theorem dX10_winds_93 : decode cX10_winds 93 = .ok (.iinc 4 1, 3) := by decide +kernel
theorem dX10_winds_96 : decode cX10_winds 96 = .ok (.goto (-56), 3) := by decide +kernel
theorem dX10_winds_99 : decode cX10_winds 99 = .ok (.iload_n 3, 1) := by decide +kernel
theorem dX10_winds_100 : decode cX10_winds 100 = .ok (.ireturn, 1) := by decide +kernel
theorem dX10_kinds_0 : decode cX10_kinds 0 = .ok (.aload_n 0, 1) := by decide +kernel
theorem dX10_kinds_1 : decode cX10_kinds 1 = .ok (.iload_n 1, 1) := by decide +kernel
theorem dX10_kinds_2 : decode cX10_kinds 2 = .ok (.invokevirtual 152, 3) := by decide +kernel
theorem dX10_kinds_5 : decode cX10_kinds 5 = .ok (.ifCond .eq 10, 3) := by decide +kernel
theorem dX10_kinds_8 : decode cX10_kinds 8 = .ok (.iload_n 2, 1) := by decide +kernel
theorem dX10_kinds_9 : decode cX10_kinds 9 = .ok (.invokestatic 67, 3) := by decide +kernel
theorem dX10_kinds_12 : decode cX10_kinds 12 = .ok (.ifCond .ne 5, 3) := by decide +kernel
theorem dX10_kinds_15 : decode cX10_kinds 15 = .ok (.iconst (-1), 1) := by decide +kernel
theorem dX10_kinds_16 : decode cX10_kinds 16 = .ok (.ireturn, 1) := by decide +kernel
theorem dX10_kinds_17 : decode cX10_kinds 17 = .ok (.aload_n 0, 1) := by decide +kernel
theorem dX10_kinds_18 : decode cX10_kinds 18 = .ok (.iload_n 2, 1) := by decide +kernel
theorem dX10_kinds_19 : decode cX10_kinds 19 = .ok (.invokevirtual 196, 3) := by decide +kernel
theorem dX10_kinds_22 : decode cX10_kinds 22 = .ok (.ifCond .le 13, 3) := by decide +kernel
theorem dX10_kinds_25 : decode cX10_kinds 25 = .ok (.aload_n 0, 1) := by decide +kernel
theorem dX10_kinds_26 : decode cX10_kinds 26 = .ok (.aload_n 0, 1) := by decide +kernel
theorem dX10_kinds_27 : decode cX10_kinds 27 = .ok (.iload_n 2, 1) := by decide +kernel
theorem dX10_kinds_28 : decode cX10_kinds 28 = .ok (.invokevirtual 196, 3) := by decide +kernel
theorem dX10_kinds_31 : decode cX10_kinds 31 = .ok (.invokevirtual 71, 3) := by decide +kernel
theorem dX10_kinds_34 : decode cX10_kinds 34 = .ok (.ireturn, 1) := by decide +kernel
theorem dX10_kinds_35 : decode cX10_kinds 35 = .ok (.iconst 0, 1) := by decide +kernel
theorem dX10_kinds_36 : decode cX10_kinds 36 = .ok (.istore_n 3, 1) := by decide +kernel
theorem dX10_kinds_37 : decode cX10_kinds 37 = .ok (.iconst 0, 1) := by decide +kernel
theorem dX10_kinds_38 : decode cX10_kinds 38 = .ok (.istore 4, 2) := by decide +kernel
theorem dX10_kinds_40 : decode cX10_kinds 40 = .ok (.iload 4, 2) := by decide +kernel
theorem dX10_kinds_42 : decode cX10_kinds 42 = .ok (.bipush 6, 2) := by decide +kernel
theorem dX10_kinds_44 : decode cX10_kinds 44 = .ok (.if_icmp .ge 42, 3) := by decide +kernel
theorem dX10_kinds_47 : decode cX10_kinds 47 = .ok (.aload_n 0, 1) := by decide +kernel
theorem dX10_kinds_48 : decode cX10_kinds 48 = .ok (.aload_n 0, 1) := by decide +kernel
theorem dX10_kinds_49 : decode cX10_kinds 49 = .ok (.invokevirtual 145, 3) := by decide +kernel
theorem dX10_kinds_52 : decode cX10_kinds 52 = .ok (.sipush 2788, 3) := by decide +kernel
theorem dX10_kinds_55 : decode cX10_kinds 55 = .ok (.invokevirtual 167, 3) := by decide +kernel
theorem dX10_kinds_58 : decode cX10_kinds 58 = .ok (.iload_n 3, 1) := by decide +kernel
theorem dX10_kinds_59 : decode cX10_kinds 59 = .ok (.aload_n 0, 1) := by decide +kernel
theorem dX10_kinds_60 : decode cX10_kinds 60 = .ok (.iload_n 1, 1) := by decide +kernel
theorem dX10_kinds_61 : decode cX10_kinds 61 = .ok (.iload_n 2, 1) := by decide +kernel
theorem dX10_kinds_62 : decode cX10_kinds 62 = .ok (.iload 4, 2) := by decide +kernel
theorem dX10_kinds_64 : decode cX10_kinds 64 = .ok (.invokevirtual 193, 3) := by decide +kernel
theorem dX10_kinds_67 : decode cX10_kinds 67 = .ok (.ifCond .eq 10, 3) := by decide +kernel
theorem dX10_kinds_70 : decode cX10_kinds 70 = .ok (.iconst 1, 1) := by decide +kernel
theorem dX10_kinds_71 : decode cX10_kinds 71 = .ok (.iload 4, 2) := by decide +kernel
theorem dX10_kinds_73 : decode cX10_kinds 73 = .ok (.ishl, 1) := by decide +kernel
theorem dX10_kinds_74 : decode cX10_kinds 74 = .ok (.goto 4, 3) := by decide +kernel
theorem dX10_kinds_77 : decode cX10_kinds 77 = .ok (.iconst 0, 1) := by decide +kernel
theorem dX10_kinds_78 : decode cX10_kinds 78 = .ok (.ior, 1) := by decide +kernel
theorem dX10_kinds_79 : decode cX10_kinds 79 = .ok (.istore_n 3, 1) := by decide +kernel
theorem dX10_kinds_80 : decode cX10_kinds 80 = .ok (.iinc 4 1, 3) := by decide +kernel
theorem dX10_kinds_83 : decode cX10_kinds 83 = .ok (.goto (-43), 3) := by decide +kernel
theorem dX10_kinds_86 : decode cX10_kinds 86 = .ok (.iload_n 3, 1) := by decide +kernel
theorem dX10_kinds_87 : decode cX10_kinds 87 = .ok (.ireturn, 1) := by decide +kernel
theorem dX10_greatestPart_0 : decode cX10_greatestPart 0 = .ok (.iconst 0, 1) := by decide +kernel
theorem dX10_greatestPart_1 : decode cX10_greatestPart 1 = .ok (.istore 4, 2) := by decide +kernel
theorem dX10_greatestPart_3 : decode cX10_greatestPart 3 = .ok (.iconst 0, 1) := by decide +kernel
theorem dX10_greatestPart_4 : decode cX10_greatestPart 4 = .ok (.istore 5, 2) := by decide +kernel
theorem dX10_greatestPart_6 : decode cX10_greatestPart 6 = .ok (.iload 5, 2) := by decide +kernel
theorem dX10_greatestPart_8 : decode cX10_greatestPart 8 = .ok (.bipush 30, 2) := by decide +kernel
theorem dX10_greatestPart_10 : decode cX10_greatestPart 10 = .ok (.if_icmp .gt 17, 3) := by decide +kernel
theorem dX10_greatestPart_13 : decode cX10_greatestPart 13 = .ok (.aload_n 0, 1) := by decide +kernel
theorem dX10_greatestPart_14 : decode cX10_greatestPart 14 = .ok (.getfield 47, 3) := by decide +kernel
theorem dX10_greatestPart_17 : decode cX10_greatestPart 17 = .ok (.iload 5, 2) := by decide +kernel
theorem dX10_greatestPart_19 : decode cX10_greatestPart 19 = .ok (.iconst 0, 1) := by decide +kernel
theorem dX10_greatestPart_20 : decode cX10_greatestPart 20 = .ok (.iastore, 1) := by decide +kernel
theorem dX10_greatestPart_21 : decode cX10_greatestPart 21 = .ok (.iinc 5 1, 3) := by decide +kernel
theorem dX10_greatestPart_24 : decode cX10_greatestPart 24 = .ok (.goto (-18), 3) := by decide +kernel
theorem dX10_greatestPart_27 : decode cX10_greatestPart 27 = .ok (.iconst 0, 1) := by decide +kernel
theorem dX10_greatestPart_28 : decode cX10_greatestPart 28 = .ok (.istore 5, 2) := by decide +kernel
theorem dX10_greatestPart_30 : decode cX10_greatestPart 30 = .ok (.iload 5, 2) := by decide +kernel
theorem dX10_greatestPart_32 : decode cX10_greatestPart 32 = .ok (.bipush 30, 2) := by decide +kernel
theorem dX10_greatestPart_34 : decode cX10_greatestPart 34 = .ok (.if_icmp .gt 97, 3) := by decide +kernel
theorem dX10_greatestPart_37 : decode cX10_greatestPart 37 = .ok (.iload_n 1, 1) := by decide +kernel
theorem dX10_greatestPart_38 : decode cX10_greatestPart 38 = .ok (.iload 5, 2) := by decide +kernel
theorem dX10_greatestPart_40 : decode cX10_greatestPart 40 = .ok (.invokestatic 135, 3) := by decide +kernel
theorem dX10_greatestPart_43 : decode cX10_greatestPart 43 = .ok (.ifCond .eq 82, 3) := by decide +kernel
theorem dX10_greatestPart_46 : decode cX10_greatestPart 46 = .ok (.aload_n 0, 1) := by decide +kernel
theorem dX10_greatestPart_47 : decode cX10_greatestPart 47 = .ok (.iload 5, 2) := by decide +kernel
theorem dX10_greatestPart_49 : decode cX10_greatestPart 49 = .ok (.invokevirtual 190, 3) := by decide +kernel
theorem dX10_greatestPart_52 : decode cX10_greatestPart 52 = .ok (.iconst 0, 1) := by decide +kernel
theorem dX10_greatestPart_53 : decode cX10_greatestPart 53 = .ok (.istore 6, 2) := by decide +kernel
theorem dX10_greatestPart_55 : decode cX10_greatestPart 55 = .ok (.iload 6, 2) := by decide +kernel
theorem dX10_greatestPart_57 : decode cX10_greatestPart 57 = .ok (.iload_n 3, 1) := by decide +kernel
theorem dX10_greatestPart_58 : decode cX10_greatestPart 58 = .ok (.if_icmp .ge 18, 3) := by decide +kernel
theorem dX10_greatestPart_61 : decode cX10_greatestPart 61 = .ok (.aload_n 0, 1) := by decide +kernel
theorem dX10_greatestPart_62 : decode cX10_greatestPart 62 = .ok (.sipush 2788, 3) := by decide +kernel
theorem dX10_greatestPart_65 : decode cX10_greatestPart 65 = .ok (.invokevirtual 174, 3) := by decide +kernel
theorem dX10_greatestPart_68 : decode cX10_greatestPart 68 = .ok (.istore 7, 2) := by decide +kernel
theorem dX10_greatestPart_70 : decode cX10_greatestPart 70 = .ok (.iinc 6 1, 3) := by decide +kernel
theorem dX10_greatestPart_73 : decode cX10_greatestPart 73 = .ok (.goto (-18), 3) := by decide +kernel
theorem dX10_greatestPart_76 : decode cX10_greatestPart 76 = .ok (.aload_n 0, 1) := by decide +kernel
theorem dX10_greatestPart_77 : decode cX10_greatestPart 77 = .ok (.getfield 7, 3) := by decide +kernel
theorem dX10_greatestPart_80 : decode cX10_greatestPart 80 = .ok (.sipush 2794, 3) := by decide +kernel
theorem dX10_greatestPart_83 : decode cX10_greatestPart 83 = .ok (.iload_n 2, 1) := by decide +kernel
theorem dX10_greatestPart_84 : decode cX10_greatestPart 84 = .ok (.iadd, 1) := by decide +kernel
theorem dX10_greatestPart_85 : decode cX10_greatestPart 85 = .ok (.iaload, 1) := by decide +kernel
theorem dX10_greatestPart_86 : decode cX10_greatestPart 86 = .ok (.istore 6, 2) := by decide +kernel
theorem dX10_greatestPart_88 : decode cX10_greatestPart 88 = .ok (.aload_n 0, 1) := by decide +kernel
theorem dX10_greatestPart_89 : decode cX10_greatestPart 89 = .ok (.getfield 47, 3) := by decide +kernel
theorem dX10_greatestPart_92 : decode cX10_greatestPart 92 = .ok (.iload 6, 2) := by decide +kernel
theorem dX10_greatestPart_94 : decode cX10_greatestPart 94 = .ok (.dup2, 1) := by decide +kernel
theorem dX10_greatestPart_95 : decode cX10_greatestPart 95 = .ok (.iaload, 1) := by decide +kernel
theorem dX10_greatestPart_96 : decode cX10_greatestPart 96 = .ok (.iconst 1, 1) := by decide +kernel
theorem dX10_greatestPart_97 : decode cX10_greatestPart 97 = .ok (.iadd, 1) := by decide +kernel
theorem dX10_greatestPart_98 : decode cX10_greatestPart 98 = .ok (.iastore, 1) := by decide +kernel
theorem dX10_greatestPart_99 : decode cX10_greatestPart 99 = .ok (.aload_n 0, 1) := by decide +kernel
theorem dX10_greatestPart_100 : decode cX10_greatestPart 100 = .ok (.getfield 47, 3) := by decide +kernel
theorem dX10_greatestPart_103 : decode cX10_greatestPart 103 = .ok (.iload 6, 2) := by decide +kernel
theorem dX10_greatestPart_105 : decode cX10_greatestPart 105 = .ok (.iaload, 1) := by decide +kernel
theorem dX10_greatestPart_106 : decode cX10_greatestPart 106 = .ok (.iload 4, 2) := by decide +kernel
theorem dX10_greatestPart_108 : decode cX10_greatestPart 108 = .ok (.if_icmp .le 13, 3) := by decide +kernel
theorem dX10_greatestPart_111 : decode cX10_greatestPart 111 = .ok (.aload_n 0, 1) := by decide +kernel
theorem dX10_greatestPart_112 : decode cX10_greatestPart 112 = .ok (.getfield 47, 3) := by decide +kernel
theorem dX10_greatestPart_115 : decode cX10_greatestPart 115 = .ok (.iload 6, 2) := by decide +kernel
theorem dX10_greatestPart_117 : decode cX10_greatestPart 117 = .ok (.iaload, 1) := by decide +kernel
theorem dX10_greatestPart_118 : decode cX10_greatestPart 118 = .ok (.goto 5, 3) := by decide +kernel
theorem dX10_greatestPart_121 : decode cX10_greatestPart 121 = .ok (.iload 4, 2) := by decide +kernel
theorem dX10_greatestPart_123 : decode cX10_greatestPart 123 = .ok (.istore 4, 2) := by decide +kernel
theorem dX10_greatestPart_125 : decode cX10_greatestPart 125 = .ok (.iinc 5 1, 3) := by decide +kernel
theorem dX10_greatestPart_128 : decode cX10_greatestPart 128 = .ok (.goto (-98), 3) := by decide +kernel
theorem dX10_greatestPart_131 : decode cX10_greatestPart 131 = .ok (.iload 4, 2) := by decide +kernel
theorem dX10_greatestPart_133 : decode cX10_greatestPart 133 = .ok (.ireturn, 1) := by decide +kernel
theorem dX10_next_0 : decode cX10_next 0 = .ok (.aload_n 0, 1) := by decide +kernel
theorem dX10_next_1 : decode cX10_next 1 = .ok (.iload_n 1, 1) := by decide +kernel
theorem dX10_next_2 : decode cX10_next 2 = .ok (.invokevirtual 152, 3) := by decide +kernel
theorem dX10_next_5 : decode cX10_next 5 = .ok (.ifCond .eq 10, 3) := by decide +kernel
theorem dX10_next_8 : decode cX10_next 8 = .ok (.iload_n 2, 1) := by decide +kernel
theorem dX10_next_9 : decode cX10_next 9 = .ok (.invokestatic 67, 3) := by decide +kernel
theorem dX10_next_12 : decode cX10_next 12 = .ok (.ifCond .ne 5, 3) := by decide +kernel
theorem dX10_next_15 : decode cX10_next 15 = .ok (.iconst (-1), 1) := by decide +kernel
theorem dX10_next_16 : decode cX10_next 16 = .ok (.ireturn, 1) := by decide +kernel
theorem dX10_next_17 : decode cX10_next 17 = .ok (.aload_n 0, 1) := by decide +kernel
theorem dX10_next_18 : decode cX10_next 18 = .ok (.iload_n 2, 1) := by decide +kernel
theorem dX10_next_19 : decode cX10_next 19 = .ok (.invokevirtual 196, 3) := by decide +kernel
theorem dX10_next_22 : decode cX10_next 22 = .ok (.ifCond .le 13, 3) := by decide +kernel
theorem dX10_next_25 : decode cX10_next 25 = .ok (.aload_n 0, 1) := by decide +kernel
theorem dX10_next_26 : decode cX10_next 26 = .ok (.aload_n 0, 1) := by decide +kernel
theorem dX10_next_27 : decode cX10_next 27 = .ok (.iload_n 2, 1) := by decide +kernel
theorem dX10_next_28 : decode cX10_next 28 = .ok (.invokevirtual 196, 3) := by decide +kernel
theorem dX10_next_31 : decode cX10_next 31 = .ok (.invokevirtual 71, 3) := by decide +kernel
theorem dX10_next_34 : decode cX10_next 34 = .ok (.ireturn, 1) := by decide +kernel
theorem dX10_next_35 : decode cX10_next 35 = .ok (.aload_n 0, 1) := by decide +kernel
theorem dX10_next_36 : decode cX10_next 36 = .ok (.iload_n 1, 1) := by decide +kernel
theorem dX10_next_37 : decode cX10_next 37 = .ok (.iload_n 2, 1) := by decide +kernel
theorem dX10_next_38 : decode cX10_next 38 = .ok (.invokevirtual 199, 3) := by decide +kernel
theorem dX10_next_41 : decode cX10_next 41 = .ok (.istore_n 3, 1) := by decide +kernel
theorem dX10_next_42 : decode cX10_next 42 = .ok (.iload_n 3, 1) := by decide +kernel
theorem dX10_next_43 : decode cX10_next 43 = .ok (.ifCond .ne 6, 3) := by decide +kernel
theorem dX10_next_46 : decode cX10_next 46 = .ok (.bipush (-9), 2) := by decide +kernel
theorem dX10_next_48 : decode cX10_next 48 = .ok (.ireturn, 1) := by decide +kernel
theorem dX10_next_49 : decode cX10_next 49 = .ok (.bipush (-9), 2) := by decide +kernel
theorem dX10_next_51 : decode cX10_next 51 = .ok (.istore 4, 2) := by decide +kernel
theorem dX10_next_53 : decode cX10_next 53 = .ok (.bipush 99, 2) := by decide +kernel
theorem dX10_next_55 : decode cX10_next 55 = .ok (.istore 5, 2) := by decide +kernel
theorem dX10_next_57 : decode cX10_next 57 = .ok (.iconst 0, 1) := by decide +kernel
theorem dX10_next_58 : decode cX10_next 58 = .ok (.istore 6, 2) := by decide +kernel
theorem dX10_next_60 : decode cX10_next 60 = .ok (.iload 6, 2) := by decide +kernel
theorem dX10_next_62 : decode cX10_next 62 = .ok (.aload_n 0, 1) := by decide +kernel
theorem dX10_next_63 : decode cX10_next 63 = .ok (.getfield 120, 3) := by decide +kernel
theorem dX10_next_66 : decode cX10_next 66 = .ok (.if_icmp .ge 56, 3) := by decide +kernel
theorem dX10_next_69 : decode cX10_next 69 = .ok (.aload_n 0, 1) := by decide +kernel
theorem dX10_next_70 : decode cX10_next 70 = .ok (.iload_n 3, 1) := by decide +kernel
theorem dX10_next_71 : decode cX10_next 71 = .ok (.iload 6, 2) := by decide +kernel
theorem dX10_next_73 : decode cX10_next 73 = .ok (.aload_n 0, 1) := by decide +kernel
theorem dX10_next_74 : decode cX10_next 74 = .ok (.getfield 22, 3) := by decide +kernel
theorem dX10_next_77 : decode cX10_next 77 = .ok (.iload_n 2, 1) := by decide +kernel
theorem dX10_next_78 : decode cX10_next 78 = .ok (.iaload, 1) := by decide +kernel
theorem dX10_next_79 : decode cX10_next 79 = .ok (.invokevirtual 202, 3) := by decide +kernel
theorem dX10_next_82 : decode cX10_next 82 = .ok (.istore 7, 2) := by decide +kernel
theorem dX10_next_84 : decode cX10_next 84 = .ok (.iload 7, 2) := by decide +kernel
theorem dX10_next_86 : decode cX10_next 86 = .ok (.iload 5, 2) := by decide +kernel
theorem dX10_next_88 : decode cX10_next 88 = .ok (.if_icmp .ge 8, 3) := by decide +kernel
theorem dX10_next_91 : decode cX10_next 91 = .ok (.iload 6, 2) := by decide +kernel
theorem dX10_next_93 : decode cX10_next 93 = .ok (.goto 5, 3) := by decide +kernel
theorem dX10_next_96 : decode cX10_next 96 = .ok (.iload 4, 2) := by decide +kernel
theorem dX10_next_98 : decode cX10_next 98 = .ok (.istore 4, 2) := by decide +kernel
theorem dX10_next_100 : decode cX10_next 100 = .ok (.iload 7, 2) := by decide +kernel
theorem dX10_next_102 : decode cX10_next 102 = .ok (.iload 5, 2) := by decide +kernel
theorem dX10_next_104 : decode cX10_next 104 = .ok (.if_icmp .ge 8, 3) := by decide +kernel
theorem dX10_next_107 : decode cX10_next 107 = .ok (.iload 7, 2) := by decide +kernel
theorem dX10_next_109 : decode cX10_next 109 = .ok (.goto 5, 3) := by decide +kernel
theorem dX10_next_112 : decode cX10_next 112 = .ok (.iload 5, 2) := by decide +kernel
theorem dX10_next_114 : decode cX10_next 114 = .ok (.istore 5, 2) := by decide +kernel
theorem dX10_next_116 : decode cX10_next 116 = .ok (.iinc 6 1, 3) := by decide +kernel
theorem dX10_next_119 : decode cX10_next 119 = .ok (.goto (-59), 3) := by decide +kernel
theorem dX10_next_122 : decode cX10_next 122 = .ok (.aload_n 0, 1) := by decide +kernel
theorem dX10_next_123 : decode cX10_next 123 = .ok (.iload 5, 2) := by decide +kernel
theorem dX10_next_125 : decode cX10_next 125 = .ok (.putfield 60, 3) := by decide +kernel
theorem dX10_next_128 : decode cX10_next 128 = .ok (.iload 4, 2) := by decide +kernel
theorem dX10_next_130 : decode cX10_next 130 = .ok (.ireturn, 1) := by decide +kernel
theorem dX10_haveOf_0 : decode cX10_haveOf 0 = .ok (.iconst 0, 1) := by decide +kernel
theorem dX10_haveOf_1 : decode cX10_haveOf 1 = .ok (.istore_n 2, 1) := by decide +kernel
theorem dX10_haveOf_2 : decode cX10_haveOf 2 = .ok (.iconst 0, 1) := by decide +kernel
theorem dX10_haveOf_3 : decode cX10_haveOf 3 = .ok (.istore_n 3, 1) := by decide +kernel
theorem dX10_haveOf_4 : decode cX10_haveOf 4 = .ok (.iload_n 3, 1) := by decide +kernel
theorem dX10_haveOf_5 : decode cX10_haveOf 5 = .ok (.aload_n 0, 1) := by decide +kernel
theorem dX10_haveOf_6 : decode cX10_haveOf 6 = .ok (.getfield 120, 3) := by decide +kernel
theorem dX10_haveOf_9 : decode cX10_haveOf 9 = .ok (.if_icmp .ge 38, 3) := by decide +kernel
theorem dX10_haveOf_12 : decode cX10_haveOf 12 = .ok (.iload_n 2, 1) := by decide +kernel
theorem dX10_haveOf_13 : decode cX10_haveOf 13 = .ok (.iload_n 1, 1) := by decide +kernel
theorem dX10_haveOf_14 : decode cX10_haveOf 14 = .ok (.iload_n 3, 1) := by decide +kernel
theorem dX10_haveOf_15 : decode cX10_haveOf 15 = .ok (.invokestatic 135, 3) := by decide +kernel
theorem dX10_haveOf_18 : decode cX10_haveOf 18 = .ok (.ifCond .eq 20, 3) := by decide +kernel
theorem dX10_haveOf_21 : decode cX10_haveOf 21 = .ok (.aload_n 0, 1) := by decide +kernel
theorem dX10_haveOf_22 : decode cX10_haveOf 22 = .ok (.getfield 7, 3) := by decide +kernel
theorem dX10_haveOf_25 : decode cX10_haveOf 25 = .ok (.aload_n 0, 1) := by decide +kernel
theorem dX10_haveOf_26 : decode cX10_haveOf 26 = .ok (.invokevirtual 145, 3) := by decide +kernel
theorem dX10_haveOf_29 : decode cX10_haveOf 29 = .ok (.bipush 6, 2) := by decide +kernel
theorem dX10_haveOf_31 : decode cX10_haveOf 31 = .ok (.iadd, 1) := by decide +kernel
theorem dX10_haveOf_32 : decode cX10_haveOf 32 = .ok (.iload_n 3, 1) := by decide +kernel
theorem dX10_haveOf_33 : decode cX10_haveOf 33 = .ok (.iadd, 1) := by decide +kernel
theorem dX10_haveOf_34 : decode cX10_haveOf 34 = .ok (.iaload, 1) := by decide +kernel
theorem dX10_haveOf_35 : decode cX10_haveOf 35 = .ok (.goto 4, 3) := by decide +kernel
theorem dX10_haveOf_38 : decode cX10_haveOf 38 = .ok (.iconst 0, 1) := by decide +kernel
theorem dX10_haveOf_39 : decode cX10_haveOf 39 = .ok (.iadd, 1) := by decide +kernel
theorem dX10_haveOf_40 : decode cX10_haveOf 40 = .ok (.istore_n 2, 1) := by decide +kernel
theorem dX10_haveOf_41 : decode cX10_haveOf 41 = .ok (.iinc 3 1, 3) := by decide +kernel
theorem dX10_haveOf_44 : decode cX10_haveOf 44 = .ok (.goto (-40), 3) := by decide +kernel
theorem dX10_haveOf_47 : decode cX10_haveOf 47 = .ok (.iload_n 2, 1) := by decide +kernel
theorem dX10_haveOf_48 : decode cX10_haveOf 48 = .ok (.ireturn, 1) := by decide +kernel
theorem dX10_sets_0 : decode cX10_sets 0 = .ok (.iload_n 1, 1) := by decide +kernel
theorem dX10_sets_1 : decode cX10_sets 1 = .ok (.iconst 0, 1) := by decide +kernel
theorem dX10_sets_2 : decode cX10_sets 2 = .ok (.sipush 180, 3) := by decide +kernel
theorem dX10_sets_5 : decode cX10_sets 5 = .ok (.invokestatic 63, 3) := by decide +kernel
theorem dX10_sets_8 : decode cX10_sets 8 = .ok (.ifCond .ne 5, 3) := by decide +kernel
theorem dX10_sets_11 : decode cX10_sets 11 = .ok (.iconst (-1), 1) := by decide +kernel
theorem dX10_sets_12 : decode cX10_sets 12 = .ok (.ireturn, 1) := by decide +kernel
theorem dX10_sets_13 : decode cX10_sets 13 = .ok (.aload_n 0, 1) := by decide +kernel
theorem dX10_sets_14 : decode cX10_sets 14 = .ok (.getfield 120, 3) := by decide +kernel
theorem dX10_sets_17 : decode cX10_sets 17 = .ok (.ifCond .ne 6, 3) := by decide +kernel
theorem dX10_sets_20 : decode cX10_sets 20 = .ok (.bipush (-4), 2) := by decide +kernel
theorem dX10_sets_22 : decode cX10_sets 22 = .ok (.ireturn, 1) := by decide +kernel
theorem dX10_sets_23 : decode cX10_sets 23 = .ok (.iconst 0, 1) := by decide +kernel
theorem dX10_sets_24 : decode cX10_sets 24 = .ok (.istore_n 2, 1) := by decide +kernel
theorem dX10_sets_25 : decode cX10_sets 25 = .ok (.bipush (-9), 2) := by decide +kernel
theorem dX10_sets_27 : decode cX10_sets 27 = .ok (.istore_n 3, 1) := by decide +kernel
theorem dX10_sets_28 : decode cX10_sets 28 = .ok (.iconst 1, 1) := by decide +kernel
theorem dX10_sets_29 : decode cX10_sets 29 = .ok (.aload_n 0, 1) := by decide +kernel
theorem dX10_sets_30 : decode cX10_sets 30 = .ok (.getfield 120, 3) := by decide +kernel
theorem dX10_sets_33 : decode cX10_sets 33 = .ok (.ishl, 1) := by decide +kernel
theorem dX10_sets_34 : decode cX10_sets 34 = .ok (.iconst 1, 1) := by decide +kernel
theorem dX10_sets_35 : decode cX10_sets 35 = .ok (.isub, 1) := by decide +kernel
theorem dX10_sets_36 : decode cX10_sets 36 = .ok (.istore 4, 2) := by decide +kernel
theorem dX10_sets_38 : decode cX10_sets 38 = .ok (.iload 4, 2) := by decide +kernel
theorem dX10_sets_40 : decode cX10_sets 40 = .ok (.ifCond .lt 25, 3) := by decide +kernel
theorem dX10_sets_43 : decode cX10_sets 43 = .ok (.aload_n 0, 1) := by decide +kernel
theorem dX10_sets_44 : decode cX10_sets 44 = .ok (.iload 4, 2) := by decide +kernel
theorem dX10_sets_46 : decode cX10_sets 46 = .ok (.invokevirtual 205, 3) := by decide +kernel
theorem dX10_sets_49 : decode cX10_sets 49 = .ok (.iload_n 1, 1) := by decide +kernel
theorem dX10_sets_50 : decode cX10_sets 50 = .ok (.if_icmp .ne 9, 3) := by decide +kernel
theorem dX10_sets_53 : decode cX10_sets 53 = .ok (.iinc 2 1, 3) := by decide +kernel
theorem dX10_sets_56 : decode cX10_sets 56 = .ok (.iload 4, 2) := by decide +kernel
theorem dX10_sets_58 : decode cX10_sets 58 = .ok (.istore_n 3, 1) := by decide +kernel
theorem dX10_sets_59 : decode cX10_sets 59 = .ok (.iinc 4 (-1), 3) := by decide +kernel
theorem dX10_sets_62 : decode cX10_sets 62 = .ok (.goto (-24), 3) := by decide +kernel
theorem dX10_sets_65 : decode cX10_sets 65 = .ok (.aload_n 0, 1) := by decide +kernel
theorem dX10_sets_66 : decode cX10_sets 66 = .ok (.iload_n 2, 1) := by decide +kernel
theorem dX10_sets_67 : decode cX10_sets 67 = .ok (.i2l, 1) := by decide +kernel
theorem dX10_sets_68 : decode cX10_sets 68 = .ok (.putfield 208, 3) := by decide +kernel
theorem dX10_sets_71 : decode cX10_sets 71 = .ok (.aload_n 0, 1) := by decide +kernel
theorem dX10_sets_72 : decode cX10_sets 72 = .ok (.lconst 1, 1) := by decide +kernel
theorem dX10_sets_73 : decode cX10_sets 73 = .ok (.putfield 34, 3) := by decide +kernel
theorem dX10_sets_76 : decode cX10_sets 76 = .ok (.aload_n 0, 1) := by decide +kernel
theorem dX10_sets_77 : decode cX10_sets 77 = .ok (.iload_n 3, 1) := by decide +kernel
end
section
theorem dX10_sets_78 : decode cX10_sets 78 = .ok (.invokevirtual 79, 3) := by decide +kernel
theorem dX10_sets_81 : decode cX10_sets 81 = .ok (.ireturn, 1) := by decide +kernel
theorem dX10_sure_0 : decode cX10_sure 0 = .ok (.iload_n 1, 1) := by decide +kernel
theorem dX10_sure_1 : decode cX10_sure 1 = .ok (.iconst 0, 1) := by decide +kernel
theorem dX10_sure_2 : decode cX10_sure 2 = .ok (.sipush 180, 3) := by decide +kernel
theorem dX10_sure_5 : decode cX10_sure 5 = .ok (.invokestatic 63, 3) := by decide +kernel
theorem dX10_sure_8 : decode cX10_sure 8 = .ok (.ifCond .ne 5, 3) := by decide +kernel
theorem dX10_sure_11 : decode cX10_sure 11 = .ok (.iconst (-1), 1) := by decide +kernel
theorem dX10_sure_12 : decode cX10_sure 12 = .ok (.ireturn, 1) := by decide +kernel
theorem dX10_sure_13 : decode cX10_sure 13 = .ok (.aload_n 0, 1) := by decide +kernel
theorem dX10_sure_14 : decode cX10_sure 14 = .ok (.getfield 120, 3) := by decide +kernel
theorem dX10_sure_17 : decode cX10_sure 17 = .ok (.ifCond .ne 6, 3) := by decide +kernel
theorem dX10_sure_20 : decode cX10_sure 20 = .ok (.bipush (-4), 2) := by decide +kernel
theorem dX10_sure_22 : decode cX10_sure 22 = .ok (.ireturn, 1) := by decide +kernel
theorem dX10_sure_23 : decode cX10_sure 23 = .ok (.iconst 1, 1) := by decide +kernel
theorem dX10_sure_24 : decode cX10_sure 24 = .ok (.aload_n 0, 1) := by decide +kernel
theorem dX10_sure_25 : decode cX10_sure 25 = .ok (.getfield 120, 3) := by decide +kernel
theorem dX10_sure_28 : decode cX10_sure 28 = .ok (.ishl, 1) := by decide +kernel
theorem dX10_sure_29 : decode cX10_sure 29 = .ok (.iconst 1, 1) := by decide +kernel
theorem dX10_sure_30 : decode cX10_sure 30 = .ok (.isub, 1) := by decide +kernel
theorem dX10_sure_31 : decode cX10_sure 31 = .ok (.istore_n 2, 1) := by decide +kernel
theorem dX10_sure_32 : decode cX10_sure 32 = .ok (.iload_n 2, 1) := by decide +kernel
theorem dX10_sure_33 : decode cX10_sure 33 = .ok (.istore_n 3, 1) := by decide +kernel
theorem dX10_sure_34 : decode cX10_sure 34 = .ok (.iconst 0, 1) := by decide +kernel
theorem dX10_sure_35 : decode cX10_sure 35 = .ok (.istore 4, 2) := by decide +kernel
theorem dX10_sure_37 : decode cX10_sure 37 = .ok (.iconst 0, 1) := by decide +kernel
theorem dX10_sure_38 : decode cX10_sure 38 = .ok (.istore 5, 2) := by decide +kernel
theorem dX10_sure_40 : decode cX10_sure 40 = .ok (.iconst 0, 1) := by decide +kernel
theorem dX10_sure_41 : decode cX10_sure 41 = .ok (.istore 6, 2) := by decide +kernel
theorem dX10_sure_43 : decode cX10_sure 43 = .ok (.iload 6, 2) := by decide +kernel
theorem dX10_sure_45 : decode cX10_sure 45 = .ok (.iload_n 2, 1) := by decide +kernel
theorem dX10_sure_46 : decode cX10_sure 46 = .ok (.if_icmp .gt 34, 3) := by decide +kernel
theorem dX10_sure_49 : decode cX10_sure 49 = .ok (.aload_n 0, 1) := by decide +kernel
theorem dX10_sure_50 : decode cX10_sure 50 = .ok (.iload 6, 2) := by decide +kernel
theorem dX10_sure_52 : decode cX10_sure 52 = .ok (.invokevirtual 205, 3) := by decide +kernel
theorem dX10_sure_55 : decode cX10_sure 55 = .ok (.iload_n 1, 1) := by decide +kernel
theorem dX10_sure_56 : decode cX10_sure 56 = .ok (.if_icmp .ne 18, 3) := by decide +kernel
theorem dX10_sure_59 : decode cX10_sure 59 = .ok (.iinc 5 1, 3) := by decide +kernel
theorem dX10_sure_62 : decode cX10_sure 62 = .ok (.iload_n 3, 1) := by decide +kernel
theorem dX10_sure_63 : decode cX10_sure 63 = .ok (.iload 6, 2) := by decide +kernel
theorem dX10_sure_65 : decode cX10_sure 65 = .ok (.iand, 1) := by decide +kernel
theorem dX10_sure_66 : decode cX10_sure 66 = .ok (.istore_n 3, 1) := by decide +kernel
theorem dX10_sure_67 : decode cX10_sure 67 = .ok (.iload 4, 2) := by decide +kernel
theorem dX10_sure_69 : decode cX10_sure 69 = .ok (.iload 6, 2) := by decide +kernel
theorem dX10_sure_71 : decode cX10_sure 71 = .ok (.ior, 1) := by decide +kernel
theorem dX10_sure_72 : decode cX10_sure 72 = .ok (.istore 4, 2) := by decide +kernel
theorem dX10_sure_74 : decode cX10_sure 74 = .ok (.iinc 6 1, 3) := by decide +kernel
theorem dX10_sure_77 : decode cX10_sure 77 = .ok (.goto (-34), 3) := by decide +kernel
theorem dX10_sure_80 : decode cX10_sure 80 = .ok (.iload 5, 2) := by decide +kernel
theorem dX10_sure_82 : decode cX10_sure 82 = .ok (.ifCond .ne 9, 3) := by decide +kernel
theorem dX10_sure_85 : decode cX10_sure 85 = .ok (.aload_n 0, 1) := by decide +kernel
theorem dX10_sure_86 : decode cX10_sure 86 = .ok (.iconst 4, 1) := by decide +kernel
theorem dX10_sure_87 : decode cX10_sure 87 = .ok (.invokevirtual 71, 3) := by decide +kernel
theorem dX10_sure_90 : decode cX10_sure 90 = .ok (.ireturn, 1) := by decide +kernel
theorem dX10_sure_91 : decode cX10_sure 91 = .ok (.aload_n 0, 1) := by decide +kernel
theorem dX10_sure_92 : decode cX10_sure 92 = .ok (.iload_n 2, 1) := by decide +kernel
theorem dX10_sure_93 : decode cX10_sure 93 = .ok (.iload 4, 2) := by decide +kernel
theorem dX10_sure_95 : decode cX10_sure 95 = .ok (.iconst (-1), 1) := by decide +kernel
theorem dX10_sure_96 : decode cX10_sure 96 = .ok (.ixor, 1) := by decide +kernel
theorem dX10_sure_97 : decode cX10_sure 97 = .ok (.iand, 1) := by decide +kernel
theorem dX10_sure_98 : decode cX10_sure 98 = .ok (.putfield 60, 3) := by decide +kernel
theorem dX10_sure_101 : decode cX10_sure 101 = .ok (.iload_n 3, 1) := by decide +kernel
theorem dX10_sure_102 : decode cX10_sure 102 = .ok (.ireturn, 1) := by decide +kernel
theorem dX10_endOf_0 : decode cX10_endOf 0 = .ok (.aload_n 0, 1) := by decide +kernel
theorem dX10_endOf_1 : decode cX10_endOf 1 = .ok (.aload_n 0, 1) := by decide +kernel
theorem dX10_endOf_2 : decode cX10_endOf 2 = .ok (.invokevirtual 145, 3) := by decide +kernel
theorem dX10_endOf_5 : decode cX10_endOf 5 = .ok (.sipush 2788, 3) := by decide +kernel
theorem dX10_endOf_8 : decode cX10_endOf 8 = .ok (.invokevirtual 167, 3) := by decide +kernel
theorem dX10_endOf_11 : decode cX10_endOf 11 = .ok (.iload_n 3, 1) := by decide +kernel
theorem dX10_endOf_12 : decode cX10_endOf 12 = .ok (.istore 5, 2) := by decide +kernel
theorem dX10_endOf_14 : decode cX10_endOf 14 = .ok (.iload 4, 2) := by decide +kernel
theorem dX10_endOf_16 : decode cX10_endOf 16 = .ok (.iconst 1, 1) := by decide +kernel
theorem dX10_endOf_17 : decode cX10_endOf 17 = .ok (.isub, 1) := by decide +kernel
theorem dX10_endOf_18 : decode cX10_endOf 18 = .ok (.istore 6, 2) := by decide +kernel
theorem dX10_endOf_20 : decode cX10_endOf 20 = .ok (.iload 6, 2) := by decide +kernel
theorem dX10_endOf_22 : decode cX10_endOf 22 = .ok (.ifCond .lt 62, 3) := by decide +kernel
theorem dX10_endOf_25 : decode cX10_endOf 25 = .ok (.iload 6, 2) := by decide +kernel
theorem dX10_endOf_27 : decode cX10_endOf 27 = .ok (.iconst 2, 1) := by decide +kernel
theorem dX10_endOf_28 : decode cX10_endOf 28 = .ok (.irem, 1) := by decide +kernel
theorem dX10_endOf_29 : decode cX10_endOf 29 = .ok (.ifCond .ne 7, 3) := by decide +kernel
theorem dX10_endOf_32 : decode cX10_endOf 32 = .ok (.iload_n 1, 1) := by decide +kernel
theorem dX10_endOf_33 : decode cX10_endOf 33 = .ok (.goto 4, 3) := by decide +kernel
theorem dX10_endOf_36 : decode cX10_endOf 36 = .ok (.iload_n 2, 1) := by decide +kernel
theorem dX10_endOf_37 : decode cX10_endOf 37 = .ok (.istore 7, 2) := by decide +kernel
theorem dX10_endOf_39 : decode cX10_endOf 39 = .ok (.aload_n 0, 1) := by decide +kernel
theorem dX10_endOf_40 : decode cX10_endOf 40 = .ok (.getfield 7, 3) := by decide +kernel
theorem dX10_endOf_43 : decode cX10_endOf 43 = .ok (.sipush 2788, 3) := by decide +kernel
theorem dX10_endOf_46 : decode cX10_endOf 46 = .ok (.iload 7, 2) := by decide +kernel
theorem dX10_endOf_48 : decode cX10_endOf 48 = .ok (.iadd, 1) := by decide +kernel
theorem dX10_endOf_49 : decode cX10_endOf 49 = .ok (.aload_n 0, 1) := by decide +kernel
theorem dX10_endOf_50 : decode cX10_endOf 50 = .ok (.getfield 7, 3) := by decide +kernel
theorem dX10_endOf_53 : decode cX10_endOf 53 = .ok (.sipush 2788, 3) := by decide +kernel
theorem dX10_endOf_56 : decode cX10_endOf 56 = .ok (.iload 7, 2) := by decide +kernel
theorem dX10_endOf_58 : decode cX10_endOf 58 = .ok (.iadd, 1) := by decide +kernel
theorem dX10_endOf_59 : decode cX10_endOf 59 = .ok (.iaload, 1) := by decide +kernel
theorem dX10_endOf_60 : decode cX10_endOf 60 = .ok (.iload 5, 2) := by decide +kernel
theorem dX10_endOf_62 : decode cX10_endOf 62 = .ok (.iconst 3, 1) := by decide +kernel
theorem dX10_endOf_63 : decode cX10_endOf 63 = .ok (.irem, 1) := by decide +kernel
theorem dX10_endOf_64 : decode cX10_endOf 64 = .ok (.iadd, 1) := by decide +kernel
theorem dX10_endOf_65 : decode cX10_endOf 65 = .ok (.bipush 9, 2) := by decide +kernel
theorem dX10_endOf_67 : decode cX10_endOf 67 = .ok (.iadd, 1) := by decide +kernel
theorem dX10_endOf_68 : decode cX10_endOf 68 = .ok (.bipush 10, 2) := by decide +kernel
theorem dX10_endOf_70 : decode cX10_endOf 70 = .ok (.irem, 1) := by decide +kernel
theorem dX10_endOf_71 : decode cX10_endOf 71 = .ok (.iastore, 1) := by decide +kernel
theorem dX10_endOf_72 : decode cX10_endOf 72 = .ok (.iload 5, 2) := by decide +kernel
theorem dX10_endOf_74 : decode cX10_endOf 74 = .ok (.iconst 3, 1) := by decide +kernel
theorem dX10_endOf_75 : decode cX10_endOf 75 = .ok (.idiv, 1) := by decide +kernel
theorem dX10_endOf_76 : decode cX10_endOf 76 = .ok (.istore 5, 2) := by decide +kernel
theorem dX10_endOf_78 : decode cX10_endOf 78 = .ok (.iinc 6 (-1), 3) := by decide +kernel
theorem dX10_endOf_81 : decode cX10_endOf 81 = .ok (.goto (-61), 3) := by decide +kernel
theorem dX10_endOf_84 : decode cX10_endOf 84 = .ok (.iconst 0, 1) := by decide +kernel
theorem dX10_endOf_85 : decode cX10_endOf 85 = .ok (.istore 6, 2) := by decide +kernel
theorem dX10_endOf_87 : decode cX10_endOf 87 = .ok (.iload 6, 2) := by decide +kernel
theorem dX10_endOf_89 : decode cX10_endOf 89 = .ok (.iconst 3, 1) := by decide +kernel
theorem dX10_endOf_90 : decode cX10_endOf 90 = .ok (.if_icmp .ge 18, 3) := by decide +kernel
theorem dX10_endOf_93 : decode cX10_endOf 93 = .ok (.aload_n 0, 1) := by decide +kernel
theorem dX10_endOf_94 : decode cX10_endOf 94 = .ok (.sipush 2788, 3) := by decide +kernel
theorem dX10_endOf_97 : decode cX10_endOf 97 = .ok (.invokevirtual 174, 3) := by decide +kernel
theorem dX10_endOf_100 : decode cX10_endOf 100 = .ok (.istore 7, 2) := by decide +kernel
theorem dX10_endOf_102 : decode cX10_endOf 102 = .ok (.iinc 6 1, 3) := by decide +kernel
theorem dX10_endOf_105 : decode cX10_endOf 105 = .ok (.goto (-18), 3) := by decide +kernel
theorem dX10_endOf_108 : decode cX10_endOf 108 = .ok (.aload_n 0, 1) := by decide +kernel
theorem dX10_endOf_109 : decode cX10_endOf 109 = .ok (.getfield 7, 3) := by decide +kernel
theorem dX10_endOf_112 : decode cX10_endOf 112 = .ok (.sipush 2794, 3) := by decide +kernel
theorem dX10_endOf_115 : decode cX10_endOf 115 = .ok (.iload_n 1, 1) := by decide +kernel
theorem dX10_endOf_116 : decode cX10_endOf 116 = .ok (.iadd, 1) := by decide +kernel
theorem dX10_endOf_117 : decode cX10_endOf 117 = .ok (.iaload, 1) := by decide +kernel
theorem dX10_endOf_118 : decode cX10_endOf 118 = .ok (.aload_n 0, 1) := by decide +kernel
theorem dX10_endOf_119 : decode cX10_endOf 119 = .ok (.getfield 7, 3) := by decide +kernel
theorem dX10_endOf_122 : decode cX10_endOf 122 = .ok (.sipush 2794, 3) := by decide +kernel
theorem dX10_endOf_125 : decode cX10_endOf 125 = .ok (.iload_n 2, 1) := by decide +kernel
theorem dX10_endOf_126 : decode cX10_endOf 126 = .ok (.iadd, 1) := by decide +kernel
theorem dX10_endOf_127 : decode cX10_endOf 127 = .ok (.iaload, 1) := by decide +kernel
theorem dX10_endOf_128 : decode cX10_endOf 128 = .ok (.isub, 1) := by decide +kernel
theorem dX10_endOf_129 : decode cX10_endOf 129 = .ok (.ireturn, 1) := by decide +kernel
theorem dX10_duel_0 : decode cX10_duel 0 = .ok (.aload_n 0, 1) := by decide +kernel
theorem dX10_duel_1 : decode cX10_duel 1 = .ok (.iload_n 1, 1) := by decide +kernel
theorem dX10_duel_2 : decode cX10_duel 2 = .ok (.invokevirtual 152, 3) := by decide +kernel
theorem dX10_duel_5 : decode cX10_duel 5 = .ok (.ifCond .eq 25, 3) := by decide +kernel
theorem dX10_duel_8 : decode cX10_duel 8 = .ok (.aload_n 0, 1) := by decide +kernel
theorem dX10_duel_9 : decode cX10_duel 9 = .ok (.iload_n 2, 1) := by decide +kernel
theorem dX10_duel_10 : decode cX10_duel 10 = .ok (.invokevirtual 152, 3) := by decide +kernel
theorem dX10_duel_13 : decode cX10_duel 13 = .ok (.ifCond .eq 17, 3) := by decide +kernel
theorem dX10_duel_16 : decode cX10_duel 16 = .ok (.iload_n 1, 1) := by decide +kernel
theorem dX10_duel_17 : decode cX10_duel 17 = .ok (.iload_n 2, 1) := by decide +kernel
theorem dX10_duel_18 : decode cX10_duel 18 = .ok (.if_icmp .eq 12, 3) := by decide +kernel
theorem dX10_duel_21 : decode cX10_duel 21 = .ok (.iload_n 3, 1) := by decide +kernel
theorem dX10_duel_22 : decode cX10_duel 22 = .ok (.iconst 0, 1) := by decide +kernel
theorem dX10_duel_23 : decode cX10_duel 23 = .ok (.iconst 2, 1) := by decide +kernel
theorem dX10_duel_24 : decode cX10_duel 24 = .ok (.invokestatic 63, 3) := by decide +kernel
theorem dX10_duel_27 : decode cX10_duel 27 = .ok (.ifCond .ne 5, 3) := by decide +kernel
theorem dX10_duel_30 : decode cX10_duel 30 = .ok (.iconst (-1), 1) := by decide +kernel
theorem dX10_duel_31 : decode cX10_duel 31 = .ok (.ireturn, 1) := by decide +kernel
theorem dX10_duel_32 : decode cX10_duel 32 = .ok (.iload_n 3, 1) := by decide +kernel
theorem dX10_duel_33 : decode cX10_duel 33 = .ok (.ifCond .ne 7, 3) := by decide +kernel
theorem dX10_duel_36 : decode cX10_duel 36 = .ok (.iconst 1, 1) := by decide +kernel
theorem dX10_duel_37 : decode cX10_duel 37 = .ok (.goto 15, 3) := by decide +kernel
theorem dX10_duel_40 : decode cX10_duel 40 = .ok (.iload_n 3, 1) := by decide +kernel
theorem dX10_duel_41 : decode cX10_duel 41 = .ok (.iconst 1, 1) := by decide +kernel
theorem dX10_duel_42 : decode cX10_duel 42 = .ok (.if_icmp .ne 8, 3) := by decide +kernel
theorem dX10_duel_45 : decode cX10_duel 45 = .ok (.bipush 9, 2) := by decide +kernel
theorem dX10_duel_47 : decode cX10_duel 47 = .ok (.goto 5, 3) := by decide +kernel
theorem dX10_duel_50 : decode cX10_duel 50 = .ok (.bipush 81, 2) := by decide +kernel
theorem dX10_duel_52 : decode cX10_duel 52 = .ok (.istore 4, 2) := by decide +kernel
theorem dX10_duel_54 : decode cX10_duel 54 = .ok (.iconst 0, 1) := by decide +kernel
theorem dX10_duel_55 : decode cX10_duel 55 = .ok (.istore 5, 2) := by decide +kernel
theorem dX10_duel_57 : decode cX10_duel 57 = .ok (.iload 5, 2) := by decide +kernel
theorem dX10_duel_59 : decode cX10_duel 59 = .ok (.iload 4, 2) := by decide +kernel
theorem dX10_duel_61 : decode cX10_duel 61 = .ok (.if_icmp .ge 27, 3) := by decide +kernel
theorem dX10_duel_64 : decode cX10_duel 64 = .ok (.aload_n 0, 1) := by decide +kernel
theorem dX10_duel_65 : decode cX10_duel 65 = .ok (.getfield 50, 3) := by decide +kernel
theorem dX10_duel_68 : decode cX10_duel 68 = .ok (.iload 5, 2) := by decide +kernel
theorem dX10_duel_70 : decode cX10_duel 70 = .ok (.aload_n 0, 1) := by decide +kernel
theorem dX10_duel_71 : decode cX10_duel 71 = .ok (.iload_n 1, 1) := by decide +kernel
theorem dX10_duel_72 : decode cX10_duel 72 = .ok (.iload_n 2, 1) := by decide +kernel
theorem dX10_duel_73 : decode cX10_duel 73 = .ok (.iload 5, 2) := by decide +kernel
theorem dX10_duel_75 : decode cX10_duel 75 = .ok (.iconst 2, 1) := by decide +kernel
theorem dX10_duel_76 : decode cX10_duel 76 = .ok (.iload_n 3, 1) := by decide +kernel
theorem dX10_duel_77 : decode cX10_duel 77 = .ok (.imul, 1) := by decide +kernel
theorem dX10_duel_78 : decode cX10_duel 78 = .ok (.invokevirtual 211, 3) := by decide +kernel
theorem dX10_duel_81 : decode cX10_duel 81 = .ok (.iastore, 1) := by decide +kernel
theorem dX10_duel_82 : decode cX10_duel 82 = .ok (.iinc 5 1, 3) := by decide +kernel
theorem dX10_duel_85 : decode cX10_duel 85 = .ok (.goto (-28), 3) := by decide +kernel
theorem dX10_duel_88 : decode cX10_duel 88 = .ok (.iconst 2, 1) := by decide +kernel
theorem dX10_duel_89 : decode cX10_duel 89 = .ok (.iload_n 3, 1) := by decide +kernel
theorem dX10_duel_90 : decode cX10_duel 90 = .ok (.imul, 1) := by decide +kernel
theorem dX10_duel_91 : decode cX10_duel 91 = .ok (.iconst 1, 1) := by decide +kernel
theorem dX10_duel_92 : decode cX10_duel 92 = .ok (.isub, 1) := by decide +kernel
theorem dX10_duel_93 : decode cX10_duel 93 = .ok (.istore 5, 2) := by decide +kernel
theorem dX10_duel_95 : decode cX10_duel 95 = .ok (.iload 5, 2) := by decide +kernel
theorem dX10_duel_97 : decode cX10_duel 97 = .ok (.ifCond .lt 130, 3) := by decide +kernel
theorem dX10_duel_100 : decode cX10_duel 100 = .ok (.iload 4, 2) := by decide +kernel
theorem dX10_duel_102 : decode cX10_duel 102 = .ok (.iconst 3, 1) := by decide +kernel
theorem dX10_duel_103 : decode cX10_duel 103 = .ok (.idiv, 1) := by decide +kernel
theorem dX10_duel_104 : decode cX10_duel 104 = .ok (.istore 4, 2) := by decide +kernel
theorem dX10_duel_106 : decode cX10_duel 106 = .ok (.iconst 0, 1) := by decide +kernel
theorem dX10_duel_107 : decode cX10_duel 107 = .ok (.istore 6, 2) := by decide +kernel
theorem dX10_duel_109 : decode cX10_duel 109 = .ok (.iload 6, 2) := by decide +kernel
theorem dX10_duel_111 : decode cX10_duel 111 = .ok (.iload 4, 2) := by decide +kernel
theorem dX10_duel_113 : decode cX10_duel 113 = .ok (.if_icmp .ge 108, 3) := by decide +kernel
theorem dX10_duel_116 : decode cX10_duel 116 = .ok (.aload_n 0, 1) := by decide +kernel
theorem dX10_duel_117 : decode cX10_duel 117 = .ok (.getfield 50, 3) := by decide +kernel
theorem dX10_duel_120 : decode cX10_duel 120 = .ok (.iconst 3, 1) := by decide +kernel
theorem dX10_duel_121 : decode cX10_duel 121 = .ok (.iload 6, 2) := by decide +kernel
theorem dX10_duel_123 : decode cX10_duel 123 = .ok (.imul, 1) := by decide +kernel
theorem dX10_duel_124 : decode cX10_duel 124 = .ok (.iaload, 1) := by decide +kernel
theorem dX10_duel_125 : decode cX10_duel 125 = .ok (.istore 7, 2) := by decide +kernel
theorem dX10_duel_127 : decode cX10_duel 127 = .ok (.iconst 1, 1) := by decide +kernel
theorem dX10_duel_128 : decode cX10_duel 128 = .ok (.istore 8, 2) := by decide +kernel
theorem dX10_duel_130 : decode cX10_duel 130 = .ok (.iload 8, 2) := by decide +kernel
theorem dX10_duel_132 : decode cX10_duel 132 = .ok (.iconst 3, 1) := by decide +kernel
theorem dX10_duel_133 : decode cX10_duel 133 = .ok (.if_icmp .ge 73, 3) := by decide +kernel
theorem dX10_duel_136 : decode cX10_duel 136 = .ok (.aload_n 0, 1) := by decide +kernel
theorem dX10_duel_137 : decode cX10_duel 137 = .ok (.getfield 50, 3) := by decide +kernel
theorem dX10_duel_140 : decode cX10_duel 140 = .ok (.iconst 3, 1) := by decide +kernel
theorem dX10_duel_141 : decode cX10_duel 141 = .ok (.iload 6, 2) := by decide +kernel
theorem dX10_duel_143 : decode cX10_duel 143 = .ok (.imul, 1) := by decide +kernel
theorem dX10_duel_144 : decode cX10_duel 144 = .ok (.iload 8, 2) := by decide +kernel
theorem dX10_duel_146 : decode cX10_duel 146 = .ok (.iadd, 1) := by decide +kernel
theorem dX10_duel_147 : decode cX10_duel 147 = .ok (.iaload, 1) := by decide +kernel
theorem dX10_duel_148 : decode cX10_duel 148 = .ok (.istore 9, 2) := by decide +kernel
theorem dX10_duel_150 : decode cX10_duel 150 = .ok (.iload 5, 2) := by decide +kernel
theorem dX10_duel_152 : decode cX10_duel 152 = .ok (.iconst 2, 1) := by decide +kernel
theorem dX10_duel_153 : decode cX10_duel 153 = .ok (.irem, 1) := by decide +kernel
theorem dX10_duel_154 : decode cX10_duel 154 = .ok (.ifCond .ne 18, 3) := by decide +kernel
theorem dX10_duel_157 : decode cX10_duel 157 = .ok (.iload 9, 2) := by decide +kernel
theorem dX10_duel_159 : decode cX10_duel 159 = .ok (.iload 7, 2) := by decide +kernel
theorem dX10_duel_161 : decode cX10_duel 161 = .ok (.if_icmp .le 7, 3) := by decide +kernel
theorem dX10_duel_164 : decode cX10_duel 164 = .ok (.iconst 1, 1) := by decide +kernel
theorem dX10_duel_165 : decode cX10_duel 165 = .ok (.goto 19, 3) := by decide +kernel
theorem dX10_duel_168 : decode cX10_duel 168 = .ok (.iconst 0, 1) := by decide +kernel
theorem dX10_duel_169 : decode cX10_duel 169 = .ok (.goto 15, 3) := by decide +kernel
theorem dX10_duel_172 : decode cX10_duel 172 = .ok (.iload 9, 2) := by decide +kernel
theorem dX10_duel_174 : decode cX10_duel 174 = .ok (.iload 7, 2) := by decide +kernel
theorem dX10_duel_176 : decode cX10_duel 176 = .ok (.if_icmp .ge 7, 3) := by decide +kernel
theorem dX10_duel_179 : decode cX10_duel 179 = .ok (.iconst 1, 1) := by decide +kernel
theorem dX10_duel_180 : decode cX10_duel 180 = .ok (.goto 4, 3) := by decide +kernel
theorem dX10_duel_183 : decode cX10_duel 183 = .ok (.iconst 0, 1) := by decide +kernel
theorem dX10_duel_184 : decode cX10_duel 184 = .ok (.istore 10, 2) := by decide +kernel
theorem dX10_duel_186 : decode cX10_duel 186 = .ok (.iload 10, 2) := by decide +kernel
theorem dX10_duel_188 : decode cX10_duel 188 = .ok (.ifCond .eq 8, 3) := by decide +kernel
theorem dX10_duel_191 : decode cX10_duel 191 = .ok (.iload 9, 2) := by decide +kernel
theorem dX10_duel_193 : decode cX10_duel 193 = .ok (.goto 5, 3) := by decide +kernel
theorem dX10_duel_196 : decode cX10_duel 196 = .ok (.iload 7, 2) := by decide +kernel
theorem dX10_duel_198 : decode cX10_duel 198 = .ok (.istore 7, 2) := by decide +kernel
theorem dX10_duel_200 : decode cX10_duel 200 = .ok (.iinc 8 1, 3) := by decide +kernel
theorem dX10_duel_203 : decode cX10_duel 203 = .ok (.goto (-73), 3) := by decide +kernel
theorem dX10_duel_206 : decode cX10_duel 206 = .ok (.aload_n 0, 1) := by decide +kernel
theorem dX10_duel_207 : decode cX10_duel 207 = .ok (.getfield 50, 3) := by decide +kernel
theorem dX10_duel_210 : decode cX10_duel 210 = .ok (.iload 6, 2) := by decide +kernel
theorem dX10_duel_212 : decode cX10_duel 212 = .ok (.iload 7, 2) := by decide +kernel
theorem dX10_duel_214 : decode cX10_duel 214 = .ok (.iastore, 1) := by decide +kernel
theorem dX10_duel_215 : decode cX10_duel 215 = .ok (.iinc 6 1, 3) := by decide +kernel
theorem dX10_duel_218 : decode cX10_duel 218 = .ok (.goto (-109), 3) := by decide +kernel
theorem dX10_duel_221 : decode cX10_duel 221 = .ok (.iinc 5 (-1), 3) := by decide +kernel
theorem dX10_duel_224 : decode cX10_duel 224 = .ok (.goto (-129), 3) := by decide +kernel
theorem dX10_duel_227 : decode cX10_duel 227 = .ok (.aload_n 0, 1) := by decide +kernel
theorem dX10_duel_228 : decode cX10_duel 228 = .ok (.aload_n 0, 1) := by decide +kernel
theorem dX10_duel_229 : decode cX10_duel 229 = .ok (.getfield 50, 3) := by decide +kernel
theorem dX10_duel_232 : decode cX10_duel 232 = .ok (.iconst 0, 1) := by decide +kernel
theorem dX10_duel_233 : decode cX10_duel 233 = .ok (.iaload, 1) := by decide +kernel
theorem dX10_duel_234 : decode cX10_duel 234 = .ok (.invokevirtual 79, 3) := by decide +kernel
theorem dX10_duel_237 : decode cX10_duel 237 = .ok (.ireturn, 1) := by decide +kernel
theorem dX10_tellPart_0 : decode cX10_tellPart 0 = .ok (.lload_n 1, 1) := by decide +kernel
theorem dX10_tellPart_1 : decode cX10_tellPart 1 = .ok (.lstore 5, 2) := by decide +kernel
theorem dX10_tellPart_3 : decode cX10_tellPart 3 = .ok (.lload_n 3, 1) := by decide +kernel
theorem dX10_tellPart_4 : decode cX10_tellPart 4 = .ok (.lstore 7, 2) := by decide +kernel
theorem dX10_tellPart_6 : decode cX10_tellPart 6 = .ok (.lload 7, 2) := by decide +kernel
theorem dX10_tellPart_8 : decode cX10_tellPart 8 = .ok (.lconst 0, 1) := by decide +kernel
theorem dX10_tellPart_9 : decode cX10_tellPart 9 = .ok (.lcmp, 1) := by decide +kernel
theorem dX10_tellPart_10 : decode cX10_tellPart 10 = .ok (.ifCond .eq 21, 3) := by decide +kernel
theorem dX10_tellPart_13 : decode cX10_tellPart 13 = .ok (.lload 5, 2) := by decide +kernel
theorem dX10_tellPart_15 : decode cX10_tellPart 15 = .ok (.lload 7, 2) := by decide +kernel
theorem dX10_tellPart_17 : decode cX10_tellPart 17 = .ok (.lrem, 1) := by decide +kernel
theorem dX10_tellPart_18 : decode cX10_tellPart 18 = .ok (.lstore 9, 2) := by decide +kernel
theorem dX10_tellPart_20 : decode cX10_tellPart 20 = .ok (.lload 7, 2) := by decide +kernel
theorem dX10_tellPart_22 : decode cX10_tellPart 22 = .ok (.lstore 5, 2) := by decide +kernel
theorem dX10_tellPart_24 : decode cX10_tellPart 24 = .ok (.lload 9, 2) := by decide +kernel
theorem dX10_tellPart_26 : decode cX10_tellPart 26 = .ok (.lstore 7, 2) := by decide +kernel
theorem dX10_tellPart_28 : decode cX10_tellPart 28 = .ok (.goto (-22), 3) := by decide +kernel
theorem dX10_tellPart_31 : decode cX10_tellPart 31 = .ok (.aload_n 0, 1) := by decide +kernel
theorem dX10_tellPart_32 : decode cX10_tellPart 32 = .ok (.lload_n 1, 1) := by decide +kernel
theorem dX10_tellPart_33 : decode cX10_tellPart 33 = .ok (.lload 5, 2) := by decide +kernel
theorem dX10_tellPart_35 : decode cX10_tellPart 35 = .ok (.ldiv, 1) := by decide +kernel
theorem dX10_tellPart_36 : decode cX10_tellPart 36 = .ok (.putfield 208, 3) := by decide +kernel
theorem dX10_tellPart_39 : decode cX10_tellPart 39 = .ok (.aload_n 0, 1) := by decide +kernel
theorem dX10_tellPart_40 : decode cX10_tellPart 40 = .ok (.lload_n 3, 1) := by decide +kernel
theorem dX10_tellPart_41 : decode cX10_tellPart 41 = .ok (.lload 5, 2) := by decide +kernel
theorem dX10_tellPart_43 : decode cX10_tellPart 43 = .ok (.ldiv, 1) := by decide +kernel
theorem dX10_tellPart_44 : decode cX10_tellPart 44 = .ok (.putfield 34, 3) := by decide +kernel
theorem dX10_tellPart_47 : decode cX10_tellPart 47 = .ok (.return_, 1) := by decide +kernel
theorem dX10_weighed_0 : decode cX10_weighed 0 = .ok (.lconst 0, 1) := by decide +kernel
theorem dX10_weighed_1 : decode cX10_weighed 1 = .ok (.lstore_n 3, 1) := by decide +kernel
theorem dX10_weighed_2 : decode cX10_weighed 2 = .ok (.iconst 0, 1) := by decide +kernel
theorem dX10_weighed_3 : decode cX10_weighed 3 = .ok (.istore 5, 2) := by decide +kernel
theorem dX10_weighed_5 : decode cX10_weighed 5 = .ok (.iload 5, 2) := by decide +kernel
theorem dX10_weighed_7 : decode cX10_weighed 7 = .ok (.iconst 1, 1) := by decide +kernel
theorem dX10_weighed_8 : decode cX10_weighed 8 = .ok (.aload_n 0, 1) := by decide +kernel
theorem dX10_weighed_9 : decode cX10_weighed 9 = .ok (.getfield 120, 3) := by decide +kernel
theorem dX10_weighed_12 : decode cX10_weighed 12 = .ok (.ishl, 1) := by decide +kernel
theorem dX10_weighed_13 : decode cX10_weighed 13 = .ok (.if_icmp .ge 119, 3) := by decide +kernel
theorem dX10_weighed_16 : decode cX10_weighed 16 = .ok (.lconst 1, 1) := by decide +kernel
theorem dX10_weighed_17 : decode cX10_weighed 17 = .ok (.lstore 6, 2) := by decide +kernel
theorem dX10_weighed_19 : decode cX10_weighed 19 = .ok (.iconst 0, 1) := by decide +kernel
theorem dX10_weighed_20 : decode cX10_weighed 20 = .ok (.istore 8, 2) := by decide +kernel
theorem dX10_weighed_22 : decode cX10_weighed 22 = .ok (.iload 8, 2) := by decide +kernel
theorem dX10_weighed_24 : decode cX10_weighed 24 = .ok (.aload_n 0, 1) := by decide +kernel
theorem dX10_weighed_25 : decode cX10_weighed 25 = .ok (.getfield 120, 3) := by decide +kernel
theorem dX10_weighed_28 : decode cX10_weighed 28 = .ok (.if_icmp .ge 34, 3) := by decide +kernel
theorem dX10_weighed_31 : decode cX10_weighed 31 = .ok (.lload 6, 2) := by decide +kernel
theorem dX10_weighed_33 : decode cX10_weighed 33 = .ok (.iload 5, 2) := by decide +kernel
theorem dX10_weighed_35 : decode cX10_weighed 35 = .ok (.iload 8, 2) := by decide +kernel
theorem dX10_weighed_37 : decode cX10_weighed 37 = .ok (.invokestatic 135, 3) := by decide +kernel
theorem dX10_weighed_40 : decode cX10_weighed 40 = .ok (.ifCond .eq 8, 3) := by decide +kernel
theorem dX10_weighed_43 : decode cX10_weighed 43 = .ok (.iload_n 2, 1) := by decide +kernel
theorem dX10_weighed_44 : decode cX10_weighed 44 = .ok (.i2l, 1) := by decide +kernel
theorem dX10_weighed_45 : decode cX10_weighed 45 = .ok (.goto 8, 3) := by decide +kernel
theorem dX10_weighed_48 : decode cX10_weighed 48 = .ok (.bipush 12, 2) := by decide +kernel
theorem dX10_weighed_50 : decode cX10_weighed 50 = .ok (.iload_n 2, 1) := by decide +kernel
theorem dX10_weighed_51 : decode cX10_weighed 51 = .ok (.isub, 1) := by decide +kernel
theorem dX10_weighed_52 : decode cX10_weighed 52 = .ok (.i2l, 1) := by decide +kernel
theorem dX10_weighed_53 : decode cX10_weighed 53 = .ok (.lmul, 1) := by decide +kernel
theorem dX10_weighed_54 : decode cX10_weighed 54 = .ok (.lstore 6, 2) := by decide +kernel
theorem dX10_weighed_56 : decode cX10_weighed 56 = .ok (.iinc 8 1, 3) := by decide +kernel
theorem dX10_weighed_59 : decode cX10_weighed 59 = .ok (.goto (-37), 3) := by decide +kernel
theorem dX10_weighed_62 : decode cX10_weighed 62 = .ok (.aload_n 0, 1) := by decide +kernel
theorem dX10_weighed_63 : decode cX10_weighed 63 = .ok (.aload_n 0, 1) := by decide +kernel
theorem dX10_weighed_64 : decode cX10_weighed 64 = .ok (.invokevirtual 145, 3) := by decide +kernel
theorem dX10_weighed_67 : decode cX10_weighed 67 = .ok (.sipush 2788, 3) := by decide +kernel
theorem dX10_weighed_70 : decode cX10_weighed 70 = .ok (.invokevirtual 167, 3) := by decide +kernel
theorem dX10_weighed_73 : decode cX10_weighed 73 = .ok (.aload_n 0, 1) := by decide +kernel
theorem dX10_weighed_74 : decode cX10_weighed 74 = .ok (.sipush 2788, 3) := by decide +kernel
theorem dX10_weighed_77 : decode cX10_weighed 77 = .ok (.iload 5, 2) := by decide +kernel
theorem dX10_weighed_79 : decode cX10_weighed 79 = .ok (.bipush (-9), 2) := by decide +kernel
theorem dX10_weighed_81 : decode cX10_weighed 81 = .ok (.iconst 0, 1) := by decide +kernel
theorem dX10_weighed_82 : decode cX10_weighed 82 = .ok (.invokevirtual 141, 3) := by decide +kernel
theorem dX10_weighed_85 : decode cX10_weighed 85 = .ok (.istore 8, 2) := by decide +kernel
theorem dX10_weighed_87 : decode cX10_weighed 87 = .ok (.lload_n 3, 1) := by decide +kernel
theorem dX10_weighed_88 : decode cX10_weighed 88 = .ok (.iload_n 1, 1) := by decide +kernel
theorem dX10_weighed_89 : decode cX10_weighed 89 = .ok (.bipush (-9), 2) := by decide +kernel
theorem dX10_weighed_91 : decode cX10_weighed 91 = .ok (.if_icmp .ne 18, 3) := by decide +kernel
theorem dX10_weighed_94 : decode cX10_weighed 94 = .ok (.lload 6, 2) := by decide +kernel
theorem dX10_weighed_96 : decode cX10_weighed 96 = .ok (.aload_n 0, 1) := by decide +kernel
theorem dX10_weighed_97 : decode cX10_weighed 97 = .ok (.getfield 7, 3) := by decide +kernel
theorem dX10_weighed_100 : decode cX10_weighed 100 = .ok (.sipush 2800, 3) := by decide +kernel
theorem dX10_weighed_103 : decode cX10_weighed 103 = .ok (.iaload, 1) := by decide +kernel
theorem dX10_weighed_104 : decode cX10_weighed 104 = .ok (.i2l, 1) := by decide +kernel
theorem dX10_weighed_105 : decode cX10_weighed 105 = .ok (.lmul, 1) := by decide +kernel
theorem dX10_weighed_106 : decode cX10_weighed 106 = .ok (.goto 18, 3) := by decide +kernel
theorem dX10_weighed_109 : decode cX10_weighed 109 = .ok (.iload 8, 2) := by decide +kernel
theorem dX10_weighed_111 : decode cX10_weighed 111 = .ok (.iload_n 1, 1) := by decide +kernel
theorem dX10_weighed_112 : decode cX10_weighed 112 = .ok (.invokestatic 135, 3) := by decide +kernel
theorem dX10_weighed_115 : decode cX10_weighed 115 = .ok (.ifCond .eq 8, 3) := by decide +kernel
theorem dX10_weighed_118 : decode cX10_weighed 118 = .ok (.lload 6, 2) := by decide +kernel
theorem dX10_weighed_120 : decode cX10_weighed 120 = .ok (.goto 4, 3) := by decide +kernel
theorem dX10_weighed_123 : decode cX10_weighed 123 = .ok (.lconst 0, 1) := by decide +kernel
theorem dX10_weighed_124 : decode cX10_weighed 124 = .ok (.ladd, 1) := by decide +kernel
theorem dX10_weighed_125 : decode cX10_weighed 125 = .ok (.lstore_n 3, 1) := by decide +kernel
theorem dX10_weighed_126 : decode cX10_weighed 126 = .ok (.iinc 5 1, 3) := by decide +kernel
theorem dX10_weighed_129 : decode cX10_weighed 129 = .ok (.goto (-124), 3) := by decide +kernel
theorem dX10_weighed_132 : decode cX10_weighed 132 = .ok (.lload_n 3, 1) := by decide +kernel
theorem dX10_weighed_133 : decode cX10_weighed 133 = .ok (.lreturn, 1) := by decide +kernel
theorem dX10_twelves_0 : decode cX10_twelves 0 = .ok (.lconst 1, 1) := by decide +kernel
theorem dX10_twelves_1 : decode cX10_twelves 1 = .ok (.lstore_n 1, 1) := by decide +kernel
theorem dX10_twelves_2 : decode cX10_twelves 2 = .ok (.iconst 0, 1) := by decide +kernel
theorem dX10_twelves_3 : decode cX10_twelves 3 = .ok (.istore_n 3, 1) := by decide +kernel
theorem dX10_twelves_4 : decode cX10_twelves 4 = .ok (.iload_n 3, 1) := by decide +kernel
theorem dX10_twelves_5 : decode cX10_twelves 5 = .ok (.aload_n 0, 1) := by decide +kernel
theorem dX10_twelves_6 : decode cX10_twelves 6 = .ok (.getfield 120, 3) := by decide +kernel
theorem dX10_twelves_9 : decode cX10_twelves 9 = .ok (.if_icmp .ge 15, 3) := by decide +kernel
theorem dX10_twelves_12 : decode cX10_twelves 12 = .ok (.lload_n 1, 1) := by decide +kernel
theorem dX10_twelves_13 : decode cX10_twelves 13 = .ok (.ldc2_w 214, 3) := by decide +kernel
theorem dX10_twelves_16 : decode cX10_twelves 16 = .ok (.lmul, 1) := by decide +kernel
theorem dX10_twelves_17 : decode cX10_twelves 17 = .ok (.lstore_n 1, 1) := by decide +kernel
theorem dX10_twelves_18 : decode cX10_twelves 18 = .ok (.iinc 3 1, 3) := by decide +kernel
theorem dX10_twelves_21 : decode cX10_twelves 21 = .ok (.goto (-17), 3) := by decide +kernel
theorem dX10_twelves_24 : decode cX10_twelves 24 = .ok (.lload_n 1, 1) := by decide +kernel
theorem dX10_twelves_25 : decode cX10_twelves 25 = .ok (.lreturn, 1) := by decide +kernel
theorem dX10_odds_0 : decode cX10_odds 0 = .ok (.aload_n 0, 1) := by decide +kernel
theorem dX10_odds_1 : decode cX10_odds 1 = .ok (.iload_n 1, 1) := by decide +kernel
theorem dX10_odds_2 : decode cX10_odds 2 = .ok (.invokevirtual 152, 3) := by decide +kernel
theorem dX10_odds_5 : decode cX10_odds 5 = .ok (.ifCond .eq 13, 3) := by decide +kernel
theorem dX10_odds_8 : decode cX10_odds 8 = .ok (.iload_n 2, 1) := by decide +kernel
theorem dX10_odds_9 : decode cX10_odds 9 = .ok (.iconst 0, 1) := by decide +kernel
theorem dX10_odds_10 : decode cX10_odds 10 = .ok (.bipush 12, 2) := by decide +kernel
theorem dX10_odds_12 : decode cX10_odds 12 = .ok (.invokestatic 63, 3) := by decide +kernel
theorem dX10_odds_15 : decode cX10_odds 15 = .ok (.ifCond .ne 5, 3) := by decide +kernel
theorem dX10_odds_18 : decode cX10_odds 18 = .ok (.iconst (-1), 1) := by decide +kernel
theorem dX10_odds_19 : decode cX10_odds 19 = .ok (.ireturn, 1) := by decide +kernel
theorem dX10_odds_20 : decode cX10_odds 20 = .ok (.aload_n 0, 1) := by decide +kernel
theorem dX10_odds_21 : decode cX10_odds 21 = .ok (.aload_n 0, 1) := by decide +kernel
theorem dX10_odds_22 : decode cX10_odds 22 = .ok (.iload_n 1, 1) := by decide +kernel
theorem dX10_odds_23 : decode cX10_odds 23 = .ok (.iload_n 2, 1) := by decide +kernel
theorem dX10_odds_24 : decode cX10_odds 24 = .ok (.invokevirtual 216, 3) := by decide +kernel
theorem dX10_odds_27 : decode cX10_odds 27 = .ok (.aload_n 0, 1) := by decide +kernel
theorem dX10_odds_28 : decode cX10_odds 28 = .ok (.invokevirtual 220, 3) := by decide +kernel
theorem dX10_odds_31 : decode cX10_odds 31 = .ok (.invokevirtual 224, 3) := by decide +kernel
theorem dX10_odds_34 : decode cX10_odds 34 = .ok (.iconst 1, 1) := by decide +kernel
theorem dX10_odds_35 : decode cX10_odds 35 = .ok (.ireturn, 1) := by decide +kernel
theorem dX10_mid_0 : decode cX10_mid 0 = .ok (.iload_n 1, 1) := by decide +kernel
theorem dX10_mid_1 : decode cX10_mid 1 = .ok (.iconst 0, 1) := by decide +kernel
theorem dX10_mid_2 : decode cX10_mid 2 = .ok (.bipush 12, 2) := by decide +kernel
theorem dX10_mid_4 : decode cX10_mid 4 = .ok (.invokestatic 63, 3) := by decide +kernel
theorem dX10_mid_7 : decode cX10_mid 7 = .ok (.ifCond .ne 5, 3) := by decide +kernel
theorem dX10_mid_10 : decode cX10_mid 10 = .ok (.iconst (-1), 1) := by decide +kernel
theorem dX10_mid_11 : decode cX10_mid 11 = .ok (.ireturn, 1) := by decide +kernel
theorem dX10_mid_12 : decode cX10_mid 12 = .ok (.aload_n 0, 1) := by decide +kernel
theorem dX10_mid_13 : decode cX10_mid 13 = .ok (.getfield 120, 3) := by decide +kernel
theorem dX10_mid_16 : decode cX10_mid 16 = .ok (.ifCond .ne 6, 3) := by decide +kernel
theorem dX10_mid_19 : decode cX10_mid 19 = .ok (.bipush (-4), 2) := by decide +kernel
theorem dX10_mid_21 : decode cX10_mid 21 = .ok (.ireturn, 1) := by decide +kernel
theorem dX10_mid_22 : decode cX10_mid 22 = .ok (.aload_n 0, 1) := by decide +kernel
theorem dX10_mid_23 : decode cX10_mid 23 = .ok (.aload_n 0, 1) := by decide +kernel
theorem dX10_mid_24 : decode cX10_mid 24 = .ok (.bipush (-9), 2) := by decide +kernel
theorem dX10_mid_26 : decode cX10_mid 26 = .ok (.iload_n 1, 1) := by decide +kernel
theorem dX10_mid_27 : decode cX10_mid 27 = .ok (.invokevirtual 216, 3) := by decide +kernel
theorem dX10_mid_30 : decode cX10_mid 30 = .ok (.aload_n 0, 1) := by decide +kernel
theorem dX10_mid_31 : decode cX10_mid 31 = .ok (.invokevirtual 220, 3) := by decide +kernel
theorem dX10_mid_34 : decode cX10_mid 34 = .ok (.invokevirtual 224, 3) := by decide +kernel
theorem dX10_mid_37 : decode cX10_mid 37 = .ok (.iconst 1, 1) := by decide +kernel
theorem dX10_mid_38 : decode cX10_mid 38 = .ok (.ireturn, 1) := by decide +kernel
theorem dX10_deedBy_0 : decode cX10_deedBy 0 = .ok (.iload_n 2, 1) := by decide +kernel
theorem dX10_deedBy_1 : decode cX10_deedBy 1 = .ok (.bipush 64, 2) := by decide +kernel
theorem dX10_deedBy_3 : decode cX10_deedBy 3 = .ok (.idiv, 1) := by decide +kernel
theorem dX10_deedBy_4 : decode cX10_deedBy 4 = .ok (.istore_n 3, 1) := by decide +kernel
theorem dX10_deedBy_5 : decode cX10_deedBy 5 = .ok (.iload_n 2, 1) := by decide +kernel
theorem dX10_deedBy_6 : decode cX10_deedBy 6 = .ok (.bipush 8, 2) := by decide +kernel
theorem dX10_deedBy_8 : decode cX10_deedBy 8 = .ok (.idiv, 1) := by decide +kernel
theorem dX10_deedBy_9 : decode cX10_deedBy 9 = .ok (.bipush 8, 2) := by decide +kernel
theorem dX10_deedBy_11 : decode cX10_deedBy 11 = .ok (.irem, 1) := by decide +kernel
theorem dX10_deedBy_12 : decode cX10_deedBy 12 = .ok (.tableswitch 104 4 7 #[32, 46, 61, 84], 32) := by decide +kernel
theorem dX10_deedBy_44 : decode cX10_deedBy 44 = .ok (.aload_n 0, 1) := by decide +kernel
theorem dX10_deedBy_45 : decode cX10_deedBy 45 = .ok (.iload_n 1, 1) := by decide +kernel
theorem dX10_deedBy_46 : decode cX10_deedBy 46 = .ok (.iload_n 3, 1) := by decide +kernel
theorem dX10_deedBy_47 : decode cX10_deedBy 47 = .ok (.bipush 9, 2) := by decide +kernel
theorem dX10_deedBy_49 : decode cX10_deedBy 49 = .ok (.irem, 1) := by decide +kernel
theorem dX10_deedBy_50 : decode cX10_deedBy 50 = .ok (.iconst 1, 1) := by decide +kernel
theorem dX10_deedBy_51 : decode cX10_deedBy 51 = .ok (.iadd, 1) := by decide +kernel
theorem dX10_deedBy_52 : decode cX10_deedBy 52 = .ok (.invokevirtual 177, 3) := by decide +kernel
theorem dX10_deedBy_55 : decode cX10_deedBy 55 = .ok (.goto 68, 3) := by decide +kernel
theorem dX10_deedBy_58 : decode cX10_deedBy 58 = .ok (.aload_n 0, 1) := by decide +kernel
theorem dX10_deedBy_59 : decode cX10_deedBy 59 = .ok (.getfield 7, 3) := by decide +kernel
theorem dX10_deedBy_62 : decode cX10_deedBy 62 = .ok (.iload_n 1, 1) := by decide +kernel
theorem dX10_deedBy_63 : decode cX10_deedBy 63 = .ok (.bipush 14, 2) := by decide +kernel
theorem dX10_deedBy_65 : decode cX10_deedBy 65 = .ok (.iadd, 1) := by decide +kernel
theorem dX10_deedBy_66 : decode cX10_deedBy 66 = .ok (.iload_n 3, 1) := by decide +kernel
theorem dX10_deedBy_67 : decode cX10_deedBy 67 = .ok (.iconst 3, 1) := by decide +kernel
theorem dX10_deedBy_68 : decode cX10_deedBy 68 = .ok (.irem, 1) := by decide +kernel
theorem dX10_deedBy_69 : decode cX10_deedBy 69 = .ok (.iastore, 1) := by decide +kernel
theorem dX10_deedBy_70 : decode cX10_deedBy 70 = .ok (.goto 53, 3) := by decide +kernel
theorem dX10_deedBy_73 : decode cX10_deedBy 73 = .ok (.aload_n 0, 1) := by decide +kernel
theorem dX10_deedBy_74 : decode cX10_deedBy 74 = .ok (.getfield 7, 3) := by decide +kernel
theorem dX10_deedBy_77 : decode cX10_deedBy 77 = .ok (.iload_n 1, 1) := by decide +kernel
theorem dX10_deedBy_78 : decode cX10_deedBy 78 = .ok (.bipush 15, 2) := by decide +kernel
theorem dX10_deedBy_80 : decode cX10_deedBy 80 = .ok (.iadd, 1) := by decide +kernel
theorem dX10_deedBy_81 : decode cX10_deedBy 81 = .ok (.iconst 1, 1) := by decide +kernel
theorem dX10_deedBy_82 : decode cX10_deedBy 82 = .ok (.aload_n 0, 1) := by decide +kernel
theorem dX10_deedBy_83 : decode cX10_deedBy 83 = .ok (.getfield 7, 3) := by decide +kernel
theorem dX10_deedBy_86 : decode cX10_deedBy 86 = .ok (.iload_n 1, 1) := by decide +kernel
theorem dX10_deedBy_87 : decode cX10_deedBy 87 = .ok (.bipush 15, 2) := by decide +kernel
theorem dX10_deedBy_89 : decode cX10_deedBy 89 = .ok (.iadd, 1) := by decide +kernel
theorem dX10_deedBy_90 : decode cX10_deedBy 90 = .ok (.iaload, 1) := by decide +kernel
theorem dX10_deedBy_91 : decode cX10_deedBy 91 = .ok (.isub, 1) := by decide +kernel
theorem dX10_deedBy_92 : decode cX10_deedBy 92 = .ok (.iastore, 1) := by decide +kernel
theorem dX10_deedBy_93 : decode cX10_deedBy 93 = .ok (.goto 30, 3) := by decide +kernel
theorem dX10_deedBy_96 : decode cX10_deedBy 96 = .ok (.aload_n 0, 1) := by decide +kernel
theorem dX10_deedBy_97 : decode cX10_deedBy 97 = .ok (.getfield 7, 3) := by decide +kernel
theorem dX10_deedBy_100 : decode cX10_deedBy 100 = .ok (.iload_n 1, 1) := by decide +kernel
theorem dX10_deedBy_101 : decode cX10_deedBy 101 = .ok (.iload_n 2, 1) := by decide +kernel
theorem dX10_deedBy_102 : decode cX10_deedBy 102 = .ok (.aload_n 0, 1) := by decide +kernel
theorem dX10_deedBy_103 : decode cX10_deedBy 103 = .ok (.getfield 120, 3) := by decide +kernel
theorem dX10_deedBy_106 : decode cX10_deedBy 106 = .ok (.irem, 1) := by decide +kernel
theorem dX10_deedBy_107 : decode cX10_deedBy 107 = .ok (.iadd, 1) := by decide +kernel
theorem dX10_deedBy_108 : decode cX10_deedBy 108 = .ok (.iload_n 3, 1) := by decide +kernel
theorem dX10_deedBy_109 : decode cX10_deedBy 109 = .ok (.bipush 10, 2) := by decide +kernel
theorem dX10_deedBy_111 : decode cX10_deedBy 111 = .ok (.irem, 1) := by decide +kernel
theorem dX10_deedBy_112 : decode cX10_deedBy 112 = .ok (.iastore, 1) := by decide +kernel
theorem dX10_deedBy_113 : decode cX10_deedBy 113 = .ok (.goto 10, 3) := by decide +kernel
theorem dX10_deedBy_116 : decode cX10_deedBy 116 = .ok (.aload_n 0, 1) := by decide +kernel
theorem dX10_deedBy_117 : decode cX10_deedBy 117 = .ok (.iload_n 1, 1) := by decide +kernel
theorem dX10_deedBy_118 : decode cX10_deedBy 118 = .ok (.invokevirtual 174, 3) := by decide +kernel
theorem dX10_deedBy_121 : decode cX10_deedBy 121 = .ok (.istore 4, 2) := by decide +kernel
theorem dX10_deedBy_123 : decode cX10_deedBy 123 = .ok (.return_, 1) := by decide +kernel
theorem dX10_lots_0 : decode cX10_lots 0 = .ok (.iload_n 1, 1) := by decide +kernel
theorem dX10_lots_1 : decode cX10_lots 1 = .ok (.iconst 1, 1) := by decide +kernel
theorem dX10_lots_2 : decode cX10_lots 2 = .ok (.bipush 20, 2) := by decide +kernel
theorem dX10_lots_4 : decode cX10_lots 4 = .ok (.invokestatic 63, 3) := by decide +kernel
theorem dX10_lots_7 : decode cX10_lots 7 = .ok (.ifCond .eq 13, 3) := by decide +kernel
theorem dX10_lots_10 : decode cX10_lots 10 = .ok (.iload_n 2, 1) := by decide +kernel
theorem dX10_lots_11 : decode cX10_lots 11 = .ok (.iconst 1, 1) := by decide +kernel
theorem dX10_lots_12 : decode cX10_lots 12 = .ok (.ldc 228, 2) := by decide +kernel
theorem dX10_lots_14 : decode cX10_lots 14 = .ok (.invokestatic 63, 3) := by decide +kernel
theorem dX10_lots_17 : decode cX10_lots 17 = .ok (.ifCond .ne 5, 3) := by decide +kernel
theorem dX10_lots_20 : decode cX10_lots 20 = .ok (.iconst (-1), 1) := by decide +kernel
theorem dX10_lots_21 : decode cX10_lots 21 = .ok (.ireturn, 1) := by decide +kernel
theorem dX10_lots_22 : decode cX10_lots 22 = .ok (.aload_n 0, 1) := by decide +kernel
theorem dX10_lots_23 : decode cX10_lots 23 = .ok (.getfield 120, 3) := by decide +kernel
theorem dX10_lots_26 : decode cX10_lots 26 = .ok (.ifCond .ne 6, 3) := by decide +kernel
theorem dX10_lots_29 : decode cX10_lots 29 = .ok (.bipush (-4), 2) := by decide +kernel
theorem dX10_lots_31 : decode cX10_lots 31 = .ok (.ireturn, 1) := by decide +kernel
theorem dX10_lots_32 : decode cX10_lots 32 = .ok (.aload_n 0, 1) := by decide +kernel
theorem dX10_lots_33 : decode cX10_lots 33 = .ok (.getfield 129, 3) := by decide +kernel
theorem dX10_lots_36 : decode cX10_lots 36 = .ok (.iload_n 1, 1) := by decide +kernel
theorem dX10_lots_37 : decode cX10_lots 37 = .ok (.iadd, 1) := by decide +kernel
theorem dX10_lots_38 : decode cX10_lots 38 = .ok (.bipush 40, 2) := by decide +kernel
theorem dX10_lots_40 : decode cX10_lots 40 = .ok (.if_icmp .le 6, 3) := by decide +kernel
theorem dX10_lots_43 : decode cX10_lots 43 = .ok (.bipush (-2), 2) := by decide +kernel
theorem dX10_lots_45 : decode cX10_lots 45 = .ok (.ireturn, 1) := by decide +kernel
theorem dX10_lots_46 : decode cX10_lots 46 = .ok (.iload_n 2, 1) := by decide +kernel
theorem dX10_lots_47 : decode cX10_lots 47 = .ok (.i2l, 1) := by decide +kernel
theorem dX10_lots_48 : decode cX10_lots 48 = .ok (.lstore_n 3, 1) := by decide +kernel
theorem dX10_lots_49 : decode cX10_lots 49 = .ok (.iconst 0, 1) := by decide +kernel
theorem dX10_lots_50 : decode cX10_lots 50 = .ok (.istore 5, 2) := by decide +kernel
theorem dX10_lots_52 : decode cX10_lots 52 = .ok (.iload 5, 2) := by decide +kernel
theorem dX10_lots_54 : decode cX10_lots 54 = .ok (.iload_n 1, 1) := by decide +kernel
theorem dX10_lots_55 : decode cX10_lots 55 = .ok (.if_icmp .ge 29, 3) := by decide +kernel
theorem dX10_lots_58 : decode cX10_lots 58 = .ok (.lload_n 3, 1) := by decide +kernel
theorem dX10_lots_59 : decode cX10_lots 59 = .ok (.ldc2_w 229, 3) := by decide +kernel
theorem dX10_lots_62 : decode cX10_lots 62 = .ok (.lmul, 1) := by decide +kernel
theorem dX10_lots_63 : decode cX10_lots 63 = .ok (.ldc2_w 231, 3) := by decide +kernel
theorem dX10_lots_66 : decode cX10_lots 66 = .ok (.lrem, 1) := by decide +kernel
theorem dX10_lots_67 : decode cX10_lots 67 = .ok (.lstore_n 3, 1) := by decide +kernel
theorem dX10_lots_68 : decode cX10_lots 68 = .ok (.aload_n 0, 1) := by decide +kernel
theorem dX10_lots_69 : decode cX10_lots 69 = .ok (.aload_n 0, 1) := by decide +kernel
theorem dX10_lots_70 : decode cX10_lots 70 = .ok (.invokevirtual 171, 3) := by decide +kernel
theorem dX10_lots_73 : decode cX10_lots 73 = .ok (.lload_n 3, 1) := by decide +kernel
theorem dX10_lots_74 : decode cX10_lots 74 = .ok (.l2i, 1) := by decide +kernel
theorem dX10_lots_75 : decode cX10_lots 75 = .ok (.invokevirtual 233, 3) := by decide +kernel
theorem dX10_lots_78 : decode cX10_lots 78 = .ok (.iinc 5 1, 3) := by decide +kernel
theorem dX10_lots_81 : decode cX10_lots 81 = .ok (.goto (-29), 3) := by decide +kernel
theorem dX10_lots_84 : decode cX10_lots 84 = .ok (.aload_n 0, 1) := by decide +kernel
theorem dX10_lots_85 : decode cX10_lots 85 = .ok (.aload_n 0, 1) := by decide +kernel
theorem dX10_lots_86 : decode cX10_lots 86 = .ok (.invokevirtual 145, 3) := by decide +kernel
theorem dX10_lots_89 : decode cX10_lots 89 = .ok (.invokevirtual 161, 3) := by decide +kernel
theorem dX10_lots_92 : decode cX10_lots 92 = .ok (.ireturn, 1) := by decide +kernel
theorem dX10_asked_0 : decode cX10_asked 0 = .ok (.aload_n 0, 1) := by decide +kernel
theorem dX10_asked_1 : decode cX10_asked 1 = .ok (.getfield 60, 3) := by decide +kernel
theorem dX10_asked_4 : decode cX10_asked 4 = .ok (.ireturn, 1) := by decide +kernel
theorem dX10_upper_0 : decode cX10_upper 0 = .ok (.aload_n 0, 1) := by decide +kernel
theorem dX10_upper_1 : decode cX10_upper 1 = .ok (.getfield 208, 3) := by decide +kernel
theorem dX10_upper_4 : decode cX10_upper 4 = .ok (.lreturn, 1) := by decide +kernel
theorem dX10_lower_0 : decode cX10_lower 0 = .ok (.aload_n 0, 1) := by decide +kernel
theorem dX10_lower_1 : decode cX10_lower 1 = .ok (.getfield 34, 3) := by decide +kernel
theorem dX10_lower_4 : decode cX10_lower 4 = .ok (.lreturn, 1) := by decide +kernel
theorem dX10_manyOf_0 : decode cX10_manyOf 0 = .ok (.iconst 0, 1) := by decide +kernel
theorem dX10_manyOf_1 : decode cX10_manyOf 1 = .ok (.istore_n 2, 1) := by decide +kernel
theorem dX10_manyOf_2 : decode cX10_manyOf 2 = .ok (.iconst 0, 1) := by decide +kernel
theorem dX10_manyOf_3 : decode cX10_manyOf 3 = .ok (.istore_n 3, 1) := by decide +kernel
theorem dX10_manyOf_4 : decode cX10_manyOf 4 = .ok (.iload_n 3, 1) := by decide +kernel
theorem dX10_manyOf_5 : decode cX10_manyOf 5 = .ok (.aload_n 0, 1) := by decide +kernel
theorem dX10_manyOf_6 : decode cX10_manyOf 6 = .ok (.getfield 120, 3) := by decide +kernel
theorem dX10_manyOf_9 : decode cX10_manyOf 9 = .ok (.if_icmp .ge 30, 3) := by decide +kernel
theorem dX10_manyOf_12 : decode cX10_manyOf 12 = .ok (.iload_n 2, 1) := by decide +kernel
theorem dX10_manyOf_13 : decode cX10_manyOf 13 = .ok (.aload_n 0, 1) := by decide +kernel
theorem dX10_manyOf_14 : decode cX10_manyOf 14 = .ok (.getfield 13, 3) := by decide +kernel
theorem dX10_manyOf_17 : decode cX10_manyOf 17 = .ok (.iload_n 3, 1) := by decide +kernel
theorem dX10_manyOf_18 : decode cX10_manyOf 18 = .ok (.iaload, 1) := by decide +kernel
theorem dX10_manyOf_19 : decode cX10_manyOf 19 = .ok (.iload_n 1, 1) := by decide +kernel
theorem dX10_manyOf_20 : decode cX10_manyOf 20 = .ok (.invokestatic 158, 3) := by decide +kernel
theorem dX10_manyOf_23 : decode cX10_manyOf 23 = .ok (.ifCond .eq 7, 3) := by decide +kernel
theorem dX10_manyOf_26 : decode cX10_manyOf 26 = .ok (.iconst 1, 1) := by decide +kernel
theorem dX10_manyOf_27 : decode cX10_manyOf 27 = .ok (.goto 4, 3) := by decide +kernel
theorem dX10_manyOf_30 : decode cX10_manyOf 30 = .ok (.iconst 0, 1) := by decide +kernel
theorem dX10_manyOf_31 : decode cX10_manyOf 31 = .ok (.iadd, 1) := by decide +kernel
theorem dX10_manyOf_32 : decode cX10_manyOf 32 = .ok (.istore_n 2, 1) := by decide +kernel
theorem dX10_manyOf_33 : decode cX10_manyOf 33 = .ok (.iinc 3 1, 3) := by decide +kernel
theorem dX10_manyOf_36 : decode cX10_manyOf 36 = .ok (.goto (-32), 3) := by decide +kernel
theorem dX10_manyOf_39 : decode cX10_manyOf 39 = .ok (.iload_n 2, 1) := by decide +kernel
theorem dX10_manyOf_40 : decode cX10_manyOf 40 = .ok (.ireturn, 1) := by decide +kernel
theorem dX10_rowsThere_0 : decode cX10_rowsThere 0 = .ok (.iconst 0, 1) := by decide +kernel
theorem dX10_rowsThere_1 : decode cX10_rowsThere 1 = .ok (.istore_n 1, 1) := by decide +kernel
theorem dX10_rowsThere_2 : decode cX10_rowsThere 2 = .ok (.iconst 0, 1) := by decide +kernel
theorem dX10_rowsThere_3 : decode cX10_rowsThere 3 = .ok (.istore_n 2, 1) := by decide +kernel
theorem dX10_rowsThere_4 : decode cX10_rowsThere 4 = .ok (.iload_n 2, 1) := by decide +kernel
theorem dX10_rowsThere_5 : decode cX10_rowsThere 5 = .ok (.bipush 6, 2) := by decide +kernel
theorem dX10_rowsThere_7 : decode cX10_rowsThere 7 = .ok (.if_icmp .ge 28, 3) := by decide +kernel
theorem dX10_rowsThere_10 : decode cX10_rowsThere 10 = .ok (.iload_n 1, 1) := by decide +kernel
theorem dX10_rowsThere_11 : decode cX10_rowsThere 11 = .ok (.aload_n 0, 1) := by decide +kernel
theorem dX10_rowsThere_12 : decode cX10_rowsThere 12 = .ok (.getfield 22, 3) := by decide +kernel
theorem dX10_rowsThere_15 : decode cX10_rowsThere 15 = .ok (.iload_n 2, 1) := by decide +kernel
theorem dX10_rowsThere_16 : decode cX10_rowsThere 16 = .ok (.iaload, 1) := by decide +kernel
theorem dX10_rowsThere_17 : decode cX10_rowsThere 17 = .ok (.bipush (-9), 2) := by decide +kernel
theorem dX10_rowsThere_19 : decode cX10_rowsThere 19 = .ok (.if_icmp .ne 7, 3) := by decide +kernel
theorem dX10_rowsThere_22 : decode cX10_rowsThere 22 = .ok (.iconst 0, 1) := by decide +kernel
theorem dX10_rowsThere_23 : decode cX10_rowsThere 23 = .ok (.goto 4, 3) := by decide +kernel
theorem dX10_rowsThere_26 : decode cX10_rowsThere 26 = .ok (.iconst 1, 1) := by decide +kernel
theorem dX10_rowsThere_27 : decode cX10_rowsThere 27 = .ok (.iadd, 1) := by decide +kernel
theorem dX10_rowsThere_28 : decode cX10_rowsThere 28 = .ok (.istore_n 1, 1) := by decide +kernel
theorem dX10_rowsThere_29 : decode cX10_rowsThere 29 = .ok (.iinc 2 1, 3) := by decide +kernel
theorem dX10_rowsThere_32 : decode cX10_rowsThere 32 = .ok (.goto (-28), 3) := by decide +kernel
theorem dX10_rowsThere_35 : decode cX10_rowsThere 35 = .ok (.iload_n 1, 1) := by decide +kernel
theorem dX10_rowsThere_36 : decode cX10_rowsThere 36 = .ok (.ireturn, 1) := by decide +kernel
theorem dX10_textsThere_0 : decode cX10_textsThere 0 = .ok (.iconst 0, 1) := by decide +kernel
theorem dX10_textsThere_1 : decode cX10_textsThere 1 = .ok (.istore_n 1, 1) := by decide +kernel
theorem dX10_textsThere_2 : decode cX10_textsThere 2 = .ok (.iconst 0, 1) := by decide +kernel
theorem dX10_textsThere_3 : decode cX10_textsThere 3 = .ok (.istore_n 2, 1) := by decide +kernel
theorem dX10_textsThere_4 : decode cX10_textsThere 4 = .ok (.iload_n 2, 1) := by decide +kernel
theorem dX10_textsThere_5 : decode cX10_textsThere 5 = .ok (.iconst 4, 1) := by decide +kernel
theorem dX10_textsThere_6 : decode cX10_textsThere 6 = .ok (.if_icmp .ge 28, 3) := by decide +kernel
theorem dX10_textsThere_9 : decode cX10_textsThere 9 = .ok (.iload_n 1, 1) := by decide +kernel
theorem dX10_textsThere_10 : decode cX10_textsThere 10 = .ok (.aload_n 0, 1) := by decide +kernel
theorem dX10_textsThere_11 : decode cX10_textsThere 11 = .ok (.getfield 28, 3) := by decide +kernel
theorem dX10_textsThere_14 : decode cX10_textsThere 14 = .ok (.iload_n 2, 1) := by decide +kernel
theorem dX10_textsThere_15 : decode cX10_textsThere 15 = .ok (.iaload, 1) := by decide +kernel
theorem dX10_textsThere_16 : decode cX10_textsThere 16 = .ok (.bipush (-9), 2) := by decide +kernel
theorem dX10_textsThere_18 : decode cX10_textsThere 18 = .ok (.if_icmp .ne 7, 3) := by decide +kernel
theorem dX10_textsThere_21 : decode cX10_textsThere 21 = .ok (.iconst 0, 1) := by decide +kernel
theorem dX10_textsThere_22 : decode cX10_textsThere 22 = .ok (.goto 4, 3) := by decide +kernel
theorem dX10_textsThere_25 : decode cX10_textsThere 25 = .ok (.iconst 1, 1) := by decide +kernel
theorem dX10_textsThere_26 : decode cX10_textsThere 26 = .ok (.iadd, 1) := by decide +kernel
theorem dX10_textsThere_27 : decode cX10_textsThere 27 = .ok (.istore_n 1, 1) := by decide +kernel
theorem dX10_textsThere_28 : decode cX10_textsThere 28 = .ok (.iinc 2 1, 3) := by decide +kernel
theorem dX10_textsThere_31 : decode cX10_textsThere 31 = .ok (.goto (-27), 3) := by decide +kernel
theorem dX10_textsThere_34 : decode cX10_textsThere 34 = .ok (.iload_n 1, 1) := by decide +kernel
theorem dX10_textsThere_35 : decode cX10_textsThere 35 = .ok (.ireturn, 1) := by decide +kernel
theorem dX10_frontsThere_0 : decode cX10_frontsThere 0 = .ok (.iconst 0, 1) := by decide +kernel
theorem dX10_frontsThere_1 : decode cX10_frontsThere 1 = .ok (.istore_n 1, 1) := by decide +kernel
theorem dX10_frontsThere_2 : decode cX10_frontsThere 2 = .ok (.iconst 0, 1) := by decide +kernel
theorem dX10_frontsThere_3 : decode cX10_frontsThere 3 = .ok (.istore_n 2, 1) := by decide +kernel
theorem dX10_frontsThere_4 : decode cX10_frontsThere 4 = .ok (.iload_n 2, 1) := by decide +kernel
theorem dX10_frontsThere_5 : decode cX10_frontsThere 5 = .ok (.iconst 3, 1) := by decide +kernel
theorem dX10_frontsThere_6 : decode cX10_frontsThere 6 = .ok (.if_icmp .ge 28, 3) := by decide +kernel
theorem dX10_frontsThere_9 : decode cX10_frontsThere 9 = .ok (.iload_n 1, 1) := by decide +kernel
theorem dX10_frontsThere_10 : decode cX10_frontsThere 10 = .ok (.aload_n 0, 1) := by decide +kernel
theorem dX10_frontsThere_11 : decode cX10_frontsThere 11 = .ok (.getfield 16, 3) := by decide +kernel
theorem dX10_frontsThere_14 : decode cX10_frontsThere 14 = .ok (.iload_n 2, 1) := by decide +kernel
theorem dX10_frontsThere_15 : decode cX10_frontsThere 15 = .ok (.iaload, 1) := by decide +kernel
theorem dX10_frontsThere_16 : decode cX10_frontsThere 16 = .ok (.bipush (-9), 2) := by decide +kernel
theorem dX10_frontsThere_18 : decode cX10_frontsThere 18 = .ok (.if_icmp .ne 7, 3) := by decide +kernel
theorem dX10_frontsThere_21 : decode cX10_frontsThere 21 = .ok (.iconst 0, 1) := by decide +kernel
theorem dX10_frontsThere_22 : decode cX10_frontsThere 22 = .ok (.goto 4, 3) := by decide +kernel
theorem dX10_frontsThere_25 : decode cX10_frontsThere 25 = .ok (.iconst 1, 1) := by decide +kernel
theorem dX10_frontsThere_26 : decode cX10_frontsThere 26 = .ok (.iadd, 1) := by decide +kernel
theorem dX10_frontsThere_27 : decode cX10_frontsThere 27 = .ok (.istore_n 1, 1) := by decide +kernel
theorem dX10_frontsThere_28 : decode cX10_frontsThere 28 = .ok (.iinc 2 1, 3) := by decide +kernel
theorem dX10_frontsThere_31 : decode cX10_frontsThere 31 = .ok (.goto (-27), 3) := by decide +kernel
theorem dX10_frontsThere_34 : decode cX10_frontsThere 34 = .ok (.iload_n 1, 1) := by decide +kernel
theorem dX10_frontsThere_35 : decode cX10_frontsThere 35 = .ok (.ireturn, 1) := by decide +kernel
theorem dX10_count_0 : decode cX10_count 0 = .ok (.iload_n 1, 1) := by decide +kernel
theorem dX10_count_1 : decode cX10_count 1 = .ok (.tableswitch 196 0 14 #[75, 80, 93, 106, 119, 132, 145, 150, 155, 160, 169, 175, 181, 186, 191], 75) := by decide +kernel
theorem dX10_count_76 : decode cX10_count 76 = .ok (.aload_n 0, 1) := by decide +kernel
theorem dX10_count_77 : decode cX10_count 77 = .ok (.getfield 120, 3) := by decide +kernel
theorem dX10_count_80 : decode cX10_count 80 = .ok (.ireturn, 1) := by decide +kernel
theorem dX10_count_81 : decode cX10_count 81 = .ok (.aload_n 0, 1) := by decide +kernel
theorem dX10_count_82 : decode cX10_count 82 = .ok (.getfield 7, 3) := by decide +kernel
theorem dX10_count_85 : decode cX10_count 85 = .ok (.aload_n 0, 1) := by decide +kernel
theorem dX10_count_86 : decode cX10_count 86 = .ok (.invokevirtual 145, 3) := by decide +kernel
theorem dX10_count_89 : decode cX10_count 89 = .ok (.bipush 12, 2) := by decide +kernel
theorem dX10_count_91 : decode cX10_count 91 = .ok (.iadd, 1) := by decide +kernel
theorem dX10_count_92 : decode cX10_count 92 = .ok (.iaload, 1) := by decide +kernel
theorem dX10_count_93 : decode cX10_count 93 = .ok (.ireturn, 1) := by decide +kernel
theorem dX10_count_94 : decode cX10_count 94 = .ok (.aload_n 0, 1) := by decide +kernel
theorem dX10_count_95 : decode cX10_count 95 = .ok (.getfield 7, 3) := by decide +kernel
theorem dX10_count_98 : decode cX10_count 98 = .ok (.aload_n 0, 1) := by decide +kernel
theorem dX10_count_99 : decode cX10_count 99 = .ok (.invokevirtual 145, 3) := by decide +kernel
theorem dX10_count_102 : decode cX10_count 102 = .ok (.bipush 13, 2) := by decide +kernel
theorem dX10_count_104 : decode cX10_count 104 = .ok (.iadd, 1) := by decide +kernel
theorem dX10_count_105 : decode cX10_count 105 = .ok (.iaload, 1) := by decide +kernel
theorem dX10_count_106 : decode cX10_count 106 = .ok (.ireturn, 1) := by decide +kernel
theorem dX10_count_107 : decode cX10_count 107 = .ok (.aload_n 0, 1) := by decide +kernel
theorem dX10_count_108 : decode cX10_count 108 = .ok (.getfield 7, 3) := by decide +kernel
theorem dX10_count_111 : decode cX10_count 111 = .ok (.aload_n 0, 1) := by decide +kernel
theorem dX10_count_112 : decode cX10_count 112 = .ok (.invokevirtual 145, 3) := by decide +kernel
theorem dX10_count_115 : decode cX10_count 115 = .ok (.bipush 14, 2) := by decide +kernel
theorem dX10_count_117 : decode cX10_count 117 = .ok (.iadd, 1) := by decide +kernel
theorem dX10_count_118 : decode cX10_count 118 = .ok (.iaload, 1) := by decide +kernel
theorem dX10_count_119 : decode cX10_count 119 = .ok (.ireturn, 1) := by decide +kernel
theorem dX10_count_120 : decode cX10_count 120 = .ok (.aload_n 0, 1) := by decide +kernel
theorem dX10_count_121 : decode cX10_count 121 = .ok (.getfield 7, 3) := by decide +kernel
theorem dX10_count_124 : decode cX10_count 124 = .ok (.aload_n 0, 1) := by decide +kernel
theorem dX10_count_125 : decode cX10_count 125 = .ok (.invokevirtual 145, 3) := by decide +kernel
theorem dX10_count_128 : decode cX10_count 128 = .ok (.bipush 15, 2) := by decide +kernel
theorem dX10_count_130 : decode cX10_count 130 = .ok (.iadd, 1) := by decide +kernel
theorem dX10_count_131 : decode cX10_count 131 = .ok (.iaload, 1) := by decide +kernel
theorem dX10_count_132 : decode cX10_count 132 = .ok (.ireturn, 1) := by decide +kernel
theorem dX10_count_133 : decode cX10_count 133 = .ok (.aload_n 0, 1) := by decide +kernel
theorem dX10_count_134 : decode cX10_count 134 = .ok (.getfield 7, 3) := by decide +kernel
theorem dX10_count_137 : decode cX10_count 137 = .ok (.aload_n 0, 1) := by decide +kernel
theorem dX10_count_138 : decode cX10_count 138 = .ok (.invokevirtual 145, 3) := by decide +kernel
theorem dX10_count_141 : decode cX10_count 141 = .ok (.bipush 16, 2) := by decide +kernel
theorem dX10_count_143 : decode cX10_count 143 = .ok (.iadd, 1) := by decide +kernel
theorem dX10_count_144 : decode cX10_count 144 = .ok (.iaload, 1) := by decide +kernel
theorem dX10_count_145 : decode cX10_count 145 = .ok (.ireturn, 1) := by decide +kernel
theorem dX10_count_146 : decode cX10_count 146 = .ok (.aload_n 0, 1) := by decide +kernel
theorem dX10_count_147 : decode cX10_count 147 = .ok (.getfield 129, 3) := by decide +kernel
theorem dX10_count_150 : decode cX10_count 150 = .ok (.ireturn, 1) := by decide +kernel
theorem dX10_count_151 : decode cX10_count 151 = .ok (.aload_n 0, 1) := by decide +kernel
theorem dX10_count_152 : decode cX10_count 152 = .ok (.getfield 123, 3) := by decide +kernel
theorem dX10_count_155 : decode cX10_count 155 = .ok (.ireturn, 1) := by decide +kernel
theorem dX10_count_156 : decode cX10_count 156 = .ok (.aload_n 0, 1) := by decide +kernel
theorem dX10_count_157 : decode cX10_count 157 = .ok (.getfield 126, 3) := by decide +kernel
theorem dX10_count_160 : decode cX10_count 160 = .ok (.ireturn, 1) := by decide +kernel
theorem dX10_count_161 : decode cX10_count 161 = .ok (.aload_n 0, 1) := by decide +kernel
theorem dX10_count_162 : decode cX10_count 162 = .ok (.aload_n 0, 1) := by decide +kernel
theorem dX10_count_163 : decode cX10_count 163 = .ok (.invokevirtual 145, 3) := by decide +kernel
theorem dX10_count_166 : decode cX10_count 166 = .ok (.invokevirtual 161, 3) := by decide +kernel
theorem dX10_count_169 : decode cX10_count 169 = .ok (.ireturn, 1) := by decide +kernel
theorem dX10_count_170 : decode cX10_count 170 = .ok (.aload_n 0, 1) := by decide +kernel
theorem dX10_count_171 : decode cX10_count 171 = .ok (.iconst 1, 1) := by decide +kernel
theorem dX10_count_172 : decode cX10_count 172 = .ok (.invokevirtual 236, 3) := by decide +kernel
theorem dX10_count_175 : decode cX10_count 175 = .ok (.ireturn, 1) := by decide +kernel
theorem dX10_count_176 : decode cX10_count 176 = .ok (.aload_n 0, 1) := by decide +kernel
theorem dX10_count_177 : decode cX10_count 177 = .ok (.iconst 3, 1) := by decide +kernel
theorem dX10_count_178 : decode cX10_count 178 = .ok (.invokevirtual 236, 3) := by decide +kernel
theorem dX10_count_181 : decode cX10_count 181 = .ok (.ireturn, 1) := by decide +kernel
theorem dX10_count_182 : decode cX10_count 182 = .ok (.aload_n 0, 1) := by decide +kernel
theorem dX10_count_183 : decode cX10_count 183 = .ok (.invokevirtual 239, 3) := by decide +kernel
theorem dX10_count_186 : decode cX10_count 186 = .ok (.ireturn, 1) := by decide +kernel
theorem dX10_count_187 : decode cX10_count 187 = .ok (.aload_n 0, 1) := by decide +kernel
theorem dX10_count_188 : decode cX10_count 188 = .ok (.invokevirtual 242, 3) := by decide +kernel
theorem dX10_count_191 : decode cX10_count 191 = .ok (.ireturn, 1) := by decide +kernel
theorem dX10_count_192 : decode cX10_count 192 = .ok (.aload_n 0, 1) := by decide +kernel
theorem dX10_count_193 : decode cX10_count 193 = .ok (.invokevirtual 245, 3) := by decide +kernel
theorem dX10_count_196 : decode cX10_count 196 = .ok (.ireturn, 1) := by decide +kernel
theorem dX10_count_197 : decode cX10_count 197 = .ok (.iconst (-1), 1) := by decide +kernel
theorem dX10_count_198 : decode cX10_count 198 = .ok (.ireturn, 1) := by decide +kernel
theorem dX10_finding_0 : decode cX10_finding 0 = .ok (.aload_n 0, 1) := by decide +kernel
theorem dX10_finding_1 : decode cX10_finding 1 = .ok (.getfield 56, 3) := by decide +kernel
theorem dX10_finding_4 : decode cX10_finding 4 = .ok (.ireturn, 1) := by decide +kernel
theorem dX10_findings_0 : decode cX10_findings 0 = .ok (.iload_n 1, 1) := by decide +kernel
theorem dX10_findings_1 : decode cX10_findings 1 = .ok (.iconst 1, 1) := by decide +kernel
theorem dX10_findings_2 : decode cX10_findings 2 = .ok (.iconst 5, 1) := by decide +kernel
theorem dX10_findings_3 : decode cX10_findings 3 = .ok (.invokestatic 63, 3) := by decide +kernel
theorem dX10_findings_6 : decode cX10_findings 6 = .ok (.ifCond .eq 12, 3) := by decide +kernel
theorem dX10_findings_9 : decode cX10_findings 9 = .ok (.aload_n 0, 1) := by decide +kernel
theorem dX10_findings_10 : decode cX10_findings 10 = .ok (.getfield 31, 3) := by decide +kernel
theorem dX10_findings_13 : decode cX10_findings 13 = .ok (.iload_n 1, 1) := by decide +kernel
theorem dX10_findings_14 : decode cX10_findings 14 = .ok (.iaload, 1) := by decide +kernel
theorem dX10_findings_15 : decode cX10_findings 15 = .ok (.goto 4, 3) := by decide +kernel
theorem dX10_findings_18 : decode cX10_findings 18 = .ok (.iconst (-1), 1) := by decide +kernel
theorem dX10_findings_19 : decode cX10_findings 19 = .ok (.ireturn, 1) := by decide +kernel
theorem dX10_more_0 : decode cX10_more 0 = .ok (.ldc2_w 248, 3) := by decide +kernel
theorem dX10_more_3 : decode cX10_more 3 = .ok (.lload_n 0, 1) := by decide +kernel
theorem dX10_more_4 : decode cX10_more 4 = .ok (.lmul, 1) := by decide +kernel
theorem dX10_more_5 : decode cX10_more 5 = .ok (.iload_n 2, 1) := by decide +kernel
theorem dX10_more_6 : decode cX10_more 6 = .ok (.i2l, 1) := by decide +kernel
theorem dX10_more_7 : decode cX10_more 7 = .ok (.ladd, 1) := by decide +kernel
theorem dX10_more_8 : decode cX10_more 8 = .ok (.lreturn, 1) := by decide +kernel
theorem dX10_digest_0 : decode cX10_digest 0 = .ok (.ldc2_w 250, 3) := by decide +kernel
theorem dX10_digest_3 : decode cX10_digest 3 = .ok (.lstore_n 1, 1) := by decide +kernel
theorem dX10_digest_4 : decode cX10_digest 4 = .ok (.iconst 0, 1) := by decide +kernel
theorem dX10_digest_5 : decode cX10_digest 5 = .ok (.istore_n 3, 1) := by decide +kernel
theorem dX10_digest_6 : decode cX10_digest 6 = .ok (.iload_n 3, 1) := by decide +kernel
theorem dX10_digest_7 : decode cX10_digest 7 = .ok (.bipush 15, 2) := by decide +kernel
theorem dX10_digest_9 : decode cX10_digest 9 = .ok (.if_icmp .ge 19, 3) := by decide +kernel
theorem dX10_digest_12 : decode cX10_digest 12 = .ok (.lload_n 1, 1) := by decide +kernel
theorem dX10_digest_13 : decode cX10_digest 13 = .ok (.aload_n 0, 1) := by decide +kernel
theorem dX10_digest_14 : decode cX10_digest 14 = .ok (.iload_n 3, 1) := by decide +kernel
theorem dX10_digest_15 : decode cX10_digest 15 = .ok (.invokevirtual 252, 3) := by decide +kernel
theorem dX10_digest_18 : decode cX10_digest 18 = .ok (.invokestatic 255, 3) := by decide +kernel
theorem dX10_digest_21 : decode cX10_digest 21 = .ok (.lstore_n 1, 1) := by decide +kernel
theorem dX10_digest_22 : decode cX10_digest 22 = .ok (.iinc 3 1, 3) := by decide +kernel
theorem dX10_digest_25 : decode cX10_digest 25 = .ok (.goto (-19), 3) := by decide +kernel
theorem dX10_digest_28 : decode cX10_digest 28 = .ok (.iconst 0, 1) := by decide +kernel
theorem dX10_digest_29 : decode cX10_digest 29 = .ok (.istore_n 3, 1) := by decide +kernel
theorem dX10_digest_30 : decode cX10_digest 30 = .ok (.iload_n 3, 1) := by decide +kernel
theorem dX10_digest_31 : decode cX10_digest 31 = .ok (.aload_n 0, 1) := by decide +kernel
theorem dX10_digest_32 : decode cX10_digest 32 = .ok (.getfield 120, 3) := by decide +kernel
theorem dX10_digest_35 : decode cX10_digest 35 = .ok (.if_icmp .ge 36, 3) := by decide +kernel
theorem dX10_digest_38 : decode cX10_digest 38 = .ok (.iconst 0, 1) := by decide +kernel
theorem dX10_digest_39 : decode cX10_digest 39 = .ok (.istore 4, 2) := by decide +kernel
theorem dX10_digest_41 : decode cX10_digest 41 = .ok (.iload 4, 2) := by decide +kernel
theorem dX10_digest_43 : decode cX10_digest 43 = .ok (.iconst 5, 1) := by decide +kernel
theorem dX10_digest_44 : decode cX10_digest 44 = .ok (.if_icmp .ge 21, 3) := by decide +kernel
theorem dX10_digest_47 : decode cX10_digest 47 = .ok (.lload_n 1, 1) := by decide +kernel
theorem dX10_digest_48 : decode cX10_digest 48 = .ok (.aload_n 0, 1) := by decide +kernel
theorem dX10_digest_49 : decode cX10_digest 49 = .ok (.iload_n 3, 1) := by decide +kernel
theorem dX10_digest_50 : decode cX10_digest 50 = .ok (.iload 4, 2) := by decide +kernel
theorem dX10_digest_52 : decode cX10_digest 52 = .ok (.invokevirtual 155, 3) := by decide +kernel
theorem dX10_digest_55 : decode cX10_digest 55 = .ok (.invokestatic 255, 3) := by decide +kernel
theorem dX10_digest_58 : decode cX10_digest 58 = .ok (.lstore_n 1, 1) := by decide +kernel
theorem dX10_digest_59 : decode cX10_digest 59 = .ok (.iinc 4 1, 3) := by decide +kernel
theorem dX10_digest_62 : decode cX10_digest 62 = .ok (.goto (-21), 3) := by decide +kernel
theorem dX10_digest_65 : decode cX10_digest 65 = .ok (.iinc 3 1, 3) := by decide +kernel
theorem dX10_digest_68 : decode cX10_digest 68 = .ok (.goto (-38), 3) := by decide +kernel
theorem dX10_digest_71 : decode cX10_digest 71 = .ok (.iconst 0, 1) := by decide +kernel
theorem dX10_digest_72 : decode cX10_digest 72 = .ok (.istore_n 3, 1) := by decide +kernel
theorem dX10_digest_73 : decode cX10_digest 73 = .ok (.iload_n 3, 1) := by decide +kernel
theorem dX10_digest_74 : decode cX10_digest 74 = .ok (.iconst 3, 1) := by decide +kernel
theorem dX10_digest_75 : decode cX10_digest 75 = .ok (.if_icmp .ge 35, 3) := by decide +kernel
theorem dX10_digest_78 : decode cX10_digest 78 = .ok (.lload_n 1, 1) := by decide +kernel
theorem dX10_digest_79 : decode cX10_digest 79 = .ok (.aload_n 0, 1) := by decide +kernel
theorem dX10_digest_80 : decode cX10_digest 80 = .ok (.getfield 16, 3) := by decide +kernel
theorem dX10_digest_83 : decode cX10_digest 83 = .ok (.iload_n 3, 1) := by decide +kernel
theorem dX10_digest_84 : decode cX10_digest 84 = .ok (.iaload, 1) := by decide +kernel
theorem dX10_digest_85 : decode cX10_digest 85 = .ok (.bipush (-9), 2) := by decide +kernel
theorem dX10_digest_87 : decode cX10_digest 87 = .ok (.if_icmp .ne 7, 3) := by decide +kernel
theorem dX10_digest_90 : decode cX10_digest 90 = .ok (.iconst (-1), 1) := by decide +kernel
theorem dX10_digest_91 : decode cX10_digest 91 = .ok (.goto 9, 3) := by decide +kernel
theorem dX10_digest_94 : decode cX10_digest 94 = .ok (.aload_n 0, 1) := by decide +kernel
theorem dX10_digest_95 : decode cX10_digest 95 = .ok (.getfield 16, 3) := by decide +kernel
theorem dX10_digest_98 : decode cX10_digest 98 = .ok (.iload_n 3, 1) := by decide +kernel
theorem dX10_digest_99 : decode cX10_digest 99 = .ok (.iaload, 1) := by decide +kernel
theorem dX10_digest_100 : decode cX10_digest 100 = .ok (.invokestatic 255, 3) := by decide +kernel
theorem dX10_digest_103 : decode cX10_digest 103 = .ok (.lstore_n 1, 1) := by decide +kernel
theorem dX10_digest_104 : decode cX10_digest 104 = .ok (.iinc 3 1, 3) := by decide +kernel
theorem dX10_digest_107 : decode cX10_digest 107 = .ok (.goto (-34), 3) := by decide +kernel
theorem dX10_digest_110 : decode cX10_digest 110 = .ok (.iconst 0, 1) := by decide +kernel
theorem dX10_digest_111 : decode cX10_digest 111 = .ok (.istore_n 3, 1) := by decide +kernel
theorem dX10_digest_112 : decode cX10_digest 112 = .ok (.iload_n 3, 1) := by decide +kernel
theorem dX10_digest_113 : decode cX10_digest 113 = .ok (.bipush 6, 2) := by decide +kernel
theorem dX10_digest_115 : decode cX10_digest 115 = .ok (.if_icmp .ge 72, 3) := by decide +kernel
theorem dX10_digest_118 : decode cX10_digest 118 = .ok (.lload_n 1, 1) := by decide +kernel
theorem dX10_digest_119 : decode cX10_digest 119 = .ok (.aload_n 0, 1) := by decide +kernel
theorem dX10_digest_120 : decode cX10_digest 120 = .ok (.getfield 22, 3) := by decide +kernel
theorem dX10_digest_123 : decode cX10_digest 123 = .ok (.iload_n 3, 1) := by decide +kernel
theorem dX10_digest_124 : decode cX10_digest 124 = .ok (.iaload, 1) := by decide +kernel
theorem dX10_digest_125 : decode cX10_digest 125 = .ok (.bipush (-9), 2) := by decide +kernel
theorem dX10_digest_127 : decode cX10_digest 127 = .ok (.if_icmp .ne 7, 3) := by decide +kernel
theorem dX10_digest_130 : decode cX10_digest 130 = .ok (.iconst (-1), 1) := by decide +kernel
theorem dX10_digest_131 : decode cX10_digest 131 = .ok (.goto 9, 3) := by decide +kernel
theorem dX10_digest_134 : decode cX10_digest 134 = .ok (.aload_n 0, 1) := by decide +kernel
theorem dX10_digest_135 : decode cX10_digest 135 = .ok (.getfield 22, 3) := by decide +kernel
theorem dX10_digest_138 : decode cX10_digest 138 = .ok (.iload_n 3, 1) := by decide +kernel
theorem dX10_digest_139 : decode cX10_digest 139 = .ok (.iaload, 1) := by decide +kernel
theorem dX10_digest_140 : decode cX10_digest 140 = .ok (.invokestatic 255, 3) := by decide +kernel
theorem dX10_digest_143 : decode cX10_digest 143 = .ok (.lstore_n 1, 1) := by decide +kernel
theorem dX10_digest_144 : decode cX10_digest 144 = .ok (.iconst 0, 1) := by decide +kernel
theorem dX10_digest_145 : decode cX10_digest 145 = .ok (.istore 4, 2) := by decide +kernel
theorem dX10_digest_147 : decode cX10_digest 147 = .ok (.iload 4, 2) := by decide +kernel
theorem dX10_digest_149 : decode cX10_digest 149 = .ok (.aload_n 0, 1) := by decide +kernel
theorem dX10_digest_150 : decode cX10_digest 150 = .ok (.getfield 22, 3) := by decide +kernel
theorem dX10_digest_153 : decode cX10_digest 153 = .ok (.iload_n 3, 1) := by decide +kernel
theorem dX10_digest_154 : decode cX10_digest 154 = .ok (.iaload, 1) := by decide +kernel
theorem dX10_digest_155 : decode cX10_digest 155 = .ok (.if_icmp .ge 26, 3) := by decide +kernel
theorem dX10_digest_158 : decode cX10_digest 158 = .ok (.lload_n 1, 1) := by decide +kernel
theorem dX10_digest_159 : decode cX10_digest 159 = .ok (.aload_n 0, 1) := by decide +kernel
theorem dX10_digest_160 : decode cX10_digest 160 = .ok (.getfield 19, 3) := by decide +kernel
theorem dX10_digest_163 : decode cX10_digest 163 = .ok (.bipush 40, 2) := by decide +kernel
theorem dX10_digest_165 : decode cX10_digest 165 = .ok (.iload_n 3, 1) := by decide +kernel
theorem dX10_digest_166 : decode cX10_digest 166 = .ok (.imul, 1) := by decide +kernel
theorem dX10_digest_167 : decode cX10_digest 167 = .ok (.iload 4, 2) := by decide +kernel
theorem dX10_digest_169 : decode cX10_digest 169 = .ok (.iadd, 1) := by decide +kernel
theorem dX10_digest_170 : decode cX10_digest 170 = .ok (.iaload, 1) := by decide +kernel
theorem dX10_digest_171 : decode cX10_digest 171 = .ok (.invokestatic 255, 3) := by decide +kernel
theorem dX10_digest_174 : decode cX10_digest 174 = .ok (.lstore_n 1, 1) := by decide +kernel
theorem dX10_digest_175 : decode cX10_digest 175 = .ok (.iinc 4 1, 3) := by decide +kernel
theorem dX10_digest_178 : decode cX10_digest 178 = .ok (.goto (-31), 3) := by decide +kernel
theorem dX10_digest_181 : decode cX10_digest 181 = .ok (.iinc 3 1, 3) := by decide +kernel
theorem dX10_digest_184 : decode cX10_digest 184 = .ok (.goto (-72), 3) := by decide +kernel
theorem dX10_digest_187 : decode cX10_digest 187 = .ok (.iconst 0, 1) := by decide +kernel
theorem dX10_digest_188 : decode cX10_digest 188 = .ok (.istore_n 3, 1) := by decide +kernel
theorem dX10_digest_189 : decode cX10_digest 189 = .ok (.iload_n 3, 1) := by decide +kernel
theorem dX10_digest_190 : decode cX10_digest 190 = .ok (.iconst 4, 1) := by decide +kernel
theorem dX10_digest_191 : decode cX10_digest 191 = .ok (.if_icmp .ge 72, 3) := by decide +kernel
theorem dX10_digest_194 : decode cX10_digest 194 = .ok (.lload_n 1, 1) := by decide +kernel
theorem dX10_digest_195 : decode cX10_digest 195 = .ok (.aload_n 0, 1) := by decide +kernel
theorem dX10_digest_196 : decode cX10_digest 196 = .ok (.getfield 28, 3) := by decide +kernel
theorem dX10_digest_199 : decode cX10_digest 199 = .ok (.iload_n 3, 1) := by decide +kernel
theorem dX10_digest_200 : decode cX10_digest 200 = .ok (.iaload, 1) := by decide +kernel
theorem dX10_digest_201 : decode cX10_digest 201 = .ok (.bipush (-9), 2) := by decide +kernel
theorem dX10_digest_203 : decode cX10_digest 203 = .ok (.if_icmp .ne 7, 3) := by decide +kernel
theorem dX10_digest_206 : decode cX10_digest 206 = .ok (.iconst (-1), 1) := by decide +kernel
theorem dX10_digest_207 : decode cX10_digest 207 = .ok (.goto 9, 3) := by decide +kernel
theorem dX10_digest_210 : decode cX10_digest 210 = .ok (.aload_n 0, 1) := by decide +kernel
theorem dX10_digest_211 : decode cX10_digest 211 = .ok (.getfield 28, 3) := by decide +kernel
theorem dX10_digest_214 : decode cX10_digest 214 = .ok (.iload_n 3, 1) := by decide +kernel
theorem dX10_digest_215 : decode cX10_digest 215 = .ok (.iaload, 1) := by decide +kernel
theorem dX10_digest_216 : decode cX10_digest 216 = .ok (.invokestatic 255, 3) := by decide +kernel
theorem dX10_digest_219 : decode cX10_digest 219 = .ok (.lstore_n 1, 1) := by decide +kernel
theorem dX10_digest_220 : decode cX10_digest 220 = .ok (.iconst 0, 1) := by decide +kernel
theorem dX10_digest_221 : decode cX10_digest 221 = .ok (.istore 4, 2) := by decide +kernel
theorem dX10_digest_223 : decode cX10_digest 223 = .ok (.iload 4, 2) := by decide +kernel
theorem dX10_digest_225 : decode cX10_digest 225 = .ok (.aload_n 0, 1) := by decide +kernel
theorem dX10_digest_226 : decode cX10_digest 226 = .ok (.getfield 28, 3) := by decide +kernel
theorem dX10_digest_229 : decode cX10_digest 229 = .ok (.iload_n 3, 1) := by decide +kernel
theorem dX10_digest_230 : decode cX10_digest 230 = .ok (.iaload, 1) := by decide +kernel
theorem dX10_digest_231 : decode cX10_digest 231 = .ok (.if_icmp .ge 26, 3) := by decide +kernel
theorem dX10_digest_234 : decode cX10_digest 234 = .ok (.lload_n 1, 1) := by decide +kernel
theorem dX10_digest_235 : decode cX10_digest 235 = .ok (.aload_n 0, 1) := by decide +kernel
theorem dX10_digest_236 : decode cX10_digest 236 = .ok (.getfield 25, 3) := by decide +kernel
theorem dX10_digest_239 : decode cX10_digest 239 = .ok (.bipush 60, 2) := by decide +kernel
theorem dX10_digest_241 : decode cX10_digest 241 = .ok (.iload_n 3, 1) := by decide +kernel
theorem dX10_digest_242 : decode cX10_digest 242 = .ok (.imul, 1) := by decide +kernel
theorem dX10_digest_243 : decode cX10_digest 243 = .ok (.iload 4, 2) := by decide +kernel
theorem dX10_digest_245 : decode cX10_digest 245 = .ok (.iadd, 1) := by decide +kernel
theorem dX10_digest_246 : decode cX10_digest 246 = .ok (.iaload, 1) := by decide +kernel
theorem dX10_digest_247 : decode cX10_digest 247 = .ok (.invokestatic 255, 3) := by decide +kernel
theorem dX10_digest_250 : decode cX10_digest 250 = .ok (.lstore_n 1, 1) := by decide +kernel
theorem dX10_digest_251 : decode cX10_digest 251 = .ok (.iinc 4 1, 3) := by decide +kernel
theorem dX10_digest_254 : decode cX10_digest 254 = .ok (.goto (-31), 3) := by decide +kernel
theorem dX10_digest_257 : decode cX10_digest 257 = .ok (.iinc 3 1, 3) := by decide +kernel
theorem dX10_digest_260 : decode cX10_digest 260 = .ok (.goto (-71), 3) := by decide +kernel
theorem dX10_digest_263 : decode cX10_digest 263 = .ok (.lload_n 1, 1) := by decide +kernel
theorem dX10_digest_264 : decode cX10_digest 264 = .ok (.lreturn, 1) := by decide +kernel
theorem dJ6_bitCount_0f7a4_0 : decode cJ6_bitCount_0f7a4 0 = .ok (.iload_n 0, 1) := by decide +kernel
theorem dJ6_bitCount_0f7a4_1 : decode cJ6_bitCount_0f7a4 1 = .ok (.iload_n 0, 1) := by decide +kernel
theorem dJ6_bitCount_0f7a4_2 : decode cJ6_bitCount_0f7a4 2 = .ok (.iconst 1, 1) := by decide +kernel
theorem dJ6_bitCount_0f7a4_3 : decode cJ6_bitCount_0f7a4 3 = .ok (.iushr, 1) := by decide +kernel
theorem dJ6_bitCount_0f7a4_4 : decode cJ6_bitCount_0f7a4 4 = .ok (.ldc_w 265, 3) := by decide +kernel
theorem dJ6_bitCount_0f7a4_7 : decode cJ6_bitCount_0f7a4 7 = .ok (.iand, 1) := by decide +kernel
theorem dJ6_bitCount_0f7a4_8 : decode cJ6_bitCount_0f7a4 8 = .ok (.isub, 1) := by decide +kernel
theorem dJ6_bitCount_0f7a4_9 : decode cJ6_bitCount_0f7a4 9 = .ok (.istore_n 0, 1) := by decide +kernel
theorem dJ6_bitCount_0f7a4_10 : decode cJ6_bitCount_0f7a4 10 = .ok (.iload_n 0, 1) := by decide +kernel
theorem dJ6_bitCount_0f7a4_11 : decode cJ6_bitCount_0f7a4 11 = .ok (.ldc_w 266, 3) := by decide +kernel
theorem dJ6_bitCount_0f7a4_14 : decode cJ6_bitCount_0f7a4 14 = .ok (.iand, 1) := by decide +kernel
theorem dJ6_bitCount_0f7a4_15 : decode cJ6_bitCount_0f7a4 15 = .ok (.iload_n 0, 1) := by decide +kernel
theorem dJ6_bitCount_0f7a4_16 : decode cJ6_bitCount_0f7a4 16 = .ok (.iconst 2, 1) := by decide +kernel
theorem dJ6_bitCount_0f7a4_17 : decode cJ6_bitCount_0f7a4 17 = .ok (.iushr, 1) := by decide +kernel
theorem dJ6_bitCount_0f7a4_18 : decode cJ6_bitCount_0f7a4 18 = .ok (.ldc_w 266, 3) := by decide +kernel
theorem dJ6_bitCount_0f7a4_21 : decode cJ6_bitCount_0f7a4 21 = .ok (.iand, 1) := by decide +kernel
theorem dJ6_bitCount_0f7a4_22 : decode cJ6_bitCount_0f7a4 22 = .ok (.iadd, 1) := by decide +kernel
theorem dJ6_bitCount_0f7a4_23 : decode cJ6_bitCount_0f7a4 23 = .ok (.istore_n 0, 1) := by decide +kernel
theorem dJ6_bitCount_0f7a4_24 : decode cJ6_bitCount_0f7a4 24 = .ok (.iload_n 0, 1) := by decide +kernel
theorem dJ6_bitCount_0f7a4_25 : decode cJ6_bitCount_0f7a4 25 = .ok (.iload_n 0, 1) := by decide +kernel
theorem dJ6_bitCount_0f7a4_26 : decode cJ6_bitCount_0f7a4 26 = .ok (.iconst 4, 1) := by decide +kernel
theorem dJ6_bitCount_0f7a4_27 : decode cJ6_bitCount_0f7a4 27 = .ok (.iushr, 1) := by decide +kernel
theorem dJ6_bitCount_0f7a4_28 : decode cJ6_bitCount_0f7a4 28 = .ok (.iadd, 1) := by decide +kernel
theorem dJ6_bitCount_0f7a4_29 : decode cJ6_bitCount_0f7a4 29 = .ok (.ldc_w 267, 3) := by decide +kernel
theorem dJ6_bitCount_0f7a4_32 : decode cJ6_bitCount_0f7a4 32 = .ok (.iand, 1) := by decide +kernel
theorem dJ6_bitCount_0f7a4_33 : decode cJ6_bitCount_0f7a4 33 = .ok (.istore_n 0, 1) := by decide +kernel
theorem dJ6_bitCount_0f7a4_34 : decode cJ6_bitCount_0f7a4 34 = .ok (.iload_n 0, 1) := by decide +kernel
theorem dJ6_bitCount_0f7a4_35 : decode cJ6_bitCount_0f7a4 35 = .ok (.iload_n 0, 1) := by decide +kernel
theorem dJ6_bitCount_0f7a4_36 : decode cJ6_bitCount_0f7a4 36 = .ok (.bipush 8, 2) := by decide +kernel
theorem dJ6_bitCount_0f7a4_38 : decode cJ6_bitCount_0f7a4 38 = .ok (.iushr, 1) := by decide +kernel
theorem dJ6_bitCount_0f7a4_39 : decode cJ6_bitCount_0f7a4 39 = .ok (.iadd, 1) := by decide +kernel
theorem dJ6_bitCount_0f7a4_40 : decode cJ6_bitCount_0f7a4 40 = .ok (.istore_n 0, 1) := by decide +kernel
theorem dJ6_bitCount_0f7a4_41 : decode cJ6_bitCount_0f7a4 41 = .ok (.iload_n 0, 1) := by decide +kernel
theorem dJ6_bitCount_0f7a4_42 : decode cJ6_bitCount_0f7a4 42 = .ok (.iload_n 0, 1) := by decide +kernel
theorem dJ6_bitCount_0f7a4_43 : decode cJ6_bitCount_0f7a4 43 = .ok (.bipush 16, 2) := by decide +kernel
theorem dJ6_bitCount_0f7a4_45 : decode cJ6_bitCount_0f7a4 45 = .ok (.iushr, 1) := by decide +kernel
theorem dJ6_bitCount_0f7a4_46 : decode cJ6_bitCount_0f7a4 46 = .ok (.iadd, 1) := by decide +kernel
theorem dJ6_bitCount_0f7a4_47 : decode cJ6_bitCount_0f7a4 47 = .ok (.istore_n 0, 1) := by decide +kernel
theorem dJ6_bitCount_0f7a4_48 : decode cJ6_bitCount_0f7a4 48 = .ok (.iload_n 0, 1) := by decide +kernel
theorem dJ6_bitCount_0f7a4_49 : decode cJ6_bitCount_0f7a4 49 = .ok (.bipush 63, 2) := by decide +kernel
theorem dJ6_bitCount_0f7a4_51 : decode cJ6_bitCount_0f7a4 51 = .ok (.iand, 1) := by decide +kernel
theorem dJ6_bitCount_0f7a4_52 : decode cJ6_bitCount_0f7a4 52 = .ok (.ireturn, 1) := by decide +kernel
theorem dJ9_floorMod_7cf53_0 : decode cJ9_floorMod_7cf53 0 = .ok (.iload_n 0, 1) := by decide +kernel
theorem dJ9_floorMod_7cf53_1 : decode cJ9_floorMod_7cf53 1 = .ok (.iload_n 1, 1) := by decide +kernel
theorem dJ9_floorMod_7cf53_2 : decode cJ9_floorMod_7cf53 2 = .ok (.irem, 1) := by decide +kernel
theorem dJ9_floorMod_7cf53_3 : decode cJ9_floorMod_7cf53 3 = .ok (.istore_n 2, 1) := by decide +kernel
theorem dJ9_floorMod_7cf53_4 : decode cJ9_floorMod_7cf53 4 = .ok (.iload_n 0, 1) := by decide +kernel
theorem dJ9_floorMod_7cf53_5 : decode cJ9_floorMod_7cf53 5 = .ok (.iload_n 1, 1) := by decide +kernel
theorem dJ9_floorMod_7cf53_6 : decode cJ9_floorMod_7cf53 6 = .ok (.ixor, 1) := by decide +kernel
theorem dJ9_floorMod_7cf53_7 : decode cJ9_floorMod_7cf53 7 = .ok (.ifCond .ge 11, 3) := by decide +kernel
theorem dJ9_floorMod_7cf53_10 : decode cJ9_floorMod_7cf53 10 = .ok (.iload_n 2, 1) := by decide +kernel
theorem dJ9_floorMod_7cf53_11 : decode cJ9_floorMod_7cf53 11 = .ok (.ifCond .eq 7, 3) := by decide +kernel
theorem dJ9_floorMod_7cf53_14 : decode cJ9_floorMod_7cf53 14 = .ok (.iload_n 2, 1) := by decide +kernel
theorem dJ9_floorMod_7cf53_15 : decode cJ9_floorMod_7cf53 15 = .ok (.iload_n 1, 1) := by decide +kernel
theorem dJ9_floorMod_7cf53_16 : decode cJ9_floorMod_7cf53 16 = .ok (.iadd, 1) := by decide +kernel
theorem dJ9_floorMod_7cf53_17 : decode cJ9_floorMod_7cf53 17 = .ok (.ireturn, 1) := by decide +kernel
theorem dJ9_floorMod_7cf53_18 : decode cJ9_floorMod_7cf53 18 = .ok (.iload_n 2, 1) := by decide +kernel
theorem dJ9_floorMod_7cf53_19 : decode cJ9_floorMod_7cf53 19 = .ok (.ireturn, 1) := by decide +kernel
theorem dJ9_abs_0f7a4_0 : decode cJ9_abs_0f7a4 0 = .ok (.iload_n 0, 1) := by decide +kernel
theorem dJ9_abs_0f7a4_1 : decode cJ9_abs_0f7a4 1 = .ok (.ifCond .ge 8, 3) := by decide +kernel
theorem dJ9_abs_0f7a4_4 : decode cJ9_abs_0f7a4 4 = .ok (.iload_n 0, 1) := by decide +kernel
theorem dJ9_abs_0f7a4_5 : decode cJ9_abs_0f7a4 5 = .ok (.ineg, 1) := by decide +kernel
theorem dJ9_abs_0f7a4_6 : decode cJ9_abs_0f7a4 6 = .ok (.goto 4, 3) := by decide +kernel
theorem dJ9_abs_0f7a4_9 : decode cJ9_abs_0f7a4 9 = .ok (.iload_n 0, 1) := by decide +kernel
theorem dJ9_abs_0f7a4_10 : decode cJ9_abs_0f7a4 10 = .ok (.ireturn, 1) := by decide +kernel
theorem dJ9_max_7cf53_0 : decode cJ9_max_7cf53 0 = .ok (.iload_n 0, 1) := by decide +kernel
theorem dJ9_max_7cf53_1 : decode cJ9_max_7cf53 1 = .ok (.iload_n 1, 1) := by decide +kernel
theorem dJ9_max_7cf53_2 : decode cJ9_max_7cf53 2 = .ok (.if_icmp .lt 7, 3) := by decide +kernel
theorem dJ9_max_7cf53_5 : decode cJ9_max_7cf53 5 = .ok (.iload_n 0, 1) := by decide +kernel
theorem dJ9_max_7cf53_6 : decode cJ9_max_7cf53 6 = .ok (.goto 4, 3) := by decide +kernel
theorem dJ9_max_7cf53_9 : decode cJ9_max_7cf53 9 = .ok (.iload_n 1, 1) := by decide +kernel
theorem dJ9_max_7cf53_10 : decode cJ9_max_7cf53 10 = .ok (.ireturn, 1) := by decide +kernel
theorem dJ9_min_7cf53_0 : decode cJ9_min_7cf53 0 = .ok (.iload_n 0, 1) := by decide +kernel
theorem dJ9_min_7cf53_1 : decode cJ9_min_7cf53 1 = .ok (.iload_n 1, 1) := by decide +kernel
theorem dJ9_min_7cf53_2 : decode cJ9_min_7cf53 2 = .ok (.if_icmp .gt 7, 3) := by decide +kernel
theorem dJ9_min_7cf53_5 : decode cJ9_min_7cf53 5 = .ok (.iload_n 0, 1) := by decide +kernel
theorem dJ9_min_7cf53_6 : decode cJ9_min_7cf53 6 = .ok (.goto 4, 3) := by decide +kernel
theorem dJ9_min_7cf53_9 : decode cJ9_min_7cf53 9 = .ok (.iload_n 1, 1) := by decide +kernel
theorem dJ9_min_7cf53_10 : decode cJ9_min_7cf53 10 = .ok (.ireturn, 1) := by decide +kernel
theorem dJ7_fill_53178_0 : decode cJ7_fill_53178 0 = .ok (.iconst 0, 1) := by decide +kernel
theorem dJ7_fill_53178_1 : decode cJ7_fill_53178 1 = .ok (.istore_n 2, 1) := by decide +kernel
theorem dJ7_fill_53178_2 : decode cJ7_fill_53178 2 = .ok (.aload_n 0, 1) := by decide +kernel
theorem dJ7_fill_53178_3 : decode cJ7_fill_53178 3 = .ok (.arraylength, 1) := by decide +kernel
theorem dJ7_fill_53178_4 : decode cJ7_fill_53178 4 = .ok (.istore_n 3, 1) := by decide +kernel
theorem dJ7_fill_53178_5 : decode cJ7_fill_53178 5 = .ok (.iload_n 2, 1) := by decide +kernel
theorem dJ7_fill_53178_6 : decode cJ7_fill_53178 6 = .ok (.iload_n 3, 1) := by decide +kernel
theorem dJ7_fill_53178_7 : decode cJ7_fill_53178 7 = .ok (.if_icmp .ge 13, 3) := by decide +kernel
theorem dJ7_fill_53178_10 : decode cJ7_fill_53178 10 = .ok (.aload_n 0, 1) := by decide +kernel
theorem dJ7_fill_53178_11 : decode cJ7_fill_53178 11 = .ok (.iload_n 2, 1) := by decide +kernel
theorem dJ7_fill_53178_12 : decode cJ7_fill_53178 12 = .ok (.iload_n 1, 1) := by decide +kernel
theorem dJ7_fill_53178_13 : decode cJ7_fill_53178 13 = .ok (.iastore, 1) := by decide +kernel
theorem dJ7_fill_53178_14 : decode cJ7_fill_53178 14 = .ok (.iinc 2 1, 3) := by decide +kernel
theorem dJ7_fill_53178_17 : decode cJ7_fill_53178 17 = .ok (.goto (-12), 3) := by decide +kernel
theorem dJ7_fill_53178_20 : decode cJ7_fill_53178 20 = .ok (.return_, 1) := by decide +kernel
theorem dJ7_fill_031fb_0 : decode cJ7_fill_031fb 0 = .ok (.iconst 0, 1) := by decide +kernel
theorem dJ7_fill_031fb_1 : decode cJ7_fill_031fb 1 = .ok (.istore_n 2, 1) := by decide +kernel
theorem dJ7_fill_031fb_2 : decode cJ7_fill_031fb 2 = .ok (.aload_n 0, 1) := by decide +kernel
theorem dJ7_fill_031fb_3 : decode cJ7_fill_031fb 3 = .ok (.arraylength, 1) := by decide +kernel
theorem dJ7_fill_031fb_4 : decode cJ7_fill_031fb 4 = .ok (.istore_n 3, 1) := by decide +kernel
theorem dJ7_fill_031fb_5 : decode cJ7_fill_031fb 5 = .ok (.iload_n 2, 1) := by decide +kernel
theorem dJ7_fill_031fb_6 : decode cJ7_fill_031fb 6 = .ok (.iload_n 3, 1) := by decide +kernel
theorem dJ7_fill_031fb_7 : decode cJ7_fill_031fb 7 = .ok (.if_icmp .ge 13, 3) := by decide +kernel
theorem dJ7_fill_031fb_10 : decode cJ7_fill_031fb 10 = .ok (.aload_n 0, 1) := by decide +kernel
theorem dJ7_fill_031fb_11 : decode cJ7_fill_031fb 11 = .ok (.iload_n 2, 1) := by decide +kernel
theorem dJ7_fill_031fb_12 : decode cJ7_fill_031fb 12 = .ok (.iload_n 1, 1) := by decide +kernel
theorem dJ7_fill_031fb_13 : decode cJ7_fill_031fb 13 = .ok (.bastore, 1) := by decide +kernel
theorem dJ7_fill_031fb_14 : decode cJ7_fill_031fb 14 = .ok (.iinc 2 1, 3) := by decide +kernel
theorem dJ7_fill_031fb_17 : decode cJ7_fill_031fb 17 = .ok (.goto (-12), 3) := by decide +kernel
theorem dJ7_fill_031fb_20 : decode cJ7_fill_031fb 20 = .ok (.return_, 1) := by decide +kernel
theorem dL_law_0 : decode cL_law 0 = .ok (.new 7, 3) := by decide +kernel
theorem dL_law_3 : decode cL_law 3 = .ok (.dup, 1) := by decide +kernel
theorem dL_law_4 : decode cL_law 4 = .ok (.invokespecial 9, 3) := by decide +kernel
theorem dL_law_7 : decode cL_law 7 = .ok (.astore_n 1, 1) := by decide +kernel
theorem dL_law_8 : decode cL_law 8 = .ok (.new 10, 3) := by decide +kernel
theorem dL_law_11 : decode cL_law 11 = .ok (.dup, 1) := by decide +kernel
theorem dL_law_12 : decode cL_law 12 = .ok (.invokespecial 12, 3) := by decide +kernel
theorem dL_law_15 : decode cL_law 15 = .ok (.astore_n 2, 1) := by decide +kernel
theorem dL_law_16 : decode cL_law 16 = .ok (.iconst 0, 1) := by decide +kernel
theorem dL_law_17 : decode cL_law 17 = .ok (.istore_n 3, 1) := by decide +kernel
theorem dL_law_18 : decode cL_law 18 = .ok (.iload_n 3, 1) := by decide +kernel
theorem dL_law_19 : decode cL_law 19 = .ok (.aload_n 0, 1) := by decide +kernel
theorem dL_law_20 : decode cL_law 20 = .ok (.arraylength, 1) := by decide +kernel
theorem dL_law_21 : decode cL_law 21 = .ok (.bipush 6, 2) := by decide +kernel
theorem dL_law_23 : decode cL_law 23 = .ok (.isub, 1) := by decide +kernel
theorem dL_law_24 : decode cL_law 24 = .ok (.if_icmp .gt 1441, 3) := by decide +kernel
theorem dL_law_27 : decode cL_law 27 = .ok (.aload_n 0, 1) := by decide +kernel
theorem dL_law_28 : decode cL_law 28 = .ok (.iload_n 3, 1) := by decide +kernel
theorem dL_law_29 : decode cL_law 29 = .ok (.iaload, 1) := by decide +kernel
theorem dL_law_30 : decode cL_law 30 = .ok (.bipush 63, 2) := by decide +kernel
theorem dL_law_32 : decode cL_law 32 = .ok (.iand, 1) := by decide +kernel
theorem dL_law_33 : decode cL_law 33 = .ok (.tableswitch 1426 0 43 #[191, 224, 267, 300, 323, 386, 409, 442, 485, 508, 531, 564, 597, 610, 633, 656, 679, 712, 735, 758, 781, 814, 837, 870, 893, 936, 969, 1002, 1035, 1068, 1101, 1134, 1157, 1180, 1223, 1256, 1279, 1312, 1325, 1339, 1353, 1376, 1389, 1412], 191) := by decide +kernel
theorem dL_law_224 : decode cL_law 224 = .ok (.aload_n 1, 1) := by decide +kernel
theorem dL_law_225 : decode cL_law 225 = .ok (.aload_n 0, 1) := by decide +kernel
theorem dL_law_226 : decode cL_law 226 = .ok (.iload_n 3, 1) := by decide +kernel
theorem dL_law_227 : decode cL_law 227 = .ok (.iconst 1, 1) := by decide +kernel
theorem dL_law_228 : decode cL_law 228 = .ok (.iadd, 1) := by decide +kernel
theorem dL_law_229 : decode cL_law 229 = .ok (.iaload, 1) := by decide +kernel
theorem dL_law_230 : decode cL_law 230 = .ok (.aload_n 0, 1) := by decide +kernel
theorem dL_law_231 : decode cL_law 231 = .ok (.iload_n 3, 1) := by decide +kernel
theorem dL_law_232 : decode cL_law 232 = .ok (.iconst 2, 1) := by decide +kernel
theorem dL_law_233 : decode cL_law 233 = .ok (.iadd, 1) := by decide +kernel
theorem dL_law_234 : decode cL_law 234 = .ok (.iaload, 1) := by decide +kernel
theorem dL_law_235 : decode cL_law 235 = .ok (.invokevirtual 13, 3) := by decide +kernel
theorem dL_law_238 : decode cL_law 238 = .ok (.aload_n 2, 1) := by decide +kernel
theorem dL_law_239 : decode cL_law 239 = .ok (.aload_n 0, 1) := by decide +kernel
theorem dL_law_240 : decode cL_law 240 = .ok (.iload_n 3, 1) := by decide +kernel
theorem dL_law_241 : decode cL_law 241 = .ok (.iconst 1, 1) := by decide +kernel
theorem dL_law_242 : decode cL_law 242 = .ok (.iadd, 1) := by decide +kernel
theorem dL_law_243 : decode cL_law 243 = .ok (.iaload, 1) := by decide +kernel
theorem dL_law_244 : decode cL_law 244 = .ok (.aload_n 0, 1) := by decide +kernel
theorem dL_law_245 : decode cL_law 245 = .ok (.iload_n 3, 1) := by decide +kernel
theorem dL_law_246 : decode cL_law 246 = .ok (.iconst 2, 1) := by decide +kernel
theorem dL_law_247 : decode cL_law 247 = .ok (.iadd, 1) := by decide +kernel
theorem dL_law_248 : decode cL_law 248 = .ok (.iaload, 1) := by decide +kernel
theorem dL_law_249 : decode cL_law 249 = .ok (.invokevirtual 17, 3) := by decide +kernel
theorem dL_law_252 : decode cL_law 252 = .ok (.if_icmp .eq 1207, 3) := by decide +kernel
theorem dL_law_255 : decode cL_law 255 = .ok (.iconst 0, 1) := by decide +kernel
theorem dL_law_256 : decode cL_law 256 = .ok (.ireturn, 1) := by decide +kernel
theorem dL_law_257 : decode cL_law 257 = .ok (.aload_n 1, 1) := by decide +kernel
theorem dL_law_258 : decode cL_law 258 = .ok (.aload_n 0, 1) := by decide +kernel
theorem dL_law_259 : decode cL_law 259 = .ok (.iload_n 3, 1) := by decide +kernel
theorem dL_law_260 : decode cL_law 260 = .ok (.iconst 1, 1) := by decide +kernel
theorem dL_law_261 : decode cL_law 261 = .ok (.iadd, 1) := by decide +kernel
theorem dL_law_262 : decode cL_law 262 = .ok (.iaload, 1) := by decide +kernel
theorem dL_law_263 : decode cL_law 263 = .ok (.aload_n 0, 1) := by decide +kernel
theorem dL_law_264 : decode cL_law 264 = .ok (.iload_n 3, 1) := by decide +kernel
theorem dL_law_265 : decode cL_law 265 = .ok (.iconst 2, 1) := by decide +kernel
theorem dL_law_266 : decode cL_law 266 = .ok (.iadd, 1) := by decide +kernel
theorem dL_law_267 : decode cL_law 267 = .ok (.iaload, 1) := by decide +kernel
theorem dL_law_268 : decode cL_law 268 = .ok (.aload_n 0, 1) := by decide +kernel
theorem dL_law_269 : decode cL_law 269 = .ok (.iload_n 3, 1) := by decide +kernel
theorem dL_law_270 : decode cL_law 270 = .ok (.iconst 3, 1) := by decide +kernel
theorem dL_law_271 : decode cL_law 271 = .ok (.iadd, 1) := by decide +kernel
theorem dL_law_272 : decode cL_law 272 = .ok (.iaload, 1) := by decide +kernel
theorem dL_law_273 : decode cL_law 273 = .ok (.invokevirtual 18, 3) := by decide +kernel
theorem dL_law_276 : decode cL_law 276 = .ok (.aload_n 2, 1) := by decide +kernel
theorem dL_law_277 : decode cL_law 277 = .ok (.aload_n 0, 1) := by decide +kernel
theorem dL_law_278 : decode cL_law 278 = .ok (.iload_n 3, 1) := by decide +kernel
theorem dL_law_279 : decode cL_law 279 = .ok (.iconst 1, 1) := by decide +kernel
theorem dL_law_280 : decode cL_law 280 = .ok (.iadd, 1) := by decide +kernel
theorem dL_law_281 : decode cL_law 281 = .ok (.iaload, 1) := by decide +kernel
theorem dL_law_282 : decode cL_law 282 = .ok (.aload_n 0, 1) := by decide +kernel
theorem dL_law_283 : decode cL_law 283 = .ok (.iload_n 3, 1) := by decide +kernel
theorem dL_law_284 : decode cL_law 284 = .ok (.iconst 2, 1) := by decide +kernel
theorem dL_law_285 : decode cL_law 285 = .ok (.iadd, 1) := by decide +kernel
theorem dL_law_286 : decode cL_law 286 = .ok (.iaload, 1) := by decide +kernel
theorem dL_law_287 : decode cL_law 287 = .ok (.aload_n 0, 1) := by decide +kernel
theorem dL_law_288 : decode cL_law 288 = .ok (.iload_n 3, 1) := by decide +kernel
theorem dL_law_289 : decode cL_law 289 = .ok (.iconst 3, 1) := by decide +kernel
theorem dL_law_290 : decode cL_law 290 = .ok (.iadd, 1) := by decide +kernel
theorem dL_law_291 : decode cL_law 291 = .ok (.iaload, 1) := by decide +kernel
theorem dL_law_292 : decode cL_law 292 = .ok (.invokevirtual 22, 3) := by decide +kernel
theorem dL_law_295 : decode cL_law 295 = .ok (.if_icmp .eq 1164, 3) := by decide +kernel
theorem dL_law_298 : decode cL_law 298 = .ok (.iconst 0, 1) := by decide +kernel
theorem dL_law_299 : decode cL_law 299 = .ok (.ireturn, 1) := by decide +kernel
theorem dL_law_300 : decode cL_law 300 = .ok (.aload_n 1, 1) := by decide +kernel
theorem dL_law_301 : decode cL_law 301 = .ok (.aload_n 0, 1) := by decide +kernel
theorem dL_law_302 : decode cL_law 302 = .ok (.iload_n 3, 1) := by decide +kernel
theorem dL_law_303 : decode cL_law 303 = .ok (.iconst 1, 1) := by decide +kernel
theorem dL_law_304 : decode cL_law 304 = .ok (.iadd, 1) := by decide +kernel
theorem dL_law_305 : decode cL_law 305 = .ok (.iaload, 1) := by decide +kernel
theorem dL_law_306 : decode cL_law 306 = .ok (.aload_n 0, 1) := by decide +kernel
theorem dL_law_307 : decode cL_law 307 = .ok (.iload_n 3, 1) := by decide +kernel
theorem dL_law_308 : decode cL_law 308 = .ok (.iconst 2, 1) := by decide +kernel
theorem dL_law_309 : decode cL_law 309 = .ok (.iadd, 1) := by decide +kernel
theorem dL_law_310 : decode cL_law 310 = .ok (.iaload, 1) := by decide +kernel
theorem dL_law_311 : decode cL_law 311 = .ok (.invokevirtual 23, 3) := by decide +kernel
theorem dL_law_314 : decode cL_law 314 = .ok (.aload_n 2, 1) := by decide +kernel
theorem dL_law_315 : decode cL_law 315 = .ok (.aload_n 0, 1) := by decide +kernel
theorem dL_law_316 : decode cL_law 316 = .ok (.iload_n 3, 1) := by decide +kernel
theorem dL_law_317 : decode cL_law 317 = .ok (.iconst 1, 1) := by decide +kernel
theorem dL_law_318 : decode cL_law 318 = .ok (.iadd, 1) := by decide +kernel
theorem dL_law_319 : decode cL_law 319 = .ok (.iaload, 1) := by decide +kernel
theorem dL_law_320 : decode cL_law 320 = .ok (.aload_n 0, 1) := by decide +kernel
theorem dL_law_321 : decode cL_law 321 = .ok (.iload_n 3, 1) := by decide +kernel
theorem dL_law_322 : decode cL_law 322 = .ok (.iconst 2, 1) := by decide +kernel
theorem dL_law_323 : decode cL_law 323 = .ok (.iadd, 1) := by decide +kernel
theorem dL_law_324 : decode cL_law 324 = .ok (.iaload, 1) := by decide +kernel
theorem dL_law_325 : decode cL_law 325 = .ok (.invokevirtual 26, 3) := by decide +kernel
theorem dL_law_328 : decode cL_law 328 = .ok (.if_icmp .eq 1131, 3) := by decide +kernel
theorem dL_law_331 : decode cL_law 331 = .ok (.iconst 0, 1) := by decide +kernel
theorem dL_law_332 : decode cL_law 332 = .ok (.ireturn, 1) := by decide +kernel
theorem dL_law_333 : decode cL_law 333 = .ok (.aload_n 1, 1) := by decide +kernel
theorem dL_law_334 : decode cL_law 334 = .ok (.aload_n 0, 1) := by decide +kernel
theorem dL_law_335 : decode cL_law 335 = .ok (.iload_n 3, 1) := by decide +kernel
theorem dL_law_336 : decode cL_law 336 = .ok (.iconst 1, 1) := by decide +kernel
theorem dL_law_337 : decode cL_law 337 = .ok (.iadd, 1) := by decide +kernel
theorem dL_law_338 : decode cL_law 338 = .ok (.iaload, 1) := by decide +kernel
theorem dL_law_339 : decode cL_law 339 = .ok (.invokevirtual 27, 3) := by decide +kernel
theorem dL_law_342 : decode cL_law 342 = .ok (.aload_n 2, 1) := by decide +kernel
theorem dL_law_343 : decode cL_law 343 = .ok (.aload_n 0, 1) := by decide +kernel
theorem dL_law_344 : decode cL_law 344 = .ok (.iload_n 3, 1) := by decide +kernel
theorem dL_law_345 : decode cL_law 345 = .ok (.iconst 1, 1) := by decide +kernel
theorem dL_law_346 : decode cL_law 346 = .ok (.iadd, 1) := by decide +kernel
theorem dL_law_347 : decode cL_law 347 = .ok (.iaload, 1) := by decide +kernel
theorem dL_law_348 : decode cL_law 348 = .ok (.invokevirtual 31, 3) := by decide +kernel
theorem dL_law_351 : decode cL_law 351 = .ok (.if_icmp .eq 1108, 3) := by decide +kernel
theorem dL_law_354 : decode cL_law 354 = .ok (.iconst 0, 1) := by decide +kernel
theorem dL_law_355 : decode cL_law 355 = .ok (.ireturn, 1) := by decide +kernel
theorem dL_law_356 : decode cL_law 356 = .ok (.aload_n 1, 1) := by decide +kernel
theorem dL_law_357 : decode cL_law 357 = .ok (.aload_n 0, 1) := by decide +kernel
theorem dL_law_358 : decode cL_law 358 = .ok (.iload_n 3, 1) := by decide +kernel
theorem dL_law_359 : decode cL_law 359 = .ok (.iconst 1, 1) := by decide +kernel
theorem dL_law_360 : decode cL_law 360 = .ok (.iadd, 1) := by decide +kernel
theorem dL_law_361 : decode cL_law 361 = .ok (.iaload, 1) := by decide +kernel
theorem dL_law_362 : decode cL_law 362 = .ok (.aload_n 0, 1) := by decide +kernel
theorem dL_law_363 : decode cL_law 363 = .ok (.iload_n 3, 1) := by decide +kernel
theorem dL_law_364 : decode cL_law 364 = .ok (.iconst 2, 1) := by decide +kernel
theorem dL_law_365 : decode cL_law 365 = .ok (.iadd, 1) := by decide +kernel
theorem dL_law_366 : decode cL_law 366 = .ok (.iaload, 1) := by decide +kernel
theorem dL_law_367 : decode cL_law 367 = .ok (.aload_n 0, 1) := by decide +kernel
theorem dL_law_368 : decode cL_law 368 = .ok (.iload_n 3, 1) := by decide +kernel
theorem dL_law_369 : decode cL_law 369 = .ok (.iconst 3, 1) := by decide +kernel
theorem dL_law_370 : decode cL_law 370 = .ok (.iadd, 1) := by decide +kernel
theorem dL_law_371 : decode cL_law 371 = .ok (.iaload, 1) := by decide +kernel
theorem dL_law_372 : decode cL_law 372 = .ok (.aload_n 0, 1) := by decide +kernel
theorem dL_law_373 : decode cL_law 373 = .ok (.iload_n 3, 1) := by decide +kernel
theorem dL_law_374 : decode cL_law 374 = .ok (.iconst 4, 1) := by decide +kernel
theorem dL_law_375 : decode cL_law 375 = .ok (.iadd, 1) := by decide +kernel
theorem dL_law_376 : decode cL_law 376 = .ok (.iaload, 1) := by decide +kernel
theorem dL_law_377 : decode cL_law 377 = .ok (.aload_n 0, 1) := by decide +kernel
theorem dL_law_378 : decode cL_law 378 = .ok (.iload_n 3, 1) := by decide +kernel
theorem dL_law_379 : decode cL_law 379 = .ok (.iconst 5, 1) := by decide +kernel
theorem dL_law_380 : decode cL_law 380 = .ok (.iadd, 1) := by decide +kernel
theorem dL_law_381 : decode cL_law 381 = .ok (.iaload, 1) := by decide +kernel
theorem dL_law_382 : decode cL_law 382 = .ok (.invokevirtual 32, 3) := by decide +kernel
theorem dL_law_385 : decode cL_law 385 = .ok (.aload_n 2, 1) := by decide +kernel
theorem dL_law_386 : decode cL_law 386 = .ok (.aload_n 0, 1) := by decide +kernel
theorem dL_law_387 : decode cL_law 387 = .ok (.iload_n 3, 1) := by decide +kernel
theorem dL_law_388 : decode cL_law 388 = .ok (.iconst 1, 1) := by decide +kernel
theorem dL_law_389 : decode cL_law 389 = .ok (.iadd, 1) := by decide +kernel
theorem dL_law_390 : decode cL_law 390 = .ok (.iaload, 1) := by decide +kernel
theorem dL_law_391 : decode cL_law 391 = .ok (.aload_n 0, 1) := by decide +kernel
theorem dL_law_392 : decode cL_law 392 = .ok (.iload_n 3, 1) := by decide +kernel
theorem dL_law_393 : decode cL_law 393 = .ok (.iconst 2, 1) := by decide +kernel
theorem dL_law_394 : decode cL_law 394 = .ok (.iadd, 1) := by decide +kernel
theorem dL_law_395 : decode cL_law 395 = .ok (.iaload, 1) := by decide +kernel
theorem dL_law_396 : decode cL_law 396 = .ok (.aload_n 0, 1) := by decide +kernel
theorem dL_law_397 : decode cL_law 397 = .ok (.iload_n 3, 1) := by decide +kernel
theorem dL_law_398 : decode cL_law 398 = .ok (.iconst 3, 1) := by decide +kernel
theorem dL_law_399 : decode cL_law 399 = .ok (.iadd, 1) := by decide +kernel
theorem dL_law_400 : decode cL_law 400 = .ok (.iaload, 1) := by decide +kernel
theorem dL_law_401 : decode cL_law 401 = .ok (.aload_n 0, 1) := by decide +kernel
theorem dL_law_402 : decode cL_law 402 = .ok (.iload_n 3, 1) := by decide +kernel
theorem dL_law_403 : decode cL_law 403 = .ok (.iconst 4, 1) := by decide +kernel
theorem dL_law_404 : decode cL_law 404 = .ok (.iadd, 1) := by decide +kernel
theorem dL_law_405 : decode cL_law 405 = .ok (.iaload, 1) := by decide +kernel
theorem dL_law_406 : decode cL_law 406 = .ok (.aload_n 0, 1) := by decide +kernel
theorem dL_law_407 : decode cL_law 407 = .ok (.iload_n 3, 1) := by decide +kernel
theorem dL_law_408 : decode cL_law 408 = .ok (.iconst 5, 1) := by decide +kernel
theorem dL_law_409 : decode cL_law 409 = .ok (.iadd, 1) := by decide +kernel
theorem dL_law_410 : decode cL_law 410 = .ok (.iaload, 1) := by decide +kernel
theorem dL_law_411 : decode cL_law 411 = .ok (.invokevirtual 36, 3) := by decide +kernel
theorem dL_law_414 : decode cL_law 414 = .ok (.if_icmp .eq 1045, 3) := by decide +kernel
theorem dL_law_417 : decode cL_law 417 = .ok (.iconst 0, 1) := by decide +kernel
theorem dL_law_418 : decode cL_law 418 = .ok (.ireturn, 1) := by decide +kernel
theorem dL_law_419 : decode cL_law 419 = .ok (.aload_n 1, 1) := by decide +kernel
theorem dL_law_420 : decode cL_law 420 = .ok (.aload_n 0, 1) := by decide +kernel
theorem dL_law_421 : decode cL_law 421 = .ok (.iload_n 3, 1) := by decide +kernel
theorem dL_law_422 : decode cL_law 422 = .ok (.iconst 1, 1) := by decide +kernel
theorem dL_law_423 : decode cL_law 423 = .ok (.iadd, 1) := by decide +kernel
theorem dL_law_424 : decode cL_law 424 = .ok (.iaload, 1) := by decide +kernel
theorem dL_law_425 : decode cL_law 425 = .ok (.invokevirtual 37, 3) := by decide +kernel
theorem dL_law_428 : decode cL_law 428 = .ok (.aload_n 2, 1) := by decide +kernel
theorem dL_law_429 : decode cL_law 429 = .ok (.aload_n 0, 1) := by decide +kernel
theorem dL_law_430 : decode cL_law 430 = .ok (.iload_n 3, 1) := by decide +kernel
theorem dL_law_431 : decode cL_law 431 = .ok (.iconst 1, 1) := by decide +kernel
theorem dL_law_432 : decode cL_law 432 = .ok (.iadd, 1) := by decide +kernel
theorem dL_law_433 : decode cL_law 433 = .ok (.iaload, 1) := by decide +kernel
theorem dL_law_434 : decode cL_law 434 = .ok (.invokevirtual 40, 3) := by decide +kernel
theorem dL_law_437 : decode cL_law 437 = .ok (.if_icmp .eq 1022, 3) := by decide +kernel
theorem dL_law_440 : decode cL_law 440 = .ok (.iconst 0, 1) := by decide +kernel
theorem dL_law_441 : decode cL_law 441 = .ok (.ireturn, 1) := by decide +kernel
theorem dL_law_442 : decode cL_law 442 = .ok (.aload_n 1, 1) := by decide +kernel
theorem dL_law_443 : decode cL_law 443 = .ok (.aload_n 0, 1) := by decide +kernel
theorem dL_law_444 : decode cL_law 444 = .ok (.iload_n 3, 1) := by decide +kernel
theorem dL_law_445 : decode cL_law 445 = .ok (.iconst 1, 1) := by decide +kernel
theorem dL_law_446 : decode cL_law 446 = .ok (.iadd, 1) := by decide +kernel
theorem dL_law_447 : decode cL_law 447 = .ok (.iaload, 1) := by decide +kernel
theorem dL_law_448 : decode cL_law 448 = .ok (.aload_n 0, 1) := by decide +kernel
theorem dL_law_449 : decode cL_law 449 = .ok (.iload_n 3, 1) := by decide +kernel
theorem dL_law_450 : decode cL_law 450 = .ok (.iconst 2, 1) := by decide +kernel
theorem dL_law_451 : decode cL_law 451 = .ok (.iadd, 1) := by decide +kernel
theorem dL_law_452 : decode cL_law 452 = .ok (.iaload, 1) := by decide +kernel
theorem dL_law_453 : decode cL_law 453 = .ok (.invokevirtual 41, 3) := by decide +kernel
theorem dL_law_456 : decode cL_law 456 = .ok (.aload_n 2, 1) := by decide +kernel
theorem dL_law_457 : decode cL_law 457 = .ok (.aload_n 0, 1) := by decide +kernel
theorem dL_law_458 : decode cL_law 458 = .ok (.iload_n 3, 1) := by decide +kernel
theorem dL_law_459 : decode cL_law 459 = .ok (.iconst 1, 1) := by decide +kernel
theorem dL_law_460 : decode cL_law 460 = .ok (.iadd, 1) := by decide +kernel
theorem dL_law_461 : decode cL_law 461 = .ok (.iaload, 1) := by decide +kernel
theorem dL_law_462 : decode cL_law 462 = .ok (.aload_n 0, 1) := by decide +kernel
theorem dL_law_463 : decode cL_law 463 = .ok (.iload_n 3, 1) := by decide +kernel
theorem dL_law_464 : decode cL_law 464 = .ok (.iconst 2, 1) := by decide +kernel
theorem dL_law_465 : decode cL_law 465 = .ok (.iadd, 1) := by decide +kernel
theorem dL_law_466 : decode cL_law 466 = .ok (.iaload, 1) := by decide +kernel
theorem dL_law_467 : decode cL_law 467 = .ok (.invokevirtual 44, 3) := by decide +kernel
theorem dL_law_470 : decode cL_law 470 = .ok (.if_icmp .eq 989, 3) := by decide +kernel
theorem dL_law_473 : decode cL_law 473 = .ok (.iconst 0, 1) := by decide +kernel
theorem dL_law_474 : decode cL_law 474 = .ok (.ireturn, 1) := by decide +kernel
theorem dL_law_475 : decode cL_law 475 = .ok (.aload_n 1, 1) := by decide +kernel
theorem dL_law_476 : decode cL_law 476 = .ok (.aload_n 0, 1) := by decide +kernel
theorem dL_law_477 : decode cL_law 477 = .ok (.iload_n 3, 1) := by decide +kernel
theorem dL_law_478 : decode cL_law 478 = .ok (.iconst 1, 1) := by decide +kernel
theorem dL_law_479 : decode cL_law 479 = .ok (.iadd, 1) := by decide +kernel
theorem dL_law_480 : decode cL_law 480 = .ok (.iaload, 1) := by decide +kernel
theorem dL_law_481 : decode cL_law 481 = .ok (.aload_n 0, 1) := by decide +kernel
theorem dL_law_482 : decode cL_law 482 = .ok (.iload_n 3, 1) := by decide +kernel
theorem dL_law_483 : decode cL_law 483 = .ok (.iconst 2, 1) := by decide +kernel
theorem dL_law_484 : decode cL_law 484 = .ok (.iadd, 1) := by decide +kernel
theorem dL_law_485 : decode cL_law 485 = .ok (.iaload, 1) := by decide +kernel
theorem dL_law_486 : decode cL_law 486 = .ok (.aload_n 0, 1) := by decide +kernel
theorem dL_law_487 : decode cL_law 487 = .ok (.iload_n 3, 1) := by decide +kernel
theorem dL_law_488 : decode cL_law 488 = .ok (.iconst 3, 1) := by decide +kernel
theorem dL_law_489 : decode cL_law 489 = .ok (.iadd, 1) := by decide +kernel
theorem dL_law_490 : decode cL_law 490 = .ok (.iaload, 1) := by decide +kernel
theorem dL_law_491 : decode cL_law 491 = .ok (.invokevirtual 45, 3) := by decide +kernel
theorem dL_law_494 : decode cL_law 494 = .ok (.aload_n 2, 1) := by decide +kernel
theorem dL_law_495 : decode cL_law 495 = .ok (.aload_n 0, 1) := by decide +kernel
theorem dL_law_496 : decode cL_law 496 = .ok (.iload_n 3, 1) := by decide +kernel
theorem dL_law_497 : decode cL_law 497 = .ok (.iconst 1, 1) := by decide +kernel
theorem dL_law_498 : decode cL_law 498 = .ok (.iadd, 1) := by decide +kernel
theorem dL_law_499 : decode cL_law 499 = .ok (.iaload, 1) := by decide +kernel
theorem dL_law_500 : decode cL_law 500 = .ok (.aload_n 0, 1) := by decide +kernel
theorem dL_law_501 : decode cL_law 501 = .ok (.iload_n 3, 1) := by decide +kernel
theorem dL_law_502 : decode cL_law 502 = .ok (.iconst 2, 1) := by decide +kernel
theorem dL_law_503 : decode cL_law 503 = .ok (.iadd, 1) := by decide +kernel
theorem dL_law_504 : decode cL_law 504 = .ok (.iaload, 1) := by decide +kernel
theorem dL_law_505 : decode cL_law 505 = .ok (.aload_n 0, 1) := by decide +kernel
theorem dL_law_506 : decode cL_law 506 = .ok (.iload_n 3, 1) := by decide +kernel
theorem dL_law_507 : decode cL_law 507 = .ok (.iconst 3, 1) := by decide +kernel
theorem dL_law_508 : decode cL_law 508 = .ok (.iadd, 1) := by decide +kernel
theorem dL_law_509 : decode cL_law 509 = .ok (.iaload, 1) := by decide +kernel
theorem dL_law_510 : decode cL_law 510 = .ok (.invokevirtual 48, 3) := by decide +kernel
theorem dL_law_513 : decode cL_law 513 = .ok (.if_icmp .eq 946, 3) := by decide +kernel
theorem dL_law_516 : decode cL_law 516 = .ok (.iconst 0, 1) := by decide +kernel
theorem dL_law_517 : decode cL_law 517 = .ok (.ireturn, 1) := by decide +kernel
theorem dL_law_518 : decode cL_law 518 = .ok (.aload_n 1, 1) := by decide +kernel
theorem dL_law_519 : decode cL_law 519 = .ok (.aload_n 0, 1) := by decide +kernel
theorem dL_law_520 : decode cL_law 520 = .ok (.iload_n 3, 1) := by decide +kernel
theorem dL_law_521 : decode cL_law 521 = .ok (.iconst 1, 1) := by decide +kernel
theorem dL_law_522 : decode cL_law 522 = .ok (.iadd, 1) := by decide +kernel
theorem dL_law_523 : decode cL_law 523 = .ok (.iaload, 1) := by decide +kernel
theorem dL_law_524 : decode cL_law 524 = .ok (.invokevirtual 49, 3) := by decide +kernel
theorem dL_law_527 : decode cL_law 527 = .ok (.aload_n 2, 1) := by decide +kernel
theorem dL_law_528 : decode cL_law 528 = .ok (.aload_n 0, 1) := by decide +kernel
theorem dL_law_529 : decode cL_law 529 = .ok (.iload_n 3, 1) := by decide +kernel
theorem dL_law_530 : decode cL_law 530 = .ok (.iconst 1, 1) := by decide +kernel
theorem dL_law_531 : decode cL_law 531 = .ok (.iadd, 1) := by decide +kernel
theorem dL_law_532 : decode cL_law 532 = .ok (.iaload, 1) := by decide +kernel
theorem dL_law_533 : decode cL_law 533 = .ok (.invokevirtual 52, 3) := by decide +kernel
theorem dL_law_536 : decode cL_law 536 = .ok (.if_icmp .eq 923, 3) := by decide +kernel
theorem dL_law_539 : decode cL_law 539 = .ok (.iconst 0, 1) := by decide +kernel
theorem dL_law_540 : decode cL_law 540 = .ok (.ireturn, 1) := by decide +kernel
theorem dL_law_541 : decode cL_law 541 = .ok (.aload_n 1, 1) := by decide +kernel
theorem dL_law_542 : decode cL_law 542 = .ok (.aload_n 0, 1) := by decide +kernel
theorem dL_law_543 : decode cL_law 543 = .ok (.iload_n 3, 1) := by decide +kernel
theorem dL_law_544 : decode cL_law 544 = .ok (.iconst 1, 1) := by decide +kernel
theorem dL_law_545 : decode cL_law 545 = .ok (.iadd, 1) := by decide +kernel
theorem dL_law_546 : decode cL_law 546 = .ok (.iaload, 1) := by decide +kernel
theorem dL_law_547 : decode cL_law 547 = .ok (.invokevirtual 53, 3) := by decide +kernel
theorem dL_law_550 : decode cL_law 550 = .ok (.aload_n 2, 1) := by decide +kernel
theorem dL_law_551 : decode cL_law 551 = .ok (.aload_n 0, 1) := by decide +kernel
theorem dL_law_552 : decode cL_law 552 = .ok (.iload_n 3, 1) := by decide +kernel
theorem dL_law_553 : decode cL_law 553 = .ok (.iconst 1, 1) := by decide +kernel
theorem dL_law_554 : decode cL_law 554 = .ok (.iadd, 1) := by decide +kernel
theorem dL_law_555 : decode cL_law 555 = .ok (.iaload, 1) := by decide +kernel
theorem dL_law_556 : decode cL_law 556 = .ok (.invokevirtual 56, 3) := by decide +kernel
theorem dL_law_559 : decode cL_law 559 = .ok (.if_icmp .eq 900, 3) := by decide +kernel
theorem dL_law_562 : decode cL_law 562 = .ok (.iconst 0, 1) := by decide +kernel
theorem dL_law_563 : decode cL_law 563 = .ok (.ireturn, 1) := by decide +kernel
theorem dL_law_564 : decode cL_law 564 = .ok (.aload_n 1, 1) := by decide +kernel
theorem dL_law_565 : decode cL_law 565 = .ok (.aload_n 0, 1) := by decide +kernel
theorem dL_law_566 : decode cL_law 566 = .ok (.iload_n 3, 1) := by decide +kernel
theorem dL_law_567 : decode cL_law 567 = .ok (.iconst 1, 1) := by decide +kernel
theorem dL_law_568 : decode cL_law 568 = .ok (.iadd, 1) := by decide +kernel
theorem dL_law_569 : decode cL_law 569 = .ok (.iaload, 1) := by decide +kernel
theorem dL_law_570 : decode cL_law 570 = .ok (.aload_n 0, 1) := by decide +kernel
theorem dL_law_571 : decode cL_law 571 = .ok (.iload_n 3, 1) := by decide +kernel
theorem dL_law_572 : decode cL_law 572 = .ok (.iconst 2, 1) := by decide +kernel
theorem dL_law_573 : decode cL_law 573 = .ok (.iadd, 1) := by decide +kernel
theorem dL_law_574 : decode cL_law 574 = .ok (.iaload, 1) := by decide +kernel
theorem dL_law_575 : decode cL_law 575 = .ok (.invokevirtual 57, 3) := by decide +kernel
theorem dL_law_578 : decode cL_law 578 = .ok (.aload_n 2, 1) := by decide +kernel
theorem dL_law_579 : decode cL_law 579 = .ok (.aload_n 0, 1) := by decide +kernel
theorem dL_law_580 : decode cL_law 580 = .ok (.iload_n 3, 1) := by decide +kernel
theorem dL_law_581 : decode cL_law 581 = .ok (.iconst 1, 1) := by decide +kernel
theorem dL_law_582 : decode cL_law 582 = .ok (.iadd, 1) := by decide +kernel
theorem dL_law_583 : decode cL_law 583 = .ok (.iaload, 1) := by decide +kernel
theorem dL_law_584 : decode cL_law 584 = .ok (.aload_n 0, 1) := by decide +kernel
theorem dL_law_585 : decode cL_law 585 = .ok (.iload_n 3, 1) := by decide +kernel
theorem dL_law_586 : decode cL_law 586 = .ok (.iconst 2, 1) := by decide +kernel
theorem dL_law_587 : decode cL_law 587 = .ok (.iadd, 1) := by decide +kernel
theorem dL_law_588 : decode cL_law 588 = .ok (.iaload, 1) := by decide +kernel
theorem dL_law_589 : decode cL_law 589 = .ok (.invokevirtual 60, 3) := by decide +kernel
theorem dL_law_592 : decode cL_law 592 = .ok (.if_icmp .eq 867, 3) := by decide +kernel
theorem dL_law_595 : decode cL_law 595 = .ok (.iconst 0, 1) := by decide +kernel
theorem dL_law_596 : decode cL_law 596 = .ok (.ireturn, 1) := by decide +kernel
theorem dL_law_597 : decode cL_law 597 = .ok (.aload_n 1, 1) := by decide +kernel
theorem dL_law_598 : decode cL_law 598 = .ok (.aload_n 0, 1) := by decide +kernel
theorem dL_law_599 : decode cL_law 599 = .ok (.iload_n 3, 1) := by decide +kernel
theorem dL_law_600 : decode cL_law 600 = .ok (.iconst 1, 1) := by decide +kernel
theorem dL_law_601 : decode cL_law 601 = .ok (.iadd, 1) := by decide +kernel
theorem dL_law_602 : decode cL_law 602 = .ok (.iaload, 1) := by decide +kernel
theorem dL_law_603 : decode cL_law 603 = .ok (.aload_n 0, 1) := by decide +kernel
theorem dL_law_604 : decode cL_law 604 = .ok (.iload_n 3, 1) := by decide +kernel
theorem dL_law_605 : decode cL_law 605 = .ok (.iconst 2, 1) := by decide +kernel
theorem dL_law_606 : decode cL_law 606 = .ok (.iadd, 1) := by decide +kernel
theorem dL_law_607 : decode cL_law 607 = .ok (.iaload, 1) := by decide +kernel
theorem dL_law_608 : decode cL_law 608 = .ok (.invokevirtual 61, 3) := by decide +kernel
theorem dL_law_611 : decode cL_law 611 = .ok (.aload_n 2, 1) := by decide +kernel
theorem dL_law_612 : decode cL_law 612 = .ok (.aload_n 0, 1) := by decide +kernel
theorem dL_law_613 : decode cL_law 613 = .ok (.iload_n 3, 1) := by decide +kernel
theorem dL_law_614 : decode cL_law 614 = .ok (.iconst 1, 1) := by decide +kernel
theorem dL_law_615 : decode cL_law 615 = .ok (.iadd, 1) := by decide +kernel
theorem dL_law_616 : decode cL_law 616 = .ok (.iaload, 1) := by decide +kernel
theorem dL_law_617 : decode cL_law 617 = .ok (.aload_n 0, 1) := by decide +kernel
theorem dL_law_618 : decode cL_law 618 = .ok (.iload_n 3, 1) := by decide +kernel
theorem dL_law_619 : decode cL_law 619 = .ok (.iconst 2, 1) := by decide +kernel
theorem dL_law_620 : decode cL_law 620 = .ok (.iadd, 1) := by decide +kernel
theorem dL_law_621 : decode cL_law 621 = .ok (.iaload, 1) := by decide +kernel
theorem dL_law_622 : decode cL_law 622 = .ok (.invokevirtual 64, 3) := by decide +kernel
theorem dL_law_625 : decode cL_law 625 = .ok (.if_icmp .eq 834, 3) := by decide +kernel
theorem dL_law_628 : decode cL_law 628 = .ok (.iconst 0, 1) := by decide +kernel
theorem dL_law_629 : decode cL_law 629 = .ok (.ireturn, 1) := by decide +kernel
theorem dL_law_630 : decode cL_law 630 = .ok (.aload_n 1, 1) := by decide +kernel
theorem dL_law_631 : decode cL_law 631 = .ok (.invokevirtual 65, 3) := by decide +kernel
theorem dL_law_634 : decode cL_law 634 = .ok (.aload_n 2, 1) := by decide +kernel
theorem dL_law_635 : decode cL_law 635 = .ok (.invokevirtual 69, 3) := by decide +kernel
theorem dL_law_638 : decode cL_law 638 = .ok (.if_icmp .eq 821, 3) := by decide +kernel
theorem dL_law_641 : decode cL_law 641 = .ok (.iconst 0, 1) := by decide +kernel
theorem dL_law_642 : decode cL_law 642 = .ok (.ireturn, 1) := by decide +kernel
theorem dL_law_643 : decode cL_law 643 = .ok (.aload_n 1, 1) := by decide +kernel
theorem dL_law_644 : decode cL_law 644 = .ok (.aload_n 0, 1) := by decide +kernel
theorem dL_law_645 : decode cL_law 645 = .ok (.iload_n 3, 1) := by decide +kernel
theorem dL_law_646 : decode cL_law 646 = .ok (.iconst 1, 1) := by decide +kernel
theorem dL_law_647 : decode cL_law 647 = .ok (.iadd, 1) := by decide +kernel
theorem dL_law_648 : decode cL_law 648 = .ok (.iaload, 1) := by decide +kernel
theorem dL_law_649 : decode cL_law 649 = .ok (.invokevirtual 70, 3) := by decide +kernel
theorem dL_law_652 : decode cL_law 652 = .ok (.aload_n 2, 1) := by decide +kernel
theorem dL_law_653 : decode cL_law 653 = .ok (.aload_n 0, 1) := by decide +kernel
theorem dL_law_654 : decode cL_law 654 = .ok (.iload_n 3, 1) := by decide +kernel
theorem dL_law_655 : decode cL_law 655 = .ok (.iconst 1, 1) := by decide +kernel
theorem dL_law_656 : decode cL_law 656 = .ok (.iadd, 1) := by decide +kernel
theorem dL_law_657 : decode cL_law 657 = .ok (.iaload, 1) := by decide +kernel
theorem dL_law_658 : decode cL_law 658 = .ok (.invokevirtual 73, 3) := by decide +kernel
theorem dL_law_661 : decode cL_law 661 = .ok (.if_icmp .eq 798, 3) := by decide +kernel
theorem dL_law_664 : decode cL_law 664 = .ok (.iconst 0, 1) := by decide +kernel
theorem dL_law_665 : decode cL_law 665 = .ok (.ireturn, 1) := by decide +kernel
theorem dL_law_666 : decode cL_law 666 = .ok (.aload_n 1, 1) := by decide +kernel
theorem dL_law_667 : decode cL_law 667 = .ok (.aload_n 0, 1) := by decide +kernel
theorem dL_law_668 : decode cL_law 668 = .ok (.iload_n 3, 1) := by decide +kernel
theorem dL_law_669 : decode cL_law 669 = .ok (.iconst 1, 1) := by decide +kernel
theorem dL_law_670 : decode cL_law 670 = .ok (.iadd, 1) := by decide +kernel
theorem dL_law_671 : decode cL_law 671 = .ok (.iaload, 1) := by decide +kernel
theorem dL_law_672 : decode cL_law 672 = .ok (.invokevirtual 74, 3) := by decide +kernel
theorem dL_law_675 : decode cL_law 675 = .ok (.aload_n 2, 1) := by decide +kernel
theorem dL_law_676 : decode cL_law 676 = .ok (.aload_n 0, 1) := by decide +kernel
theorem dL_law_677 : decode cL_law 677 = .ok (.iload_n 3, 1) := by decide +kernel
theorem dL_law_678 : decode cL_law 678 = .ok (.iconst 1, 1) := by decide +kernel
theorem dL_law_679 : decode cL_law 679 = .ok (.iadd, 1) := by decide +kernel
theorem dL_law_680 : decode cL_law 680 = .ok (.iaload, 1) := by decide +kernel
theorem dL_law_681 : decode cL_law 681 = .ok (.invokevirtual 77, 3) := by decide +kernel
theorem dL_law_684 : decode cL_law 684 = .ok (.if_icmp .eq 775, 3) := by decide +kernel
theorem dL_law_687 : decode cL_law 687 = .ok (.iconst 0, 1) := by decide +kernel
theorem dL_law_688 : decode cL_law 688 = .ok (.ireturn, 1) := by decide +kernel
theorem dL_law_689 : decode cL_law 689 = .ok (.aload_n 1, 1) := by decide +kernel
theorem dL_law_690 : decode cL_law 690 = .ok (.aload_n 0, 1) := by decide +kernel
theorem dL_law_691 : decode cL_law 691 = .ok (.iload_n 3, 1) := by decide +kernel
theorem dL_law_692 : decode cL_law 692 = .ok (.iconst 1, 1) := by decide +kernel
theorem dL_law_693 : decode cL_law 693 = .ok (.iadd, 1) := by decide +kernel
theorem dL_law_694 : decode cL_law 694 = .ok (.iaload, 1) := by decide +kernel
theorem dL_law_695 : decode cL_law 695 = .ok (.invokevirtual 78, 3) := by decide +kernel
theorem dL_law_698 : decode cL_law 698 = .ok (.aload_n 2, 1) := by decide +kernel
theorem dL_law_699 : decode cL_law 699 = .ok (.aload_n 0, 1) := by decide +kernel
theorem dL_law_700 : decode cL_law 700 = .ok (.iload_n 3, 1) := by decide +kernel
theorem dL_law_701 : decode cL_law 701 = .ok (.iconst 1, 1) := by decide +kernel
theorem dL_law_702 : decode cL_law 702 = .ok (.iadd, 1) := by decide +kernel
theorem dL_law_703 : decode cL_law 703 = .ok (.iaload, 1) := by decide +kernel
theorem dL_law_704 : decode cL_law 704 = .ok (.invokevirtual 81, 3) := by decide +kernel
theorem dL_law_707 : decode cL_law 707 = .ok (.if_icmp .eq 752, 3) := by decide +kernel
theorem dL_law_710 : decode cL_law 710 = .ok (.iconst 0, 1) := by decide +kernel
theorem dL_law_711 : decode cL_law 711 = .ok (.ireturn, 1) := by decide +kernel
theorem dL_law_712 : decode cL_law 712 = .ok (.aload_n 1, 1) := by decide +kernel
theorem dL_law_713 : decode cL_law 713 = .ok (.aload_n 0, 1) := by decide +kernel
theorem dL_law_714 : decode cL_law 714 = .ok (.iload_n 3, 1) := by decide +kernel
theorem dL_law_715 : decode cL_law 715 = .ok (.iconst 1, 1) := by decide +kernel
theorem dL_law_716 : decode cL_law 716 = .ok (.iadd, 1) := by decide +kernel
theorem dL_law_717 : decode cL_law 717 = .ok (.iaload, 1) := by decide +kernel
theorem dL_law_718 : decode cL_law 718 = .ok (.aload_n 0, 1) := by decide +kernel
theorem dL_law_719 : decode cL_law 719 = .ok (.iload_n 3, 1) := by decide +kernel
theorem dL_law_720 : decode cL_law 720 = .ok (.iconst 2, 1) := by decide +kernel
theorem dL_law_721 : decode cL_law 721 = .ok (.iadd, 1) := by decide +kernel
theorem dL_law_722 : decode cL_law 722 = .ok (.iaload, 1) := by decide +kernel
theorem dL_law_723 : decode cL_law 723 = .ok (.invokevirtual 82, 3) := by decide +kernel
theorem dL_law_726 : decode cL_law 726 = .ok (.aload_n 2, 1) := by decide +kernel
theorem dL_law_727 : decode cL_law 727 = .ok (.aload_n 0, 1) := by decide +kernel
theorem dL_law_728 : decode cL_law 728 = .ok (.iload_n 3, 1) := by decide +kernel
theorem dL_law_729 : decode cL_law 729 = .ok (.iconst 1, 1) := by decide +kernel
theorem dL_law_730 : decode cL_law 730 = .ok (.iadd, 1) := by decide +kernel
theorem dL_law_731 : decode cL_law 731 = .ok (.iaload, 1) := by decide +kernel
theorem dL_law_732 : decode cL_law 732 = .ok (.aload_n 0, 1) := by decide +kernel
theorem dL_law_733 : decode cL_law 733 = .ok (.iload_n 3, 1) := by decide +kernel
theorem dL_law_734 : decode cL_law 734 = .ok (.iconst 2, 1) := by decide +kernel
theorem dL_law_735 : decode cL_law 735 = .ok (.iadd, 1) := by decide +kernel
theorem dL_law_736 : decode cL_law 736 = .ok (.iaload, 1) := by decide +kernel
theorem dL_law_737 : decode cL_law 737 = .ok (.invokevirtual 85, 3) := by decide +kernel
theorem dL_law_740 : decode cL_law 740 = .ok (.if_icmp .eq 719, 3) := by decide +kernel
theorem dL_law_743 : decode cL_law 743 = .ok (.iconst 0, 1) := by decide +kernel
theorem dL_law_744 : decode cL_law 744 = .ok (.ireturn, 1) := by decide +kernel
theorem dL_law_745 : decode cL_law 745 = .ok (.aload_n 1, 1) := by decide +kernel
theorem dL_law_746 : decode cL_law 746 = .ok (.aload_n 0, 1) := by decide +kernel
theorem dL_law_747 : decode cL_law 747 = .ok (.iload_n 3, 1) := by decide +kernel
theorem dL_law_748 : decode cL_law 748 = .ok (.iconst 1, 1) := by decide +kernel
theorem dL_law_749 : decode cL_law 749 = .ok (.iadd, 1) := by decide +kernel
theorem dL_law_750 : decode cL_law 750 = .ok (.iaload, 1) := by decide +kernel
theorem dL_law_751 : decode cL_law 751 = .ok (.invokevirtual 86, 3) := by decide +kernel
theorem dL_law_754 : decode cL_law 754 = .ok (.aload_n 2, 1) := by decide +kernel
theorem dL_law_755 : decode cL_law 755 = .ok (.aload_n 0, 1) := by decide +kernel
theorem dL_law_756 : decode cL_law 756 = .ok (.iload_n 3, 1) := by decide +kernel
theorem dL_law_757 : decode cL_law 757 = .ok (.iconst 1, 1) := by decide +kernel
theorem dL_law_758 : decode cL_law 758 = .ok (.iadd, 1) := by decide +kernel
theorem dL_law_759 : decode cL_law 759 = .ok (.iaload, 1) := by decide +kernel
theorem dL_law_760 : decode cL_law 760 = .ok (.invokevirtual 89, 3) := by decide +kernel
theorem dL_law_763 : decode cL_law 763 = .ok (.if_icmp .eq 696, 3) := by decide +kernel
theorem dL_law_766 : decode cL_law 766 = .ok (.iconst 0, 1) := by decide +kernel
theorem dL_law_767 : decode cL_law 767 = .ok (.ireturn, 1) := by decide +kernel
theorem dL_law_768 : decode cL_law 768 = .ok (.aload_n 1, 1) := by decide +kernel
theorem dL_law_769 : decode cL_law 769 = .ok (.aload_n 0, 1) := by decide +kernel
theorem dL_law_770 : decode cL_law 770 = .ok (.iload_n 3, 1) := by decide +kernel
theorem dL_law_771 : decode cL_law 771 = .ok (.iconst 1, 1) := by decide +kernel
theorem dL_law_772 : decode cL_law 772 = .ok (.iadd, 1) := by decide +kernel
theorem dL_law_773 : decode cL_law 773 = .ok (.iaload, 1) := by decide +kernel
theorem dL_law_774 : decode cL_law 774 = .ok (.invokevirtual 90, 3) := by decide +kernel
theorem dL_law_777 : decode cL_law 777 = .ok (.aload_n 2, 1) := by decide +kernel
theorem dL_law_778 : decode cL_law 778 = .ok (.aload_n 0, 1) := by decide +kernel
theorem dL_law_779 : decode cL_law 779 = .ok (.iload_n 3, 1) := by decide +kernel
theorem dL_law_780 : decode cL_law 780 = .ok (.iconst 1, 1) := by decide +kernel
theorem dL_law_781 : decode cL_law 781 = .ok (.iadd, 1) := by decide +kernel
theorem dL_law_782 : decode cL_law 782 = .ok (.iaload, 1) := by decide +kernel
theorem dL_law_783 : decode cL_law 783 = .ok (.invokevirtual 93, 3) := by decide +kernel
theorem dL_law_786 : decode cL_law 786 = .ok (.if_icmp .eq 673, 3) := by decide +kernel
theorem dL_law_789 : decode cL_law 789 = .ok (.iconst 0, 1) := by decide +kernel
theorem dL_law_790 : decode cL_law 790 = .ok (.ireturn, 1) := by decide +kernel
theorem dL_law_791 : decode cL_law 791 = .ok (.aload_n 1, 1) := by decide +kernel
theorem dL_law_792 : decode cL_law 792 = .ok (.aload_n 0, 1) := by decide +kernel
theorem dL_law_793 : decode cL_law 793 = .ok (.iload_n 3, 1) := by decide +kernel
theorem dL_law_794 : decode cL_law 794 = .ok (.iconst 1, 1) := by decide +kernel
theorem dL_law_795 : decode cL_law 795 = .ok (.iadd, 1) := by decide +kernel
theorem dL_law_796 : decode cL_law 796 = .ok (.iaload, 1) := by decide +kernel
theorem dL_law_797 : decode cL_law 797 = .ok (.invokevirtual 94, 3) := by decide +kernel
theorem dL_law_800 : decode cL_law 800 = .ok (.aload_n 2, 1) := by decide +kernel
theorem dL_law_801 : decode cL_law 801 = .ok (.aload_n 0, 1) := by decide +kernel
theorem dL_law_802 : decode cL_law 802 = .ok (.iload_n 3, 1) := by decide +kernel
theorem dL_law_803 : decode cL_law 803 = .ok (.iconst 1, 1) := by decide +kernel
theorem dL_law_804 : decode cL_law 804 = .ok (.iadd, 1) := by decide +kernel
theorem dL_law_805 : decode cL_law 805 = .ok (.iaload, 1) := by decide +kernel
theorem dL_law_806 : decode cL_law 806 = .ok (.invokevirtual 97, 3) := by decide +kernel
theorem dL_law_809 : decode cL_law 809 = .ok (.if_icmp .eq 650, 3) := by decide +kernel
theorem dL_law_812 : decode cL_law 812 = .ok (.iconst 0, 1) := by decide +kernel
theorem dL_law_813 : decode cL_law 813 = .ok (.ireturn, 1) := by decide +kernel
theorem dL_law_814 : decode cL_law 814 = .ok (.aload_n 1, 1) := by decide +kernel
theorem dL_law_815 : decode cL_law 815 = .ok (.aload_n 0, 1) := by decide +kernel
theorem dL_law_816 : decode cL_law 816 = .ok (.iload_n 3, 1) := by decide +kernel
theorem dL_law_817 : decode cL_law 817 = .ok (.iconst 1, 1) := by decide +kernel
theorem dL_law_818 : decode cL_law 818 = .ok (.iadd, 1) := by decide +kernel
theorem dL_law_819 : decode cL_law 819 = .ok (.iaload, 1) := by decide +kernel
theorem dL_law_820 : decode cL_law 820 = .ok (.aload_n 0, 1) := by decide +kernel
theorem dL_law_821 : decode cL_law 821 = .ok (.iload_n 3, 1) := by decide +kernel
theorem dL_law_822 : decode cL_law 822 = .ok (.iconst 2, 1) := by decide +kernel
theorem dL_law_823 : decode cL_law 823 = .ok (.iadd, 1) := by decide +kernel
theorem dL_law_824 : decode cL_law 824 = .ok (.iaload, 1) := by decide +kernel
theorem dL_law_825 : decode cL_law 825 = .ok (.invokevirtual 98, 3) := by decide +kernel
theorem dL_law_828 : decode cL_law 828 = .ok (.aload_n 2, 1) := by decide +kernel
theorem dL_law_829 : decode cL_law 829 = .ok (.aload_n 0, 1) := by decide +kernel
theorem dL_law_830 : decode cL_law 830 = .ok (.iload_n 3, 1) := by decide +kernel
theorem dL_law_831 : decode cL_law 831 = .ok (.iconst 1, 1) := by decide +kernel
theorem dL_law_832 : decode cL_law 832 = .ok (.iadd, 1) := by decide +kernel
theorem dL_law_833 : decode cL_law 833 = .ok (.iaload, 1) := by decide +kernel
theorem dL_law_834 : decode cL_law 834 = .ok (.aload_n 0, 1) := by decide +kernel
theorem dL_law_835 : decode cL_law 835 = .ok (.iload_n 3, 1) := by decide +kernel
theorem dL_law_836 : decode cL_law 836 = .ok (.iconst 2, 1) := by decide +kernel
theorem dL_law_837 : decode cL_law 837 = .ok (.iadd, 1) := by decide +kernel
theorem dL_law_838 : decode cL_law 838 = .ok (.iaload, 1) := by decide +kernel
theorem dL_law_839 : decode cL_law 839 = .ok (.invokevirtual 101, 3) := by decide +kernel
theorem dL_law_842 : decode cL_law 842 = .ok (.if_icmp .eq 617, 3) := by decide +kernel
theorem dL_law_845 : decode cL_law 845 = .ok (.iconst 0, 1) := by decide +kernel
theorem dL_law_846 : decode cL_law 846 = .ok (.ireturn, 1) := by decide +kernel
theorem dL_law_847 : decode cL_law 847 = .ok (.aload_n 1, 1) := by decide +kernel
theorem dL_law_848 : decode cL_law 848 = .ok (.aload_n 0, 1) := by decide +kernel
theorem dL_law_849 : decode cL_law 849 = .ok (.iload_n 3, 1) := by decide +kernel
theorem dL_law_850 : decode cL_law 850 = .ok (.iconst 1, 1) := by decide +kernel
theorem dL_law_851 : decode cL_law 851 = .ok (.iadd, 1) := by decide +kernel
theorem dL_law_852 : decode cL_law 852 = .ok (.iaload, 1) := by decide +kernel
theorem dL_law_853 : decode cL_law 853 = .ok (.invokevirtual 102, 3) := by decide +kernel
theorem dL_law_856 : decode cL_law 856 = .ok (.aload_n 2, 1) := by decide +kernel
theorem dL_law_857 : decode cL_law 857 = .ok (.aload_n 0, 1) := by decide +kernel
theorem dL_law_858 : decode cL_law 858 = .ok (.iload_n 3, 1) := by decide +kernel
theorem dL_law_859 : decode cL_law 859 = .ok (.iconst 1, 1) := by decide +kernel
theorem dL_law_860 : decode cL_law 860 = .ok (.iadd, 1) := by decide +kernel
theorem dL_law_861 : decode cL_law 861 = .ok (.iaload, 1) := by decide +kernel
theorem dL_law_862 : decode cL_law 862 = .ok (.invokevirtual 105, 3) := by decide +kernel
theorem dL_law_865 : decode cL_law 865 = .ok (.if_icmp .eq 594, 3) := by decide +kernel
theorem dL_law_868 : decode cL_law 868 = .ok (.iconst 0, 1) := by decide +kernel
theorem dL_law_869 : decode cL_law 869 = .ok (.ireturn, 1) := by decide +kernel
theorem dL_law_870 : decode cL_law 870 = .ok (.aload_n 1, 1) := by decide +kernel
theorem dL_law_871 : decode cL_law 871 = .ok (.aload_n 0, 1) := by decide +kernel
theorem dL_law_872 : decode cL_law 872 = .ok (.iload_n 3, 1) := by decide +kernel
theorem dL_law_873 : decode cL_law 873 = .ok (.iconst 1, 1) := by decide +kernel
theorem dL_law_874 : decode cL_law 874 = .ok (.iadd, 1) := by decide +kernel
theorem dL_law_875 : decode cL_law 875 = .ok (.iaload, 1) := by decide +kernel
theorem dL_law_876 : decode cL_law 876 = .ok (.aload_n 0, 1) := by decide +kernel
theorem dL_law_877 : decode cL_law 877 = .ok (.iload_n 3, 1) := by decide +kernel
theorem dL_law_878 : decode cL_law 878 = .ok (.iconst 2, 1) := by decide +kernel
theorem dL_law_879 : decode cL_law 879 = .ok (.iadd, 1) := by decide +kernel
theorem dL_law_880 : decode cL_law 880 = .ok (.iaload, 1) := by decide +kernel
theorem dL_law_881 : decode cL_law 881 = .ok (.invokevirtual 106, 3) := by decide +kernel
theorem dL_law_884 : decode cL_law 884 = .ok (.aload_n 2, 1) := by decide +kernel
theorem dL_law_885 : decode cL_law 885 = .ok (.aload_n 0, 1) := by decide +kernel
theorem dL_law_886 : decode cL_law 886 = .ok (.iload_n 3, 1) := by decide +kernel
theorem dL_law_887 : decode cL_law 887 = .ok (.iconst 1, 1) := by decide +kernel
theorem dL_law_888 : decode cL_law 888 = .ok (.iadd, 1) := by decide +kernel
theorem dL_law_889 : decode cL_law 889 = .ok (.iaload, 1) := by decide +kernel
theorem dL_law_890 : decode cL_law 890 = .ok (.aload_n 0, 1) := by decide +kernel
theorem dL_law_891 : decode cL_law 891 = .ok (.iload_n 3, 1) := by decide +kernel
theorem dL_law_892 : decode cL_law 892 = .ok (.iconst 2, 1) := by decide +kernel
theorem dL_law_893 : decode cL_law 893 = .ok (.iadd, 1) := by decide +kernel
theorem dL_law_894 : decode cL_law 894 = .ok (.iaload, 1) := by decide +kernel
theorem dL_law_895 : decode cL_law 895 = .ok (.invokevirtual 109, 3) := by decide +kernel
theorem dL_law_898 : decode cL_law 898 = .ok (.if_icmp .eq 561, 3) := by decide +kernel
theorem dL_law_901 : decode cL_law 901 = .ok (.iconst 0, 1) := by decide +kernel
theorem dL_law_902 : decode cL_law 902 = .ok (.ireturn, 1) := by decide +kernel
theorem dL_law_903 : decode cL_law 903 = .ok (.aload_n 1, 1) := by decide +kernel
theorem dL_law_904 : decode cL_law 904 = .ok (.aload_n 0, 1) := by decide +kernel
theorem dL_law_905 : decode cL_law 905 = .ok (.iload_n 3, 1) := by decide +kernel
theorem dL_law_906 : decode cL_law 906 = .ok (.iconst 1, 1) := by decide +kernel
theorem dL_law_907 : decode cL_law 907 = .ok (.iadd, 1) := by decide +kernel
theorem dL_law_908 : decode cL_law 908 = .ok (.iaload, 1) := by decide +kernel
theorem dL_law_909 : decode cL_law 909 = .ok (.invokevirtual 110, 3) := by decide +kernel
theorem dL_law_912 : decode cL_law 912 = .ok (.aload_n 2, 1) := by decide +kernel
theorem dL_law_913 : decode cL_law 913 = .ok (.aload_n 0, 1) := by decide +kernel
theorem dL_law_914 : decode cL_law 914 = .ok (.iload_n 3, 1) := by decide +kernel
theorem dL_law_915 : decode cL_law 915 = .ok (.iconst 1, 1) := by decide +kernel
theorem dL_law_916 : decode cL_law 916 = .ok (.iadd, 1) := by decide +kernel
theorem dL_law_917 : decode cL_law 917 = .ok (.iaload, 1) := by decide +kernel
theorem dL_law_918 : decode cL_law 918 = .ok (.invokevirtual 113, 3) := by decide +kernel
theorem dL_law_921 : decode cL_law 921 = .ok (.if_icmp .eq 538, 3) := by decide +kernel
theorem dL_law_924 : decode cL_law 924 = .ok (.iconst 0, 1) := by decide +kernel
theorem dL_law_925 : decode cL_law 925 = .ok (.ireturn, 1) := by decide +kernel
theorem dL_law_926 : decode cL_law 926 = .ok (.aload_n 1, 1) := by decide +kernel
theorem dL_law_927 : decode cL_law 927 = .ok (.aload_n 0, 1) := by decide +kernel
theorem dL_law_928 : decode cL_law 928 = .ok (.iload_n 3, 1) := by decide +kernel
theorem dL_law_929 : decode cL_law 929 = .ok (.iconst 1, 1) := by decide +kernel
theorem dL_law_930 : decode cL_law 930 = .ok (.iadd, 1) := by decide +kernel
theorem dL_law_931 : decode cL_law 931 = .ok (.iaload, 1) := by decide +kernel
theorem dL_law_932 : decode cL_law 932 = .ok (.aload_n 0, 1) := by decide +kernel
theorem dL_law_933 : decode cL_law 933 = .ok (.iload_n 3, 1) := by decide +kernel
theorem dL_law_934 : decode cL_law 934 = .ok (.iconst 2, 1) := by decide +kernel
theorem dL_law_935 : decode cL_law 935 = .ok (.iadd, 1) := by decide +kernel
theorem dL_law_936 : decode cL_law 936 = .ok (.iaload, 1) := by decide +kernel
theorem dL_law_937 : decode cL_law 937 = .ok (.aload_n 0, 1) := by decide +kernel
theorem dL_law_938 : decode cL_law 938 = .ok (.iload_n 3, 1) := by decide +kernel
theorem dL_law_939 : decode cL_law 939 = .ok (.iconst 3, 1) := by decide +kernel
theorem dL_law_940 : decode cL_law 940 = .ok (.iadd, 1) := by decide +kernel
theorem dL_law_941 : decode cL_law 941 = .ok (.iaload, 1) := by decide +kernel
theorem dL_law_942 : decode cL_law 942 = .ok (.invokevirtual 114, 3) := by decide +kernel
theorem dL_law_945 : decode cL_law 945 = .ok (.aload_n 2, 1) := by decide +kernel
theorem dL_law_946 : decode cL_law 946 = .ok (.aload_n 0, 1) := by decide +kernel
theorem dL_law_947 : decode cL_law 947 = .ok (.iload_n 3, 1) := by decide +kernel
theorem dL_law_948 : decode cL_law 948 = .ok (.iconst 1, 1) := by decide +kernel
theorem dL_law_949 : decode cL_law 949 = .ok (.iadd, 1) := by decide +kernel
theorem dL_law_950 : decode cL_law 950 = .ok (.iaload, 1) := by decide +kernel
theorem dL_law_951 : decode cL_law 951 = .ok (.aload_n 0, 1) := by decide +kernel
theorem dL_law_952 : decode cL_law 952 = .ok (.iload_n 3, 1) := by decide +kernel
theorem dL_law_953 : decode cL_law 953 = .ok (.iconst 2, 1) := by decide +kernel
theorem dL_law_954 : decode cL_law 954 = .ok (.iadd, 1) := by decide +kernel
theorem dL_law_955 : decode cL_law 955 = .ok (.iaload, 1) := by decide +kernel
theorem dL_law_956 : decode cL_law 956 = .ok (.aload_n 0, 1) := by decide +kernel
theorem dL_law_957 : decode cL_law 957 = .ok (.iload_n 3, 1) := by decide +kernel
theorem dL_law_958 : decode cL_law 958 = .ok (.iconst 3, 1) := by decide +kernel
theorem dL_law_959 : decode cL_law 959 = .ok (.iadd, 1) := by decide +kernel
theorem dL_law_960 : decode cL_law 960 = .ok (.iaload, 1) := by decide +kernel
theorem dL_law_961 : decode cL_law 961 = .ok (.invokevirtual 117, 3) := by decide +kernel
theorem dL_law_964 : decode cL_law 964 = .ok (.if_icmp .eq 495, 3) := by decide +kernel
theorem dL_law_967 : decode cL_law 967 = .ok (.iconst 0, 1) := by decide +kernel
theorem dL_law_968 : decode cL_law 968 = .ok (.ireturn, 1) := by decide +kernel
theorem dL_law_969 : decode cL_law 969 = .ok (.aload_n 1, 1) := by decide +kernel
theorem dL_law_970 : decode cL_law 970 = .ok (.aload_n 0, 1) := by decide +kernel
theorem dL_law_971 : decode cL_law 971 = .ok (.iload_n 3, 1) := by decide +kernel
theorem dL_law_972 : decode cL_law 972 = .ok (.iconst 1, 1) := by decide +kernel
theorem dL_law_973 : decode cL_law 973 = .ok (.iadd, 1) := by decide +kernel
theorem dL_law_974 : decode cL_law 974 = .ok (.iaload, 1) := by decide +kernel
theorem dL_law_975 : decode cL_law 975 = .ok (.aload_n 0, 1) := by decide +kernel
theorem dL_law_976 : decode cL_law 976 = .ok (.iload_n 3, 1) := by decide +kernel
theorem dL_law_977 : decode cL_law 977 = .ok (.iconst 2, 1) := by decide +kernel
theorem dL_law_978 : decode cL_law 978 = .ok (.iadd, 1) := by decide +kernel
theorem dL_law_979 : decode cL_law 979 = .ok (.iaload, 1) := by decide +kernel
theorem dL_law_980 : decode cL_law 980 = .ok (.invokevirtual 118, 3) := by decide +kernel
theorem dL_law_983 : decode cL_law 983 = .ok (.aload_n 2, 1) := by decide +kernel
theorem dL_law_984 : decode cL_law 984 = .ok (.aload_n 0, 1) := by decide +kernel
theorem dL_law_985 : decode cL_law 985 = .ok (.iload_n 3, 1) := by decide +kernel
theorem dL_law_986 : decode cL_law 986 = .ok (.iconst 1, 1) := by decide +kernel
theorem dL_law_987 : decode cL_law 987 = .ok (.iadd, 1) := by decide +kernel
theorem dL_law_988 : decode cL_law 988 = .ok (.iaload, 1) := by decide +kernel
theorem dL_law_989 : decode cL_law 989 = .ok (.aload_n 0, 1) := by decide +kernel
theorem dL_law_990 : decode cL_law 990 = .ok (.iload_n 3, 1) := by decide +kernel
theorem dL_law_991 : decode cL_law 991 = .ok (.iconst 2, 1) := by decide +kernel
theorem dL_law_992 : decode cL_law 992 = .ok (.iadd, 1) := by decide +kernel
theorem dL_law_993 : decode cL_law 993 = .ok (.iaload, 1) := by decide +kernel
theorem dL_law_994 : decode cL_law 994 = .ok (.invokevirtual 121, 3) := by decide +kernel
theorem dL_law_997 : decode cL_law 997 = .ok (.if_icmp .eq 462, 3) := by decide +kernel
theorem dL_law_1000 : decode cL_law 1000 = .ok (.iconst 0, 1) := by decide +kernel
theorem dL_law_1001 : decode cL_law 1001 = .ok (.ireturn, 1) := by decide +kernel
theorem dL_law_1002 : decode cL_law 1002 = .ok (.aload_n 1, 1) := by decide +kernel
theorem dL_law_1003 : decode cL_law 1003 = .ok (.aload_n 0, 1) := by decide +kernel
theorem dL_law_1004 : decode cL_law 1004 = .ok (.iload_n 3, 1) := by decide +kernel
theorem dL_law_1005 : decode cL_law 1005 = .ok (.iconst 1, 1) := by decide +kernel
theorem dL_law_1006 : decode cL_law 1006 = .ok (.iadd, 1) := by decide +kernel
theorem dL_law_1007 : decode cL_law 1007 = .ok (.iaload, 1) := by decide +kernel
theorem dL_law_1008 : decode cL_law 1008 = .ok (.aload_n 0, 1) := by decide +kernel
theorem dL_law_1009 : decode cL_law 1009 = .ok (.iload_n 3, 1) := by decide +kernel
theorem dL_law_1010 : decode cL_law 1010 = .ok (.iconst 2, 1) := by decide +kernel
theorem dL_law_1011 : decode cL_law 1011 = .ok (.iadd, 1) := by decide +kernel
theorem dL_law_1012 : decode cL_law 1012 = .ok (.iaload, 1) := by decide +kernel
theorem dL_law_1013 : decode cL_law 1013 = .ok (.invokevirtual 122, 3) := by decide +kernel
theorem dL_law_1016 : decode cL_law 1016 = .ok (.aload_n 2, 1) := by decide +kernel
theorem dL_law_1017 : decode cL_law 1017 = .ok (.aload_n 0, 1) := by decide +kernel
theorem dL_law_1018 : decode cL_law 1018 = .ok (.iload_n 3, 1) := by decide +kernel
theorem dL_law_1019 : decode cL_law 1019 = .ok (.iconst 1, 1) := by decide +kernel
theorem dL_law_1020 : decode cL_law 1020 = .ok (.iadd, 1) := by decide +kernel
theorem dL_law_1021 : decode cL_law 1021 = .ok (.iaload, 1) := by decide +kernel
theorem dL_law_1022 : decode cL_law 1022 = .ok (.aload_n 0, 1) := by decide +kernel
theorem dL_law_1023 : decode cL_law 1023 = .ok (.iload_n 3, 1) := by decide +kernel
theorem dL_law_1024 : decode cL_law 1024 = .ok (.iconst 2, 1) := by decide +kernel
theorem dL_law_1025 : decode cL_law 1025 = .ok (.iadd, 1) := by decide +kernel
theorem dL_law_1026 : decode cL_law 1026 = .ok (.iaload, 1) := by decide +kernel
theorem dL_law_1027 : decode cL_law 1027 = .ok (.invokevirtual 125, 3) := by decide +kernel
theorem dL_law_1030 : decode cL_law 1030 = .ok (.if_icmp .eq 429, 3) := by decide +kernel
theorem dL_law_1033 : decode cL_law 1033 = .ok (.iconst 0, 1) := by decide +kernel
theorem dL_law_1034 : decode cL_law 1034 = .ok (.ireturn, 1) := by decide +kernel
theorem dL_law_1035 : decode cL_law 1035 = .ok (.aload_n 1, 1) := by decide +kernel
theorem dL_law_1036 : decode cL_law 1036 = .ok (.aload_n 0, 1) := by decide +kernel
theorem dL_law_1037 : decode cL_law 1037 = .ok (.iload_n 3, 1) := by decide +kernel
theorem dL_law_1038 : decode cL_law 1038 = .ok (.iconst 1, 1) := by decide +kernel
theorem dL_law_1039 : decode cL_law 1039 = .ok (.iadd, 1) := by decide +kernel
theorem dL_law_1040 : decode cL_law 1040 = .ok (.iaload, 1) := by decide +kernel
theorem dL_law_1041 : decode cL_law 1041 = .ok (.aload_n 0, 1) := by decide +kernel
theorem dL_law_1042 : decode cL_law 1042 = .ok (.iload_n 3, 1) := by decide +kernel
theorem dL_law_1043 : decode cL_law 1043 = .ok (.iconst 2, 1) := by decide +kernel
theorem dL_law_1044 : decode cL_law 1044 = .ok (.iadd, 1) := by decide +kernel
theorem dL_law_1045 : decode cL_law 1045 = .ok (.iaload, 1) := by decide +kernel
theorem dL_law_1046 : decode cL_law 1046 = .ok (.invokevirtual 126, 3) := by decide +kernel
theorem dL_law_1049 : decode cL_law 1049 = .ok (.aload_n 2, 1) := by decide +kernel
theorem dL_law_1050 : decode cL_law 1050 = .ok (.aload_n 0, 1) := by decide +kernel
theorem dL_law_1051 : decode cL_law 1051 = .ok (.iload_n 3, 1) := by decide +kernel
theorem dL_law_1052 : decode cL_law 1052 = .ok (.iconst 1, 1) := by decide +kernel
theorem dL_law_1053 : decode cL_law 1053 = .ok (.iadd, 1) := by decide +kernel
theorem dL_law_1054 : decode cL_law 1054 = .ok (.iaload, 1) := by decide +kernel
theorem dL_law_1055 : decode cL_law 1055 = .ok (.aload_n 0, 1) := by decide +kernel
theorem dL_law_1056 : decode cL_law 1056 = .ok (.iload_n 3, 1) := by decide +kernel
theorem dL_law_1057 : decode cL_law 1057 = .ok (.iconst 2, 1) := by decide +kernel
theorem dL_law_1058 : decode cL_law 1058 = .ok (.iadd, 1) := by decide +kernel
theorem dL_law_1059 : decode cL_law 1059 = .ok (.iaload, 1) := by decide +kernel
theorem dL_law_1060 : decode cL_law 1060 = .ok (.invokevirtual 129, 3) := by decide +kernel
theorem dL_law_1063 : decode cL_law 1063 = .ok (.if_icmp .eq 396, 3) := by decide +kernel
theorem dL_law_1066 : decode cL_law 1066 = .ok (.iconst 0, 1) := by decide +kernel
theorem dL_law_1067 : decode cL_law 1067 = .ok (.ireturn, 1) := by decide +kernel
theorem dL_law_1068 : decode cL_law 1068 = .ok (.aload_n 1, 1) := by decide +kernel
theorem dL_law_1069 : decode cL_law 1069 = .ok (.aload_n 0, 1) := by decide +kernel
theorem dL_law_1070 : decode cL_law 1070 = .ok (.iload_n 3, 1) := by decide +kernel
theorem dL_law_1071 : decode cL_law 1071 = .ok (.iconst 1, 1) := by decide +kernel
theorem dL_law_1072 : decode cL_law 1072 = .ok (.iadd, 1) := by decide +kernel
theorem dL_law_1073 : decode cL_law 1073 = .ok (.iaload, 1) := by decide +kernel
theorem dL_law_1074 : decode cL_law 1074 = .ok (.aload_n 0, 1) := by decide +kernel
theorem dL_law_1075 : decode cL_law 1075 = .ok (.iload_n 3, 1) := by decide +kernel
theorem dL_law_1076 : decode cL_law 1076 = .ok (.iconst 2, 1) := by decide +kernel
theorem dL_law_1077 : decode cL_law 1077 = .ok (.iadd, 1) := by decide +kernel
theorem dL_law_1078 : decode cL_law 1078 = .ok (.iaload, 1) := by decide +kernel
theorem dL_law_1079 : decode cL_law 1079 = .ok (.invokevirtual 130, 3) := by decide +kernel
theorem dL_law_1082 : decode cL_law 1082 = .ok (.aload_n 2, 1) := by decide +kernel
theorem dL_law_1083 : decode cL_law 1083 = .ok (.aload_n 0, 1) := by decide +kernel
theorem dL_law_1084 : decode cL_law 1084 = .ok (.iload_n 3, 1) := by decide +kernel
theorem dL_law_1085 : decode cL_law 1085 = .ok (.iconst 1, 1) := by decide +kernel
theorem dL_law_1086 : decode cL_law 1086 = .ok (.iadd, 1) := by decide +kernel
theorem dL_law_1087 : decode cL_law 1087 = .ok (.iaload, 1) := by decide +kernel
theorem dL_law_1088 : decode cL_law 1088 = .ok (.aload_n 0, 1) := by decide +kernel
theorem dL_law_1089 : decode cL_law 1089 = .ok (.iload_n 3, 1) := by decide +kernel
theorem dL_law_1090 : decode cL_law 1090 = .ok (.iconst 2, 1) := by decide +kernel
theorem dL_law_1091 : decode cL_law 1091 = .ok (.iadd, 1) := by decide +kernel
theorem dL_law_1092 : decode cL_law 1092 = .ok (.iaload, 1) := by decide +kernel
theorem dL_law_1093 : decode cL_law 1093 = .ok (.invokevirtual 133, 3) := by decide +kernel
theorem dL_law_1096 : decode cL_law 1096 = .ok (.if_icmp .eq 363, 3) := by decide +kernel
theorem dL_law_1099 : decode cL_law 1099 = .ok (.iconst 0, 1) := by decide +kernel
theorem dL_law_1100 : decode cL_law 1100 = .ok (.ireturn, 1) := by decide +kernel
theorem dL_law_1101 : decode cL_law 1101 = .ok (.aload_n 1, 1) := by decide +kernel
theorem dL_law_1102 : decode cL_law 1102 = .ok (.aload_n 0, 1) := by decide +kernel
theorem dL_law_1103 : decode cL_law 1103 = .ok (.iload_n 3, 1) := by decide +kernel
theorem dL_law_1104 : decode cL_law 1104 = .ok (.iconst 1, 1) := by decide +kernel
theorem dL_law_1105 : decode cL_law 1105 = .ok (.iadd, 1) := by decide +kernel
theorem dL_law_1106 : decode cL_law 1106 = .ok (.iaload, 1) := by decide +kernel
theorem dL_law_1107 : decode cL_law 1107 = .ok (.aload_n 0, 1) := by decide +kernel
theorem dL_law_1108 : decode cL_law 1108 = .ok (.iload_n 3, 1) := by decide +kernel
theorem dL_law_1109 : decode cL_law 1109 = .ok (.iconst 2, 1) := by decide +kernel
theorem dL_law_1110 : decode cL_law 1110 = .ok (.iadd, 1) := by decide +kernel
theorem dL_law_1111 : decode cL_law 1111 = .ok (.iaload, 1) := by decide +kernel
theorem dL_law_1112 : decode cL_law 1112 = .ok (.invokevirtual 134, 3) := by decide +kernel
theorem dL_law_1115 : decode cL_law 1115 = .ok (.aload_n 2, 1) := by decide +kernel
theorem dL_law_1116 : decode cL_law 1116 = .ok (.aload_n 0, 1) := by decide +kernel
theorem dL_law_1117 : decode cL_law 1117 = .ok (.iload_n 3, 1) := by decide +kernel
theorem dL_law_1118 : decode cL_law 1118 = .ok (.iconst 1, 1) := by decide +kernel
theorem dL_law_1119 : decode cL_law 1119 = .ok (.iadd, 1) := by decide +kernel
theorem dL_law_1120 : decode cL_law 1120 = .ok (.iaload, 1) := by decide +kernel
theorem dL_law_1121 : decode cL_law 1121 = .ok (.aload_n 0, 1) := by decide +kernel
theorem dL_law_1122 : decode cL_law 1122 = .ok (.iload_n 3, 1) := by decide +kernel
theorem dL_law_1123 : decode cL_law 1123 = .ok (.iconst 2, 1) := by decide +kernel
theorem dL_law_1124 : decode cL_law 1124 = .ok (.iadd, 1) := by decide +kernel
theorem dL_law_1125 : decode cL_law 1125 = .ok (.iaload, 1) := by decide +kernel
theorem dL_law_1126 : decode cL_law 1126 = .ok (.invokevirtual 137, 3) := by decide +kernel
theorem dL_law_1129 : decode cL_law 1129 = .ok (.if_icmp .eq 330, 3) := by decide +kernel
theorem dL_law_1132 : decode cL_law 1132 = .ok (.iconst 0, 1) := by decide +kernel
theorem dL_law_1133 : decode cL_law 1133 = .ok (.ireturn, 1) := by decide +kernel
theorem dL_law_1134 : decode cL_law 1134 = .ok (.aload_n 1, 1) := by decide +kernel
theorem dL_law_1135 : decode cL_law 1135 = .ok (.aload_n 0, 1) := by decide +kernel
theorem dL_law_1136 : decode cL_law 1136 = .ok (.iload_n 3, 1) := by decide +kernel
theorem dL_law_1137 : decode cL_law 1137 = .ok (.iconst 1, 1) := by decide +kernel
theorem dL_law_1138 : decode cL_law 1138 = .ok (.iadd, 1) := by decide +kernel
theorem dL_law_1139 : decode cL_law 1139 = .ok (.iaload, 1) := by decide +kernel
theorem dL_law_1140 : decode cL_law 1140 = .ok (.aload_n 0, 1) := by decide +kernel
theorem dL_law_1141 : decode cL_law 1141 = .ok (.iload_n 3, 1) := by decide +kernel
theorem dL_law_1142 : decode cL_law 1142 = .ok (.iconst 2, 1) := by decide +kernel
theorem dL_law_1143 : decode cL_law 1143 = .ok (.iadd, 1) := by decide +kernel
theorem dL_law_1144 : decode cL_law 1144 = .ok (.iaload, 1) := by decide +kernel
theorem dL_law_1145 : decode cL_law 1145 = .ok (.invokevirtual 138, 3) := by decide +kernel
theorem dL_law_1148 : decode cL_law 1148 = .ok (.aload_n 2, 1) := by decide +kernel
theorem dL_law_1149 : decode cL_law 1149 = .ok (.aload_n 0, 1) := by decide +kernel
theorem dL_law_1150 : decode cL_law 1150 = .ok (.iload_n 3, 1) := by decide +kernel
theorem dL_law_1151 : decode cL_law 1151 = .ok (.iconst 1, 1) := by decide +kernel
theorem dL_law_1152 : decode cL_law 1152 = .ok (.iadd, 1) := by decide +kernel
theorem dL_law_1153 : decode cL_law 1153 = .ok (.iaload, 1) := by decide +kernel
theorem dL_law_1154 : decode cL_law 1154 = .ok (.aload_n 0, 1) := by decide +kernel
theorem dL_law_1155 : decode cL_law 1155 = .ok (.iload_n 3, 1) := by decide +kernel
theorem dL_law_1156 : decode cL_law 1156 = .ok (.iconst 2, 1) := by decide +kernel
theorem dL_law_1157 : decode cL_law 1157 = .ok (.iadd, 1) := by decide +kernel
theorem dL_law_1158 : decode cL_law 1158 = .ok (.iaload, 1) := by decide +kernel
theorem dL_law_1159 : decode cL_law 1159 = .ok (.invokevirtual 141, 3) := by decide +kernel
theorem dL_law_1162 : decode cL_law 1162 = .ok (.if_icmp .eq 297, 3) := by decide +kernel
theorem dL_law_1165 : decode cL_law 1165 = .ok (.iconst 0, 1) := by decide +kernel
theorem dL_law_1166 : decode cL_law 1166 = .ok (.ireturn, 1) := by decide +kernel
theorem dL_law_1167 : decode cL_law 1167 = .ok (.aload_n 1, 1) := by decide +kernel
theorem dL_law_1168 : decode cL_law 1168 = .ok (.aload_n 0, 1) := by decide +kernel
theorem dL_law_1169 : decode cL_law 1169 = .ok (.iload_n 3, 1) := by decide +kernel
theorem dL_law_1170 : decode cL_law 1170 = .ok (.iconst 1, 1) := by decide +kernel
theorem dL_law_1171 : decode cL_law 1171 = .ok (.iadd, 1) := by decide +kernel
theorem dL_law_1172 : decode cL_law 1172 = .ok (.iaload, 1) := by decide +kernel
theorem dL_law_1173 : decode cL_law 1173 = .ok (.invokevirtual 142, 3) := by decide +kernel
theorem dL_law_1176 : decode cL_law 1176 = .ok (.aload_n 2, 1) := by decide +kernel
theorem dL_law_1177 : decode cL_law 1177 = .ok (.aload_n 0, 1) := by decide +kernel
theorem dL_law_1178 : decode cL_law 1178 = .ok (.iload_n 3, 1) := by decide +kernel
theorem dL_law_1179 : decode cL_law 1179 = .ok (.iconst 1, 1) := by decide +kernel
theorem dL_law_1180 : decode cL_law 1180 = .ok (.iadd, 1) := by decide +kernel
theorem dL_law_1181 : decode cL_law 1181 = .ok (.iaload, 1) := by decide +kernel
theorem dL_law_1182 : decode cL_law 1182 = .ok (.invokevirtual 145, 3) := by decide +kernel
theorem dL_law_1185 : decode cL_law 1185 = .ok (.if_icmp .eq 274, 3) := by decide +kernel
theorem dL_law_1188 : decode cL_law 1188 = .ok (.iconst 0, 1) := by decide +kernel
theorem dL_law_1189 : decode cL_law 1189 = .ok (.ireturn, 1) := by decide +kernel
theorem dL_law_1190 : decode cL_law 1190 = .ok (.aload_n 1, 1) := by decide +kernel
theorem dL_law_1191 : decode cL_law 1191 = .ok (.aload_n 0, 1) := by decide +kernel
theorem dL_law_1192 : decode cL_law 1192 = .ok (.iload_n 3, 1) := by decide +kernel
theorem dL_law_1193 : decode cL_law 1193 = .ok (.iconst 1, 1) := by decide +kernel
theorem dL_law_1194 : decode cL_law 1194 = .ok (.iadd, 1) := by decide +kernel
theorem dL_law_1195 : decode cL_law 1195 = .ok (.iaload, 1) := by decide +kernel
theorem dL_law_1196 : decode cL_law 1196 = .ok (.invokevirtual 146, 3) := by decide +kernel
theorem dL_law_1199 : decode cL_law 1199 = .ok (.aload_n 2, 1) := by decide +kernel
theorem dL_law_1200 : decode cL_law 1200 = .ok (.aload_n 0, 1) := by decide +kernel
theorem dL_law_1201 : decode cL_law 1201 = .ok (.iload_n 3, 1) := by decide +kernel
theorem dL_law_1202 : decode cL_law 1202 = .ok (.iconst 1, 1) := by decide +kernel
theorem dL_law_1203 : decode cL_law 1203 = .ok (.iadd, 1) := by decide +kernel
theorem dL_law_1204 : decode cL_law 1204 = .ok (.iaload, 1) := by decide +kernel
theorem dL_law_1205 : decode cL_law 1205 = .ok (.invokevirtual 149, 3) := by decide +kernel
theorem dL_law_1208 : decode cL_law 1208 = .ok (.if_icmp .eq 251, 3) := by decide +kernel
theorem dL_law_1211 : decode cL_law 1211 = .ok (.iconst 0, 1) := by decide +kernel
theorem dL_law_1212 : decode cL_law 1212 = .ok (.ireturn, 1) := by decide +kernel
theorem dL_law_1213 : decode cL_law 1213 = .ok (.aload_n 1, 1) := by decide +kernel
theorem dL_law_1214 : decode cL_law 1214 = .ok (.aload_n 0, 1) := by decide +kernel
theorem dL_law_1215 : decode cL_law 1215 = .ok (.iload_n 3, 1) := by decide +kernel
theorem dL_law_1216 : decode cL_law 1216 = .ok (.iconst 1, 1) := by decide +kernel
theorem dL_law_1217 : decode cL_law 1217 = .ok (.iadd, 1) := by decide +kernel
theorem dL_law_1218 : decode cL_law 1218 = .ok (.iaload, 1) := by decide +kernel
theorem dL_law_1219 : decode cL_law 1219 = .ok (.aload_n 0, 1) := by decide +kernel
theorem dL_law_1220 : decode cL_law 1220 = .ok (.iload_n 3, 1) := by decide +kernel
theorem dL_law_1221 : decode cL_law 1221 = .ok (.iconst 2, 1) := by decide +kernel
theorem dL_law_1222 : decode cL_law 1222 = .ok (.iadd, 1) := by decide +kernel
theorem dL_law_1223 : decode cL_law 1223 = .ok (.iaload, 1) := by decide +kernel
theorem dL_law_1224 : decode cL_law 1224 = .ok (.aload_n 0, 1) := by decide +kernel
theorem dL_law_1225 : decode cL_law 1225 = .ok (.iload_n 3, 1) := by decide +kernel
theorem dL_law_1226 : decode cL_law 1226 = .ok (.iconst 3, 1) := by decide +kernel
theorem dL_law_1227 : decode cL_law 1227 = .ok (.iadd, 1) := by decide +kernel
theorem dL_law_1228 : decode cL_law 1228 = .ok (.iaload, 1) := by decide +kernel
theorem dL_law_1229 : decode cL_law 1229 = .ok (.invokevirtual 150, 3) := by decide +kernel
theorem dL_law_1232 : decode cL_law 1232 = .ok (.aload_n 2, 1) := by decide +kernel
theorem dL_law_1233 : decode cL_law 1233 = .ok (.aload_n 0, 1) := by decide +kernel
theorem dL_law_1234 : decode cL_law 1234 = .ok (.iload_n 3, 1) := by decide +kernel
theorem dL_law_1235 : decode cL_law 1235 = .ok (.iconst 1, 1) := by decide +kernel
theorem dL_law_1236 : decode cL_law 1236 = .ok (.iadd, 1) := by decide +kernel
theorem dL_law_1237 : decode cL_law 1237 = .ok (.iaload, 1) := by decide +kernel
theorem dL_law_1238 : decode cL_law 1238 = .ok (.aload_n 0, 1) := by decide +kernel
theorem dL_law_1239 : decode cL_law 1239 = .ok (.iload_n 3, 1) := by decide +kernel
theorem dL_law_1240 : decode cL_law 1240 = .ok (.iconst 2, 1) := by decide +kernel
theorem dL_law_1241 : decode cL_law 1241 = .ok (.iadd, 1) := by decide +kernel
theorem dL_law_1242 : decode cL_law 1242 = .ok (.iaload, 1) := by decide +kernel
theorem dL_law_1243 : decode cL_law 1243 = .ok (.aload_n 0, 1) := by decide +kernel
theorem dL_law_1244 : decode cL_law 1244 = .ok (.iload_n 3, 1) := by decide +kernel
theorem dL_law_1245 : decode cL_law 1245 = .ok (.iconst 3, 1) := by decide +kernel
theorem dL_law_1246 : decode cL_law 1246 = .ok (.iadd, 1) := by decide +kernel
theorem dL_law_1247 : decode cL_law 1247 = .ok (.iaload, 1) := by decide +kernel
theorem dL_law_1248 : decode cL_law 1248 = .ok (.invokevirtual 153, 3) := by decide +kernel
theorem dL_law_1251 : decode cL_law 1251 = .ok (.if_icmp .eq 208, 3) := by decide +kernel
theorem dL_law_1254 : decode cL_law 1254 = .ok (.iconst 0, 1) := by decide +kernel
theorem dL_law_1255 : decode cL_law 1255 = .ok (.ireturn, 1) := by decide +kernel
theorem dL_law_1256 : decode cL_law 1256 = .ok (.aload_n 1, 1) := by decide +kernel
theorem dL_law_1257 : decode cL_law 1257 = .ok (.aload_n 0, 1) := by decide +kernel
theorem dL_law_1258 : decode cL_law 1258 = .ok (.iload_n 3, 1) := by decide +kernel
theorem dL_law_1259 : decode cL_law 1259 = .ok (.iconst 1, 1) := by decide +kernel
theorem dL_law_1260 : decode cL_law 1260 = .ok (.iadd, 1) := by decide +kernel
theorem dL_law_1261 : decode cL_law 1261 = .ok (.iaload, 1) := by decide +kernel
theorem dL_law_1262 : decode cL_law 1262 = .ok (.aload_n 0, 1) := by decide +kernel
theorem dL_law_1263 : decode cL_law 1263 = .ok (.iload_n 3, 1) := by decide +kernel
theorem dL_law_1264 : decode cL_law 1264 = .ok (.iconst 2, 1) := by decide +kernel
theorem dL_law_1265 : decode cL_law 1265 = .ok (.iadd, 1) := by decide +kernel
theorem dL_law_1266 : decode cL_law 1266 = .ok (.iaload, 1) := by decide +kernel
theorem dL_law_1267 : decode cL_law 1267 = .ok (.invokevirtual 154, 3) := by decide +kernel
theorem dL_law_1270 : decode cL_law 1270 = .ok (.aload_n 2, 1) := by decide +kernel
theorem dL_law_1271 : decode cL_law 1271 = .ok (.aload_n 0, 1) := by decide +kernel
theorem dL_law_1272 : decode cL_law 1272 = .ok (.iload_n 3, 1) := by decide +kernel
theorem dL_law_1273 : decode cL_law 1273 = .ok (.iconst 1, 1) := by decide +kernel
theorem dL_law_1274 : decode cL_law 1274 = .ok (.iadd, 1) := by decide +kernel
theorem dL_law_1275 : decode cL_law 1275 = .ok (.iaload, 1) := by decide +kernel
theorem dL_law_1276 : decode cL_law 1276 = .ok (.aload_n 0, 1) := by decide +kernel
theorem dL_law_1277 : decode cL_law 1277 = .ok (.iload_n 3, 1) := by decide +kernel
theorem dL_law_1278 : decode cL_law 1278 = .ok (.iconst 2, 1) := by decide +kernel
theorem dL_law_1279 : decode cL_law 1279 = .ok (.iadd, 1) := by decide +kernel
theorem dL_law_1280 : decode cL_law 1280 = .ok (.iaload, 1) := by decide +kernel
theorem dL_law_1281 : decode cL_law 1281 = .ok (.invokevirtual 157, 3) := by decide +kernel
theorem dL_law_1284 : decode cL_law 1284 = .ok (.if_icmp .eq 175, 3) := by decide +kernel
theorem dL_law_1287 : decode cL_law 1287 = .ok (.iconst 0, 1) := by decide +kernel
theorem dL_law_1288 : decode cL_law 1288 = .ok (.ireturn, 1) := by decide +kernel
theorem dL_law_1289 : decode cL_law 1289 = .ok (.aload_n 1, 1) := by decide +kernel
theorem dL_law_1290 : decode cL_law 1290 = .ok (.aload_n 0, 1) := by decide +kernel
theorem dL_law_1291 : decode cL_law 1291 = .ok (.iload_n 3, 1) := by decide +kernel
theorem dL_law_1292 : decode cL_law 1292 = .ok (.iconst 1, 1) := by decide +kernel
theorem dL_law_1293 : decode cL_law 1293 = .ok (.iadd, 1) := by decide +kernel
theorem dL_law_1294 : decode cL_law 1294 = .ok (.iaload, 1) := by decide +kernel
theorem dL_law_1295 : decode cL_law 1295 = .ok (.invokevirtual 158, 3) := by decide +kernel
theorem dL_law_1298 : decode cL_law 1298 = .ok (.aload_n 2, 1) := by decide +kernel
theorem dL_law_1299 : decode cL_law 1299 = .ok (.aload_n 0, 1) := by decide +kernel
theorem dL_law_1300 : decode cL_law 1300 = .ok (.iload_n 3, 1) := by decide +kernel
theorem dL_law_1301 : decode cL_law 1301 = .ok (.iconst 1, 1) := by decide +kernel
theorem dL_law_1302 : decode cL_law 1302 = .ok (.iadd, 1) := by decide +kernel
theorem dL_law_1303 : decode cL_law 1303 = .ok (.iaload, 1) := by decide +kernel
theorem dL_law_1304 : decode cL_law 1304 = .ok (.invokevirtual 161, 3) := by decide +kernel
theorem dL_law_1307 : decode cL_law 1307 = .ok (.if_icmp .eq 152, 3) := by decide +kernel
theorem dL_law_1310 : decode cL_law 1310 = .ok (.iconst 0, 1) := by decide +kernel
theorem dL_law_1311 : decode cL_law 1311 = .ok (.ireturn, 1) := by decide +kernel
theorem dL_law_1312 : decode cL_law 1312 = .ok (.aload_n 1, 1) := by decide +kernel
theorem dL_law_1313 : decode cL_law 1313 = .ok (.aload_n 0, 1) := by decide +kernel
theorem dL_law_1314 : decode cL_law 1314 = .ok (.iload_n 3, 1) := by decide +kernel
theorem dL_law_1315 : decode cL_law 1315 = .ok (.iconst 1, 1) := by decide +kernel
theorem dL_law_1316 : decode cL_law 1316 = .ok (.iadd, 1) := by decide +kernel
theorem dL_law_1317 : decode cL_law 1317 = .ok (.iaload, 1) := by decide +kernel
theorem dL_law_1318 : decode cL_law 1318 = .ok (.aload_n 0, 1) := by decide +kernel
theorem dL_law_1319 : decode cL_law 1319 = .ok (.iload_n 3, 1) := by decide +kernel
theorem dL_law_1320 : decode cL_law 1320 = .ok (.iconst 2, 1) := by decide +kernel
theorem dL_law_1321 : decode cL_law 1321 = .ok (.iadd, 1) := by decide +kernel
theorem dL_law_1322 : decode cL_law 1322 = .ok (.iaload, 1) := by decide +kernel
theorem dL_law_1323 : decode cL_law 1323 = .ok (.invokevirtual 162, 3) := by decide +kernel
theorem dL_law_1326 : decode cL_law 1326 = .ok (.aload_n 2, 1) := by decide +kernel
theorem dL_law_1327 : decode cL_law 1327 = .ok (.aload_n 0, 1) := by decide +kernel
theorem dL_law_1328 : decode cL_law 1328 = .ok (.iload_n 3, 1) := by decide +kernel
theorem dL_law_1329 : decode cL_law 1329 = .ok (.iconst 1, 1) := by decide +kernel
theorem dL_law_1330 : decode cL_law 1330 = .ok (.iadd, 1) := by decide +kernel
theorem dL_law_1331 : decode cL_law 1331 = .ok (.iaload, 1) := by decide +kernel
theorem dL_law_1332 : decode cL_law 1332 = .ok (.aload_n 0, 1) := by decide +kernel
theorem dL_law_1333 : decode cL_law 1333 = .ok (.iload_n 3, 1) := by decide +kernel
theorem dL_law_1334 : decode cL_law 1334 = .ok (.iconst 2, 1) := by decide +kernel
theorem dL_law_1335 : decode cL_law 1335 = .ok (.iadd, 1) := by decide +kernel
theorem dL_law_1336 : decode cL_law 1336 = .ok (.iaload, 1) := by decide +kernel
theorem dL_law_1337 : decode cL_law 1337 = .ok (.invokevirtual 165, 3) := by decide +kernel
theorem dL_law_1340 : decode cL_law 1340 = .ok (.if_icmp .eq 119, 3) := by decide +kernel
theorem dL_law_1343 : decode cL_law 1343 = .ok (.iconst 0, 1) := by decide +kernel
theorem dL_law_1344 : decode cL_law 1344 = .ok (.ireturn, 1) := by decide +kernel
theorem dL_law_1345 : decode cL_law 1345 = .ok (.aload_n 1, 1) := by decide +kernel
theorem dL_law_1346 : decode cL_law 1346 = .ok (.invokevirtual 166, 3) := by decide +kernel
theorem dL_law_1349 : decode cL_law 1349 = .ok (.aload_n 2, 1) := by decide +kernel
theorem dL_law_1350 : decode cL_law 1350 = .ok (.invokevirtual 169, 3) := by decide +kernel
theorem dL_law_1353 : decode cL_law 1353 = .ok (.if_icmp .eq 106, 3) := by decide +kernel
theorem dL_law_1356 : decode cL_law 1356 = .ok (.iconst 0, 1) := by decide +kernel
theorem dL_law_1357 : decode cL_law 1357 = .ok (.ireturn, 1) := by decide +kernel
theorem dL_law_1358 : decode cL_law 1358 = .ok (.aload_n 1, 1) := by decide +kernel
theorem dL_law_1359 : decode cL_law 1359 = .ok (.invokevirtual 170, 3) := by decide +kernel
theorem dL_law_1362 : decode cL_law 1362 = .ok (.aload_n 2, 1) := by decide +kernel
theorem dL_law_1363 : decode cL_law 1363 = .ok (.invokevirtual 174, 3) := by decide +kernel
theorem dL_law_1366 : decode cL_law 1366 = .ok (.lcmp, 1) := by decide +kernel
theorem dL_law_1367 : decode cL_law 1367 = .ok (.ifCond .eq 92, 3) := by decide +kernel
theorem dL_law_1370 : decode cL_law 1370 = .ok (.iconst 0, 1) := by decide +kernel
theorem dL_law_1371 : decode cL_law 1371 = .ok (.ireturn, 1) := by decide +kernel
theorem dL_law_1372 : decode cL_law 1372 = .ok (.aload_n 1, 1) := by decide +kernel
theorem dL_law_1373 : decode cL_law 1373 = .ok (.invokevirtual 175, 3) := by decide +kernel
theorem dL_law_1376 : decode cL_law 1376 = .ok (.aload_n 2, 1) := by decide +kernel
theorem dL_law_1377 : decode cL_law 1377 = .ok (.invokevirtual 178, 3) := by decide +kernel
theorem dL_law_1380 : decode cL_law 1380 = .ok (.lcmp, 1) := by decide +kernel
theorem dL_law_1381 : decode cL_law 1381 = .ok (.ifCond .eq 78, 3) := by decide +kernel
theorem dL_law_1384 : decode cL_law 1384 = .ok (.iconst 0, 1) := by decide +kernel
theorem dL_law_1385 : decode cL_law 1385 = .ok (.ireturn, 1) := by decide +kernel
theorem dL_law_1386 : decode cL_law 1386 = .ok (.aload_n 1, 1) := by decide +kernel
theorem dL_law_1387 : decode cL_law 1387 = .ok (.aload_n 0, 1) := by decide +kernel
theorem dL_law_1388 : decode cL_law 1388 = .ok (.iload_n 3, 1) := by decide +kernel
theorem dL_law_1389 : decode cL_law 1389 = .ok (.iconst 1, 1) := by decide +kernel
theorem dL_law_1390 : decode cL_law 1390 = .ok (.iadd, 1) := by decide +kernel
theorem dL_law_1391 : decode cL_law 1391 = .ok (.iaload, 1) := by decide +kernel
theorem dL_law_1392 : decode cL_law 1392 = .ok (.invokevirtual 179, 3) := by decide +kernel
theorem dL_law_1395 : decode cL_law 1395 = .ok (.aload_n 2, 1) := by decide +kernel
theorem dL_law_1396 : decode cL_law 1396 = .ok (.aload_n 0, 1) := by decide +kernel
theorem dL_law_1397 : decode cL_law 1397 = .ok (.iload_n 3, 1) := by decide +kernel
theorem dL_law_1398 : decode cL_law 1398 = .ok (.iconst 1, 1) := by decide +kernel
theorem dL_law_1399 : decode cL_law 1399 = .ok (.iadd, 1) := by decide +kernel
theorem dL_law_1400 : decode cL_law 1400 = .ok (.iaload, 1) := by decide +kernel
theorem dL_law_1401 : decode cL_law 1401 = .ok (.invokevirtual 182, 3) := by decide +kernel
theorem dL_law_1404 : decode cL_law 1404 = .ok (.if_icmp .eq 55, 3) := by decide +kernel
theorem dL_law_1407 : decode cL_law 1407 = .ok (.iconst 0, 1) := by decide +kernel
theorem dL_law_1408 : decode cL_law 1408 = .ok (.ireturn, 1) := by decide +kernel
theorem dL_law_1409 : decode cL_law 1409 = .ok (.aload_n 1, 1) := by decide +kernel
theorem dL_law_1410 : decode cL_law 1410 = .ok (.invokevirtual 183, 3) := by decide +kernel
theorem dL_law_1413 : decode cL_law 1413 = .ok (.aload_n 2, 1) := by decide +kernel
theorem dL_law_1414 : decode cL_law 1414 = .ok (.invokevirtual 186, 3) := by decide +kernel
theorem dL_law_1417 : decode cL_law 1417 = .ok (.if_icmp .eq 42, 3) := by decide +kernel
theorem dL_law_1420 : decode cL_law 1420 = .ok (.iconst 0, 1) := by decide +kernel
theorem dL_law_1421 : decode cL_law 1421 = .ok (.ireturn, 1) := by decide +kernel
theorem dL_law_1422 : decode cL_law 1422 = .ok (.aload_n 1, 1) := by decide +kernel
theorem dL_law_1423 : decode cL_law 1423 = .ok (.aload_n 0, 1) := by decide +kernel
theorem dL_law_1424 : decode cL_law 1424 = .ok (.iload_n 3, 1) := by decide +kernel
theorem dL_law_1425 : decode cL_law 1425 = .ok (.iconst 1, 1) := by decide +kernel
theorem dL_law_1426 : decode cL_law 1426 = .ok (.iadd, 1) := by decide +kernel
theorem dL_law_1427 : decode cL_law 1427 = .ok (.iaload, 1) := by decide +kernel
theorem dL_law_1428 : decode cL_law 1428 = .ok (.invokevirtual 187, 3) := by decide +kernel
theorem dL_law_1431 : decode cL_law 1431 = .ok (.aload_n 2, 1) := by decide +kernel
theorem dL_law_1432 : decode cL_law 1432 = .ok (.aload_n 0, 1) := by decide +kernel
theorem dL_law_1433 : decode cL_law 1433 = .ok (.iload_n 3, 1) := by decide +kernel
theorem dL_law_1434 : decode cL_law 1434 = .ok (.iconst 1, 1) := by decide +kernel
theorem dL_law_1435 : decode cL_law 1435 = .ok (.iadd, 1) := by decide +kernel
theorem dL_law_1436 : decode cL_law 1436 = .ok (.iaload, 1) := by decide +kernel
theorem dL_law_1437 : decode cL_law 1437 = .ok (.invokevirtual 190, 3) := by decide +kernel
theorem dL_law_1440 : decode cL_law 1440 = .ok (.if_icmp .eq 19, 3) := by decide +kernel
theorem dL_law_1443 : decode cL_law 1443 = .ok (.iconst 0, 1) := by decide +kernel
theorem dL_law_1444 : decode cL_law 1444 = .ok (.ireturn, 1) := by decide +kernel
theorem dL_law_1445 : decode cL_law 1445 = .ok (.aload_n 1, 1) := by decide +kernel
theorem dL_law_1446 : decode cL_law 1446 = .ok (.invokevirtual 191, 3) := by decide +kernel
theorem dL_law_1449 : decode cL_law 1449 = .ok (.aload_n 2, 1) := by decide +kernel
theorem dL_law_1450 : decode cL_law 1450 = .ok (.invokevirtual 194, 3) := by decide +kernel
theorem dL_law_1453 : decode cL_law 1453 = .ok (.lcmp, 1) := by decide +kernel
theorem dL_law_1454 : decode cL_law 1454 = .ok (.ifCond .eq 5, 3) := by decide +kernel
theorem dL_law_1457 : decode cL_law 1457 = .ok (.iconst 0, 1) := by decide +kernel
theorem dL_law_1458 : decode cL_law 1458 = .ok (.ireturn, 1) := by decide +kernel
theorem dL_law_1459 : decode cL_law 1459 = .ok (.iinc 3 6, 3) := by decide +kernel
theorem dL_law_1462 : decode cL_law 1462 = .ok (.goto (-1444), 3) := by decide +kernel
theorem dL_law_1465 : decode cL_law 1465 = .ok (.iconst 1, 1) := by decide +kernel
theorem dL_law_1466 : decode cL_law 1466 = .ok (.ireturn, 1) := by decide +kernel
end
section
def TB : List Cond := lw_tbl.filter goodWord
theorem TB_in {w : Cond} (h : w ∈ lw_tbl) (hg : goodWord w = true) : w ∈ TB := List.mem_filter.mpr ⟨h, hg⟩
theorem TB_at (i : Nat) {w : Cond} (h : tables_1[i]? = some w) (hg : goodWord w = true) : w ∈ TB := TB_in (List.mem_append_right _ (List.mem_of_getElem? h)) hg
theorem TB_sel (i : Nat) {w : Cond} (h : (k2_sels lw_privs)[i]? = some w) (hg : goodWord w = true) : w ∈ TB := TB_in (List.mem_append_left _ (List.mem_of_getElem? h)) hg
theorem TB_self : GoodIn TB TB := fun w h => ⟨h, good_of_word (List.mem_filter.mp h).2⟩
abbrev Hp : Type := (Nat → Nat → Int32) × (Nat → Nat → Int64)
abbrev Gx : Type := va_G × (Nat → ClassId) × (Nat → Nat) × Nat

def shL : List (Nat × Nat) := [(9, 0), (15, 6), (12, 40), (12, 40), (12, 40), (12, 40), (12, 40), (12, 40), (12, 6), (14, 4), (11, 60), (11, 60), (11, 60), (11, 60), (12, 4), (4, 0), (12, 6), (12, 6), (12, 6), (4, 0), (12, 6), (12, 6), (12, 6), (4, 0), (12, 6), (12, 6), (12, 6), (3, 0), (12, 40), (13, 3), (3, 0), (12, 40), (3, 0), (12, 40), (3, 0), (12, 40), (15, 6), (12, 31), (12, 31), (12, 31), (12, 31), (12, 31), (12, 31), (12, 6), (6, 0), (7, 0), (1, 0), (0, 0), (8, 0), (2, 0), (5, 0), (10, 0), (12, 2805), (12, 6), (12, 3), (12, 240), (12, 6), (12, 240), (12, 4), (12, 6), (12, 6), (12, 6), (12, 6), (12, 31), (12, 81)]
def shK (i : Nat) : Nat := (shL.getD i (99, 0)).1
def shN (i : Nat) : Nat := (shL.getD i (99, 0)).2
def rfL : List (List (Option Nat)) := [[some 1, some 8, some 9, some 14, some 15, some 19, some 23, some 27, some 29, some 36, some 43], [some 2, some 3, some 4, some 5, some 6, some 7], [], [], [], [], [], [], [], [some 10, some 11, some 12, some 13], [], [], [], [], [], [some 44, some 16, some 17, some 18], [], [], [], [some 44, some 20, some 21, some 22], [], [], [], [some 44, some 24, some 25, some 26], [], [], [], [some 28], [], [some 30, some 32, some 34], [some 31], [], [some 33], [], [some 35], [], [some 37, some 38, some 39, some 40, some 41, some 42], [], [], [], [], [], [], [], [some 45, some 46, some 47, some 48, some 49, some 50], [], [], [], [], [], [], [some 52, some 53, none, none, none, none, some 54, some 55, some 56, some 57, some 58, some 59, none, none, none, none, none, none, none, none, some 60, some 61, some 62, some 63, some 64], [], [], [], [], [], [], [], [], [], [], [], [], []]
def rf (i j : Nat) : Option Nat := (rfL.getD i []).getD j none
abbrev rv (G : Gx) (i j : Nat) : Value := va_rf ((rf i j).map G.2.2.1)
def cl_ (G : Gx) (h : Hp) (i : Nat) : va_E := match shK i with
  | 0 => .inr (0, [])
  | 1 => .inr (1, [])
  | 2 => .inr (2, [])
  | 3 => .inr (3, [rv G i 0, .int (h.1 i 1)])
  | 4 => .inr (4, [rv G i 0, rv G i 1, rv G i 2, rv G i 3, .int (h.1 i 4), .int (h.1 i 5), .int (h.1 i 6), .int (h.1 i 7), .int (h.1 i 8), .int (h.1 i 9), .int (h.1 i 10), .int (h.1 i 11)])
  | 5 => .inr (5, [])
  | 6 => .inr (6, [rv G i 0, rv G i 1, rv G i 2, rv G i 3, rv G i 4, rv G i 5])
  | 7 => .inr (7, [])
  | 8 => .inr (8, [])
  | 9 => .inr (9, [rv G i 0, rv G i 1, rv G i 2, rv G i 3, rv G i 4, rv G i 5, rv G i 6, rv G i 7, rv G i 8, rv G i 9, rv G i 10, .int (h.1 i 11), .int (h.1 i 12), .long (h.2 i 13), .long (h.2 i 14)])
  | 10 => .inr (10, [rv G i 0, rv G i 1, .int (h.1 i 2), .int (h.1 i 3), .int (h.1 i 4), .int (h.1 i 5), rv G i 6, rv G i 7, rv G i 8, rv G i 9, rv G i 10, rv G i 11, .int (h.1 i 12), .int (h.1 i 13), .long (h.2 i 14), .long (h.2 i 15), .int (h.1 i 16), .int (h.1 i 17), .int (h.1 i 18), .int (h.1 i 19), rv G i 20, rv G i 21, rv G i 22, rv G i 23, rv G i 24])
  | 11 => .inl (G.2.1 0, shN i, .inl (h.1 i))
  | 12 => .inl (G.2.1 1, shN i, .inl (h.1 i))
  | 13 => .inl (G.2.1 2, shN i, .inr (.inr (.inr (.inr (fun j => (rf i j).map G.2.2.1)))))
  | 14 => .inl (G.2.1 3, shN i, .inr (.inr (.inr (.inr (fun j => (rf i j).map G.2.2.1)))))
  | _ => .inl (G.2.1 4, shN i, .inr (.inr (.inr (.inr (fun j => (rf i j).map G.2.2.1)))))
theorem cl_0 {G : Gx} {h : Hp} {i : Nat} (hk : shK i = 0) : cl_ G h i = .inr (0, []) := by unfold cl_; rw [hk]; rfl
theorem cl_1 {G : Gx} {h : Hp} {i : Nat} (hk : shK i = 1) : cl_ G h i = .inr (1, []) := by unfold cl_; rw [hk]; rfl
theorem cl_2 {G : Gx} {h : Hp} {i : Nat} (hk : shK i = 2) : cl_ G h i = .inr (2, []) := by unfold cl_; rw [hk]; rfl
theorem cl_3 {G : Gx} {h : Hp} {i : Nat} (hk : shK i = 3) : cl_ G h i = .inr (3, [rv G i 0, .int (h.1 i 1)]) := by unfold cl_; rw [hk]; rfl
theorem cl_4 {G : Gx} {h : Hp} {i : Nat} (hk : shK i = 4) : cl_ G h i = .inr (4, [rv G i 0, rv G i 1, rv G i 2, rv G i 3, .int (h.1 i 4), .int (h.1 i 5), .int (h.1 i 6), .int (h.1 i 7), .int (h.1 i 8), .int (h.1 i 9), .int (h.1 i 10), .int (h.1 i 11)]) := by unfold cl_; rw [hk]; rfl
theorem cl_5 {G : Gx} {h : Hp} {i : Nat} (hk : shK i = 5) : cl_ G h i = .inr (5, []) := by unfold cl_; rw [hk]; rfl
theorem cl_6 {G : Gx} {h : Hp} {i : Nat} (hk : shK i = 6) : cl_ G h i = .inr (6, [rv G i 0, rv G i 1, rv G i 2, rv G i 3, rv G i 4, rv G i 5]) := by unfold cl_; rw [hk]; rfl
theorem cl_7 {G : Gx} {h : Hp} {i : Nat} (hk : shK i = 7) : cl_ G h i = .inr (7, []) := by unfold cl_; rw [hk]; rfl
theorem cl_8 {G : Gx} {h : Hp} {i : Nat} (hk : shK i = 8) : cl_ G h i = .inr (8, []) := by unfold cl_; rw [hk]; rfl
theorem cl_9 {G : Gx} {h : Hp} {i : Nat} (hk : shK i = 9) : cl_ G h i = .inr (9, [rv G i 0, rv G i 1, rv G i 2, rv G i 3, rv G i 4, rv G i 5, rv G i 6, rv G i 7, rv G i 8, rv G i 9, rv G i 10, .int (h.1 i 11), .int (h.1 i 12), .long (h.2 i 13), .long (h.2 i 14)]) := by unfold cl_; rw [hk]; rfl
theorem cl_10 {G : Gx} {h : Hp} {i : Nat} (hk : shK i = 10) : cl_ G h i = .inr (10, [rv G i 0, rv G i 1, .int (h.1 i 2), .int (h.1 i 3), .int (h.1 i 4), .int (h.1 i 5), rv G i 6, rv G i 7, rv G i 8, rv G i 9, rv G i 10, rv G i 11, .int (h.1 i 12), .int (h.1 i 13), .long (h.2 i 14), .long (h.2 i 15), .int (h.1 i 16), .int (h.1 i 17), .int (h.1 i 18), .int (h.1 i 19), rv G i 20, rv G i 21, rv G i 22, rv G i 23, rv G i 24]) := by unfold cl_; rw [hk]; rfl
theorem cl_11 {G : Gx} {h : Hp} {i : Nat} (hk : shK i = 11) : cl_ G h i = .inl (G.2.1 0, shN i, .inl (h.1 i)) := by unfold cl_; rw [hk]; rfl
theorem cl_12 {G : Gx} {h : Hp} {i : Nat} (hk : shK i = 12) : cl_ G h i = .inl (G.2.1 1, shN i, .inl (h.1 i)) := by unfold cl_; rw [hk]; rfl
theorem cl_13 {G : Gx} {h : Hp} {i : Nat} (hk : shK i = 13) : cl_ G h i = .inl (G.2.1 2, shN i, .inr (.inr (.inr (.inr (fun j => (rf i j).map G.2.2.1))))) := by unfold cl_; rw [hk]; rfl
theorem cl_14 {G : Gx} {h : Hp} {i : Nat} (hk : shK i = 14) : cl_ G h i = .inl (G.2.1 3, shN i, .inr (.inr (.inr (.inr (fun j => (rf i j).map G.2.2.1))))) := by unfold cl_; rw [hk]; rfl
theorem cl_15 {G : Gx} {h : Hp} {i : Nat} (hk : shK i = 15) : cl_ G h i = .inl (G.2.1 4, shN i, .inr (.inr (.inr (.inr (fun j => (rf i j).map G.2.2.1))))) := by unfold cl_; rw [hk]; rfl
theorem sh_lt {i k : Nat} (hk : shK i = k) (h9 : k < 99) : i < 65 := by
  rcases Nat.lt_or_ge i 65 with q | q
  · exact q
  · have : shK i = 99 := by unfold shK; rw [List.getD_eq_getElem?_getD, List.getElem?_eq_none (by exact q)]; rfl
    omega
def wd (G : Gx) (h : Hp) : va_W := (List.range 65).map (fun i => (G.2.2.1 i, cl_ G h i))
theorem wd_get {G : Gx} {h : Hp} {i : Nat} (hi : i < 65) : (wd G h)[i]? = some (G.2.2.1 i, cl_ G h i) := by
  unfold wd; rw [List.getElem?_map, List.getElem?_range hi]; rfl
theorem wd_none {G : Gx} {h : Hp} {i : Nat} (hi : ¬ i < 65) : (wd G h)[i]? = none := by
  unfold wd; rw [List.getElem?_map, List.getElem?_eq_none (by rw [List.length_range]; omega)]; rfl
theorem wd_set {G : Gx} {h h' : Hp} {i : Nat} (hi : i < 65) (ho : ∀ j, j ≠ i → cl_ G h' j = cl_ G h j) : (wd G h).set i (G.2.2.1 i, cl_ G h' i) = wd G h' := by
  apply List.ext_getElem?
  intro j
  have hlen : (wd G h).length = 65 := by unfold wd; rw [List.length_map, List.length_range]
  by_cases hj : j = i
  · subst hj
    rw [List.getElem?_set_self (by rw [hlen]; exact hi), wd_get hi]
  · rw [List.getElem?_set_ne (fun q => hj q.symm)]
    rcases Nat.lt_or_ge j 65 with q | q
    · rw [wd_get q, wd_get q, ho j hj]
    · rw [wd_none (by omega), wd_none (by omega)]
theorem wd_D {A : Nat → Prop} {G : Gx} {h h' : Hp} (hD : va_D A (wd G h)) : va_D A (wd G h') := by
  refine ⟨fun i j p q hi hj e => ?_, fun k q hk => ?_⟩
  · rcases Nat.lt_or_ge i 65 with a | a
    · rcases Nat.lt_or_ge j 65 with b | b
      · rw [wd_get a] at hi; rw [wd_get b] at hj
        cases hi; cases hj
        exact hD.1 i j _ _ (wd_get a) (wd_get b) e
      · rw [wd_none (by omega)] at hj; cases hj
    · rw [wd_none (by omega)] at hi; cases hi
  · rcases Nat.lt_or_ge k 65 with a | a
    · rw [wd_get a] at hk; cases hk
      exact hD.2 k (G.2.2.1 k, cl_ G h k) (wd_get a)
    · rw [wd_none (by omega)] at hk; cases hk
theorem wd_A {G : Gx} {h h' : Hp} {sz q : Nat} (hq : va_A (wd G h) sz q) : va_A (wd G h') sz q := by
  rcases hq with ⟨k, e, hk⟩ | hq
  · rcases Nat.lt_or_ge k 65 with a | a
    · rw [wd_get a] at hk; cases hk
      exact Or.inl ⟨k, _, wd_get a⟩
    · rw [wd_none (by omega)] at hk; cases hk
  · exact Or.inr hq
abbrev tyL (G : Gx) : List (ClassId × FieldType) := [(G.2.1 0, .byte), (G.2.1 1, .int), (G.2.1 2, .object "FlossRumours$Deeds"), (G.2.1 3, .array .byte), (G.2.1 4, .array .int)]
/-- writing one int of a cell, one long -/
def up (h : Hp) (i k : Nat) (v : Int32) : Hp := (fun i' k' => if i' = i ∧ k' = k then v else h.1 i' k', h.2)
def upL (h : Hp) (i k : Nat) (v : Int64) : Hp := (h.1, fun i' k' => if i' = i ∧ k' = k then v else h.2 i' k')
/-- a whole array anew -/
def upA (h : Hp) (i : Nat) (f : Nat → Int32) : Hp := (fun i' => if i' = i then f else h.1 i', h.2)
theorem up_ne {h : Hp} {i k : Nat} {v : Int32} {j : Nat} (hj : j ≠ i) : (up h i k v).1 j = h.1 j := by funext k'; simp [up, hj]
theorem upL_ne {h : Hp} {i k : Nat} {v : Int64} {j : Nat} (hj : j ≠ i) : (upL h i k v).2 j = h.2 j := by funext k'; simp [upL, hj]
theorem upA_ne {h : Hp} {i : Nat} {f : Nat → Int32} {j : Nat} (hj : j ≠ i) : (upA h i f).1 j = h.1 j := by simp [upA, hj]
theorem cl_ext {G : Gx} {h h' : Hp} {j : Nat} (e1 : h'.1 j = h.1 j) (e2 : h'.2 j = h.2 j) : cl_ G h' j = cl_ G h j := by unfold cl_; rw [e1, e2]
theorem up_cl {G : Gx} {h : Hp} {i k : Nat} {v : Int32} : ∀ j, j ≠ i → cl_ G (up h i k v) j = cl_ G h j := fun j hj => cl_ext (up_ne hj) rfl
theorem upL_cl {G : Gx} {h : Hp} {i k : Nat} {v : Int64} : ∀ j, j ≠ i → cl_ G (upL h i k v) j = cl_ G h j := fun j hj => cl_ext rfl (upL_ne hj)
theorem upA_cl {G : Gx} {h : Hp} {i : Nat} {f : Nat → Int32} : ∀ j, j ≠ i → cl_ G (upA h i f) j = cl_ G h j := fun j hj => cl_ext (upA_ne hj) rfl
theorem up_at {h : Hp} {i k : Nat} {v : Int32} : (up h i k v).1 i k = v := by simp [up]
theorem up_off {h : Hp} {i k : Nat} {v : Int32} {k' : Nat} (hk : k' ≠ k) : (up h i k v).1 i k' = h.1 i k' := by simp [up, hk]
theorem up_row {h : Hp} {i k : Nat} {v : Int32} : (up h i k v).1 i = upd (h.1 i) k v := by funext k'; by_cases e : k' = k <;> simp [up, upd, e]
theorem upL_at {h : Hp} {i k : Nat} {v : Int64} : (upL h i k v).2 i k = v := by simp [upL]
theorem upL_off {h : Hp} {i k : Nat} {v : Int64} {k' : Nat} (hk : k' ≠ k) : (upL h i k v).2 i k' = h.2 i k' := by simp [upL, hk]
def lettersF : Nat → Value := fun j => .int (([112, 98, 103, 119, 105, 108] : List Int32).getD j 0)

def ncL : List (String × String) := [("FlossRumours$Person", "FlossRumours$Beard"), ("FlossRumours$Bag", "FlossRumours$Beard"), ("FlossRumours$Wasp", "FlossRumours$Beard"), ("FlossRumours$Girl", "FlossRumours$Beard"), ("FlossRumours$Person", "FlossRumours$Bag"), ("FlossRumours$Beard", "FlossRumours$Bag"), ("FlossRumours$Wasp", "FlossRumours$Bag"), ("FlossRumours$Bishop", "FlossRumours$Bag"), ("FlossRumours$Girl", "FlossRumours$Bag"), ("FlossRumours$Person", "FlossRumours$Wasp"), ("FlossRumours$Beard", "FlossRumours$Wasp"), ("FlossRumours$Bag", "FlossRumours$Wasp"), ("FlossRumours$Bishop", "FlossRumours$Wasp"), ("FlossRumours$Person", "FlossRumours$Bishop"), ("FlossRumours$Beard", "FlossRumours$Bishop"), ("FlossRumours$Bag", "FlossRumours$Bishop"), ("FlossRumours$Wasp", "FlossRumours$Bishop"), ("FlossRumours$Girl", "FlossRumours$Bishop"), ("FlossRumours$Person", "FlossRumours$Girl"), ("FlossRumours$Beard", "FlossRumours$Girl"), ("FlossRumours$Bag", "FlossRumours$Girl"), ("FlossRumours$Wasp", "FlossRumours$Girl"), ("FlossRumours$Bishop", "FlossRumours$Girl")]
def EX (G : Gx) (A : Nat → Prop) (s : State) (H : Heap) : Prop := (∀ q ∈ ncL, va_Nc q.1 q.2 s) ∧ va_Z "FlossRumours" "LETTERS" "[I" (.ref G.2.2.2) A s H ∧ va_T .int G.2.2.2 6 lettersF A s H
theorem EX.moved {G : Gx} {A : Nat → Prop} {s u : State} {H : Heap} (hvm : s.vm.Alike u.vm) (h : EX G A s H) : EX G A u H := ⟨fun q hq => (h.1 q hq).moved hvm, h.2.1.moved hvm, h.2.2.moved hvm⟩
theorem EX.kept {G : Gx} {A : Nat → Prop} {s : State} {H H1 : Heap} (h : EX G A s H) (hq : ∀ a : Nat, a < H.size → ¬ A a → H1[a]? = H[a]?) : EX G A s H1 := ⟨h.1, h.2.1.kept hq, h.2.2.kept hq⟩
theorem EX.narrow {G : Gx} {A B : Nat → Prop} {s : State} {H : Heap} (h : EX G A s H) (hAB : ∀ q, B q → A q) : EX G B s H := ⟨h.1, h.2.1.narrow hAB, h.2.2.narrow hAB⟩
abbrev Cx : Type := (Program × Launch × Env × Room × State × MethodId × Array Value × List Frame × Method × Code) × (Nat → Prop) × Gx × Nat × Option Value × Hp
abbrev ad (x : Cx) : Nat → Nat := x.2.2.1.2.2.1
def QQ (G : Gx) (A : Nat → Prop) (r : Option Value) (h' : Hp) : Array Value → State → Outcome → State → Prop := fun _ st oc t => oc = .returned r ∧ va_P G.1 vwCl (wd G h') t.heap ∧ va_F A st t
def VV (x : Cx) (pc : Nat) (lv : List (Nat × Value)) (st : List Value) (h : Hp) : Prop := match x with
  | ((p, l, e, R, s, m, args, below, meth, c), A, G, nL, r, h') => ∀ (H : Heap) (locs : List Loc) (ls : Array Slot), va_P G.1 vwCl (wd G h) H → va_S A s.heap H locs → lv_has ls nL lv → W p l e R s m args below meth c H locs 0 0 (MQ below (QQ G A r h') args s 0 0 A) (F0 m pc ls st)
def Ok (x : Cx) (cc : ByteArray) (own : String) (nL' : Nat) (ret : Option FieldType) (d : Nat) : Prop := match x with
  | ((p, l, e, R, s, m, args, below, meth, c), A, G, nL, r, h') => p.tables.exec = Jvm.exec ∧ c.code = cc ∧ meth.sig.returnType = ret ∧ meth.locks = false ∧ c.maxLocals = nL ∧ nL = nL' ∧ s.vm.findClass own = some m.cls ∧ (∀ w ∈ TB, w.before args s = true) ∧ va_K G.1 vwCl (tyL G) s ∧ (∀ h, va_D A (wd G h)) ∧ (∀ q, s.heap.size ≤ q → A q) ∧ EX G A s s.heap ∧ (d ≤ R.frames ∧ 40 * d ≤ R.locals)

theorem V_iconst {x : Cx} {cc : ByteArray} {own : String} {nL : Nat} {ret : Option FieldType} {d pc : Nat} {lv : List (Nat × Value)} {st : List Value} {h : Hp} {n : Int} (K : Ok x cc own nL ret d) (hdg : decode cc pc = .ok (.iconst n, 1)) (k : VV x (pc + 1) lv (.int (Int32.ofInt n) :: st) h) : VV x pc lv (st) h := by
  obtain ⟨⟨p, l, e, R, s, m, args, below, meth, c⟩, A, G, nL0, r, h'⟩ := x
  obtain ⟨hx, hb, hr, hlocks, hml, hnl, hown, hts, hK, hD, hA, hE, hR⟩ := K
  subst hnl
  intro H locs ls hP hS hl
  exact lv_iconst hx hb hdg rfl (k H locs ls hP hS hl)
theorem V_bipush {x : Cx} {cc : ByteArray} {own : String} {nL : Nat} {ret : Option FieldType} {d pc : Nat} {lv : List (Nat × Value)} {st : List Value} {h : Hp} {n : Int} (K : Ok x cc own nL ret d) (hdg : decode cc pc = .ok (.bipush n, 2)) (k : VV x (pc + 2) lv (.int (Int8.ofInt n).toInt32 :: st) h) : VV x pc lv (st) h := by
  obtain ⟨⟨p, l, e, R, s, m, args, below, meth, c⟩, A, G, nL0, r, h'⟩ := x
  obtain ⟨hx, hb, hr, hlocks, hml, hnl, hown, hts, hK, hD, hA, hE, hR⟩ := K
  subst hnl
  intro H locs ls hP hS hl
  exact lv_bipush hx hb hdg rfl (k H locs ls hP hS hl)
theorem V_sipush {x : Cx} {cc : ByteArray} {own : String} {nL : Nat} {ret : Option FieldType} {d pc : Nat} {lv : List (Nat × Value)} {st : List Value} {h : Hp} {n : Int} (K : Ok x cc own nL ret d) (hdg : decode cc pc = .ok (.sipush n, 3)) (k : VV x (pc + 3) lv (.int (Int16.ofInt n).toInt32 :: st) h) : VV x pc lv (st) h := by
  obtain ⟨⟨p, l, e, R, s, m, args, below, meth, c⟩, A, G, nL0, r, h'⟩ := x
  obtain ⟨hx, hb, hr, hlocks, hml, hnl, hown, hts, hK, hD, hA, hE, hR⟩ := K
  subst hnl
  intro H locs ls hP hS hl
  exact lv_sipush hx hb hdg rfl (k H locs ls hP hS hl)
theorem V_ic {x : Cx} {cc : ByteArray} {own : String} {nL : Nat} {ret : Option FieldType} {d pc : Nat} {lv : List (Nat × Value)} {st : List Value} {h : Hp} {n : Int} {v : Int32} (K : Ok x cc own nL ret d) (hdg : decode cc pc = .ok (.iconst n, 1)) (hv : Int32.ofInt n = v) (k : VV x (pc + 1) lv (.int v :: st) h) : VV x pc lv (st) h := by
  obtain ⟨⟨p, l, e, R, s, m, args, below, meth, c⟩, A, G, nL0, r, h'⟩ := x
  obtain ⟨hx, hb, hr, hlocks, hml, hnl, hown, hts, hK, hD, hA, hE, hR⟩ := K
  subst hnl
  intro H locs ls hP hS hl
  exact lv_iconst hx hb hdg hv (k H locs ls hP hS hl)
theorem V_bp {x : Cx} {cc : ByteArray} {own : String} {nL : Nat} {ret : Option FieldType} {d pc : Nat} {lv : List (Nat × Value)} {st : List Value} {h : Hp} {n : Int} {v : Int32} (K : Ok x cc own nL ret d) (hdg : decode cc pc = .ok (.bipush n, 2)) (hv : (Int8.ofInt n).toInt32 = v) (k : VV x (pc + 2) lv (.int v :: st) h) : VV x pc lv (st) h := by
  obtain ⟨⟨p, l, e, R, s, m, args, below, meth, c⟩, A, G, nL0, r, h'⟩ := x
  obtain ⟨hx, hb, hr, hlocks, hml, hnl, hown, hts, hK, hD, hA, hE, hR⟩ := K
  subst hnl
  intro H locs ls hP hS hl
  exact lv_bipush hx hb hdg hv (k H locs ls hP hS hl)
theorem V_sp {x : Cx} {cc : ByteArray} {own : String} {nL : Nat} {ret : Option FieldType} {d pc : Nat} {lv : List (Nat × Value)} {st : List Value} {h : Hp} {n : Int} {v : Int32} (K : Ok x cc own nL ret d) (hdg : decode cc pc = .ok (.sipush n, 3)) (hv : (Int16.ofInt n).toInt32 = v) (k : VV x (pc + 3) lv (.int v :: st) h) : VV x pc lv (st) h := by
  obtain ⟨⟨p, l, e, R, s, m, args, below, meth, c⟩, A, G, nL0, r, h'⟩ := x
  obtain ⟨hx, hb, hr, hlocks, hml, hnl, hown, hts, hK, hD, hA, hE, hR⟩ := K
  subst hnl
  intro H locs ls hP hS hl
  exact lv_sipush hx hb hdg hv (k H locs ls hP hS hl)
theorem V_lc {x : Cx} {cc : ByteArray} {own : String} {nL : Nat} {ret : Option FieldType} {d pc : Nat} {lv : List (Nat × Value)} {st : List Value} {h : Hp} {n : Fin 2} {v : Int64} (K : Ok x cc own nL ret d) (hdg : decode cc pc = .ok (.lconst n, 1)) (hv : Int64.ofNat (n : Nat) = v) (k : VV x (pc + 1) lv (.long v :: st) h) : VV x pc lv (st) h := by
  obtain ⟨⟨p, l, e, R, s, m, args, below, meth, c⟩, A, G, nL0, r, h'⟩ := x
  obtain ⟨hx, hb, hr, hlocks, hml, hnl, hown, hts, hK, hD, hA, hE, hR⟩ := K
  subst hnl
  intro H locs ls hP hS hl
  exact lv_lconst hx hb hdg hv (k H locs ls hP hS hl)
theorem V_ldc {x : Cx} {cc : ByteArray} {own : String} {nL : Nat} {ret : Option FieldType} {d pc : Nat} {lv : List (Nat × Value)} {st : List Value} {h : Hp} {idx : Nat} {v : Int32} (K : Ok x cc own nL ret d) (hm : Cond.constant own idx v ∈ TB) (hdg : decode cc pc = .ok (.ldc idx, 2)) (k : VV x (pc + 2) lv (.int v :: st) h) : VV x pc lv (st) h := by
  obtain ⟨⟨p, l, e, R, s, m, args, below, meth, c⟩, A, G, nL0, r, h'⟩ := x
  obtain ⟨hx, hb, hr, hlocks, hml, hnl, hown, hts, hK, hD, hA, hE, hR⟩ := K
  subst hnl
  intro H locs ls hP hS hl
  exact lv_ldc hx hb hown (hts _ hm) hdg (k H locs ls hP hS hl)
theorem V_ldcw {x : Cx} {cc : ByteArray} {own : String} {nL : Nat} {ret : Option FieldType} {d pc : Nat} {lv : List (Nat × Value)} {st : List Value} {h : Hp} {idx : Nat} {v : Int32} (K : Ok x cc own nL ret d) (hm : Cond.constant own idx v ∈ TB) (hdg : decode cc pc = .ok (.ldc_w idx, 3)) (k : VV x (pc + 3) lv (.int v :: st) h) : VV x pc lv (st) h := by
  obtain ⟨⟨p, l, e, R, s, m, args, below, meth, c⟩, A, G, nL0, r, h'⟩ := x
  obtain ⟨hx, hb, hr, hlocks, hml, hnl, hown, hts, hK, hD, hA, hE, hR⟩ := K
  subst hnl
  intro H locs ls hP hS hl
  exact lv_ldcw hx hb hown (hts _ hm) hdg (k H locs ls hP hS hl)
theorem V_ldc2 {x : Cx} {cc : ByteArray} {own : String} {nL : Nat} {ret : Option FieldType} {d pc : Nat} {lv : List (Nat × Value)} {st : List Value} {h : Hp} {idx : Nat} {v : Int64} (K : Ok x cc own nL ret d) (hm : Cond.constantLong own idx v ∈ TB) (hdg : decode cc pc = .ok (.ldc2_w idx, 3)) (k : VV x (pc + 3) lv (.long v :: st) h) : VV x pc lv (st) h := by
  obtain ⟨⟨p, l, e, R, s, m, args, below, meth, c⟩, A, G, nL0, r, h'⟩ := x
  obtain ⟨hx, hb, hr, hlocks, hml, hnl, hown, hts, hK, hD, hA, hE, hR⟩ := K
  subst hnl
  intro H locs ls hP hS hl
  exact lv_ldc2 hx hb hown (hts _ hm) hdg (k H locs ls hP hS hl)
theorem V_iload_n {x : Cx} {cc : ByteArray} {own : String} {nL : Nat} {ret : Option FieldType} {d pc : Nat} {lv : List (Nat × Value)} {st : List Value} {h : Hp} {q : Fin 4} {a : Int32} (K : Ok x cc own nL ret d) (j : Nat) (hdg : decode cc pc = .ok (.iload_n q, 1)) (hj : lv[j]? = some ((q : Nat), .int a)) (k : VV x (pc + 1) lv (.int a :: st) h) : VV x pc lv (st) h := by
  obtain ⟨⟨p, l, e, R, s, m, args, below, meth, c⟩, A, G, nL0, r, h'⟩ := x
  obtain ⟨hx, hb, hr, hlocks, hml, hnl, hown, hts, hK, hD, hA, hE, hR⟩ := K
  subst hnl
  intro H locs ls hP hS hl
  exact lv_iload_n hx hb hdg rfl (lv_at hl j hj) (k H locs ls hP hS hl)
theorem V_iload {x : Cx} {cc : ByteArray} {own : String} {nL : Nat} {ret : Option FieldType} {d pc : Nat} {lv : List (Nat × Value)} {st : List Value} {h : Hp} {q : Nat} {a : Int32} (K : Ok x cc own nL ret d) (j : Nat) (hdg : decode cc pc = .ok (.iload q, 2)) (hj : lv[j]? = some (q, .int a)) (k : VV x (pc + 2) lv (.int a :: st) h) : VV x pc lv (st) h := by
  obtain ⟨⟨p, l, e, R, s, m, args, below, meth, c⟩, A, G, nL0, r, h'⟩ := x
  obtain ⟨hx, hb, hr, hlocks, hml, hnl, hown, hts, hK, hD, hA, hE, hR⟩ := K
  subst hnl
  intro H locs ls hP hS hl
  exact lv_iload hx hb hdg (lv_at hl j hj) (k H locs ls hP hS hl)
theorem V_lload_n {x : Cx} {cc : ByteArray} {own : String} {nL : Nat} {ret : Option FieldType} {d pc : Nat} {lv : List (Nat × Value)} {st : List Value} {h : Hp} {q : Fin 4} {a : Int64} (K : Ok x cc own nL ret d) (j : Nat) (hdg : decode cc pc = .ok (.lload_n q, 1)) (hj : lv[j]? = some ((q : Nat), .long a)) (k : VV x (pc + 1) lv (.long a :: st) h) : VV x pc lv (st) h := by
  obtain ⟨⟨p, l, e, R, s, m, args, below, meth, c⟩, A, G, nL0, r, h'⟩ := x
  obtain ⟨hx, hb, hr, hlocks, hml, hnl, hown, hts, hK, hD, hA, hE, hR⟩ := K
  subst hnl
  intro H locs ls hP hS hl
  exact lv_lload_n hx hb hdg rfl (lv_at hl j hj) (k H locs ls hP hS hl)
theorem V_lload {x : Cx} {cc : ByteArray} {own : String} {nL : Nat} {ret : Option FieldType} {d pc : Nat} {lv : List (Nat × Value)} {st : List Value} {h : Hp} {q : Nat} {a : Int64} (K : Ok x cc own nL ret d) (j : Nat) (hdg : decode cc pc = .ok (.lload q, 2)) (hj : lv[j]? = some (q, .long a)) (k : VV x (pc + 2) lv (.long a :: st) h) : VV x pc lv (st) h := by
  obtain ⟨⟨p, l, e, R, s, m, args, below, meth, c⟩, A, G, nL0, r, h'⟩ := x
  obtain ⟨hx, hb, hr, hlocks, hml, hnl, hown, hts, hK, hD, hA, hE, hR⟩ := K
  subst hnl
  intro H locs ls hP hS hl
  exact lv_lload hx hb hdg (lv_at hl j hj) (k H locs ls hP hS hl)
theorem V_aload_n {x : Cx} {cc : ByteArray} {own : String} {nL : Nat} {ret : Option FieldType} {d pc : Nat} {lv : List (Nat × Value)} {st : List Value} {h : Hp} {q : Fin 4} {a : Nat} (K : Ok x cc own nL ret d) (j : Nat) (hdg : decode cc pc = .ok (.aload_n q, 1)) (hj : lv[j]? = some ((q : Nat), .ref a)) (k : VV x (pc + 1) lv (.ref a :: st) h) : VV x pc lv (st) h := by
  obtain ⟨⟨p, l, e, R, s, m, args, below, meth, c⟩, A, G, nL0, r, h'⟩ := x
  obtain ⟨hx, hb, hr, hlocks, hml, hnl, hown, hts, hK, hD, hA, hE, hR⟩ := K
  subst hnl
  intro H locs ls hP hS hl
  exact lv_aload_n hx hb hdg rfl (lv_at hl j hj) (k H locs ls hP hS hl)
theorem V_aload {x : Cx} {cc : ByteArray} {own : String} {nL : Nat} {ret : Option FieldType} {d pc : Nat} {lv : List (Nat × Value)} {st : List Value} {h : Hp} {q : Nat} {a : Nat} (K : Ok x cc own nL ret d) (j : Nat) (hdg : decode cc pc = .ok (.aload q, 2)) (hj : lv[j]? = some (q, .ref a)) (k : VV x (pc + 2) lv (.ref a :: st) h) : VV x pc lv (st) h := by
  obtain ⟨⟨p, l, e, R, s, m, args, below, meth, c⟩, A, G, nL0, r, h'⟩ := x
  obtain ⟨hx, hb, hr, hlocks, hml, hnl, hown, hts, hK, hD, hA, hE, hR⟩ := K
  subst hnl
  intro H locs ls hP hS hl
  exact lv_aload hx hb hdg (lv_at hl j hj) (k H locs ls hP hS hl)
theorem V_istore_n {x : Cx} {cc : ByteArray} {own : String} {nL : Nat} {ret : Option FieldType} {d pc : Nat} {lv : List (Nat × Value)} {st : List Value} {h : Hp} {q : Fin 4} {a : Int32} {lv' : List (Nat × Value)} (K : Ok x cc own nL ret d) (hdg : decode cc pc = .ok (.istore_n q, 1)) (hq : (q : Nat) < nL) (hv : ((q : Nat), Value.int a) :: lv.filter (fun z => !(z.1 == (q : Nat)) && !(z.1 + 1 == (q : Nat) && z.2.category == 2)) = lv') (k : VV x (pc + 1) lv' st h) : VV x pc lv (.int a :: st) h := by
  obtain ⟨⟨p, l, e, R, s, m, args, below, meth, c⟩, A, G, nL0, r, h'⟩ := x
  obtain ⟨hx, hb, hr, hlocks, hml, hnl, hown, hts, hK, hD, hA, hE, hR⟩ := K
  subst hnl
  intro H locs ls hP hS hl
  exact lv_istore_n hx hb hdg rfl hl hq hv (fun ls' hl' => k H locs ls' hP hS hl')
theorem V_istore {x : Cx} {cc : ByteArray} {own : String} {nL : Nat} {ret : Option FieldType} {d pc : Nat} {lv : List (Nat × Value)} {st : List Value} {h : Hp} {q : Nat} {a : Int32} {lv' : List (Nat × Value)} (K : Ok x cc own nL ret d) (hdg : decode cc pc = .ok (.istore q, 2)) (hq : q < nL) (hv : (q, Value.int a) :: lv.filter (fun z => !(z.1 == q) && !(z.1 + 1 == q && z.2.category == 2)) = lv') (k : VV x (pc + 2) lv' st h) : VV x pc lv (.int a :: st) h := by
  obtain ⟨⟨p, l, e, R, s, m, args, below, meth, c⟩, A, G, nL0, r, h'⟩ := x
  obtain ⟨hx, hb, hr, hlocks, hml, hnl, hown, hts, hK, hD, hA, hE, hR⟩ := K
  subst hnl
  intro H locs ls hP hS hl
  exact lv_istore hx hb hdg hl hq hv (fun ls' hl' => k H locs ls' hP hS hl')
theorem V_astore_n {x : Cx} {cc : ByteArray} {own : String} {nL : Nat} {ret : Option FieldType} {d pc : Nat} {lv : List (Nat × Value)} {st : List Value} {h : Hp} {q : Fin 4} {a : Nat} {lv' : List (Nat × Value)} (K : Ok x cc own nL ret d) (hdg : decode cc pc = .ok (.astore_n q, 1)) (hq : (q : Nat) < nL) (hv : ((q : Nat), Value.ref a) :: lv.filter (fun z => !(z.1 == (q : Nat)) && !(z.1 + 1 == (q : Nat) && z.2.category == 2)) = lv') (k : VV x (pc + 1) lv' st h) : VV x pc lv (.ref a :: st) h := by
  obtain ⟨⟨p, l, e, R, s, m, args, below, meth, c⟩, A, G, nL0, r, h'⟩ := x
  obtain ⟨hx, hb, hr, hlocks, hml, hnl, hown, hts, hK, hD, hA, hE, hR⟩ := K
  subst hnl
  intro H locs ls hP hS hl
  exact lv_astore_n hx hb hdg rfl hl hq hv (fun ls' hl' => k H locs ls' hP hS hl')
theorem V_astore {x : Cx} {cc : ByteArray} {own : String} {nL : Nat} {ret : Option FieldType} {d pc : Nat} {lv : List (Nat × Value)} {st : List Value} {h : Hp} {q : Nat} {a : Nat} {lv' : List (Nat × Value)} (K : Ok x cc own nL ret d) (hdg : decode cc pc = .ok (.astore q, 2)) (hq : q < nL) (hv : (q, Value.ref a) :: lv.filter (fun z => !(z.1 == q) && !(z.1 + 1 == q && z.2.category == 2)) = lv') (k : VV x (pc + 2) lv' st h) : VV x pc lv (.ref a :: st) h := by
  obtain ⟨⟨p, l, e, R, s, m, args, below, meth, c⟩, A, G, nL0, r, h'⟩ := x
  obtain ⟨hx, hb, hr, hlocks, hml, hnl, hown, hts, hK, hD, hA, hE, hR⟩ := K
  subst hnl
  intro H locs ls hP hS hl
  exact lv_astore hx hb hdg hl hq hv (fun ls' hl' => k H locs ls' hP hS hl')
theorem V_lstore_n {x : Cx} {cc : ByteArray} {own : String} {nL : Nat} {ret : Option FieldType} {d pc : Nat} {lv : List (Nat × Value)} {st : List Value} {h : Hp} {q : Fin 4} {a : Int64} {lv' : List (Nat × Value)} (K : Ok x cc own nL ret d) (hdg : decode cc pc = .ok (.lstore_n q, 1)) (hq : (q : Nat) + 1 < nL) (hv : ((q : Nat), Value.long a) :: lv.filter (fun z => !(z.1 == (q : Nat)) && (!(z.1 == (q : Nat) + 1) && !(z.1 + 1 == (q : Nat) && z.2.category == 2))) = lv') (k : VV x (pc + 1) lv' st h) : VV x pc lv (.long a :: st) h := by
  obtain ⟨⟨p, l, e, R, s, m, args, below, meth, c⟩, A, G, nL0, r, h'⟩ := x
  obtain ⟨hx, hb, hr, hlocks, hml, hnl, hown, hts, hK, hD, hA, hE, hR⟩ := K
  subst hnl
  intro H locs ls hP hS hl
  exact lv_lstore_n hx hb hdg rfl hl hq hv (fun ls' hl' => k H locs ls' hP hS hl')
theorem V_lstore {x : Cx} {cc : ByteArray} {own : String} {nL : Nat} {ret : Option FieldType} {d pc : Nat} {lv : List (Nat × Value)} {st : List Value} {h : Hp} {q : Nat} {a : Int64} {lv' : List (Nat × Value)} (K : Ok x cc own nL ret d) (hdg : decode cc pc = .ok (.lstore q, 2)) (hq : q + 1 < nL) (hv : (q, Value.long a) :: lv.filter (fun z => !(z.1 == q) && (!(z.1 == q + 1) && !(z.1 + 1 == q && z.2.category == 2))) = lv') (k : VV x (pc + 2) lv' st h) : VV x pc lv (.long a :: st) h := by
  obtain ⟨⟨p, l, e, R, s, m, args, below, meth, c⟩, A, G, nL0, r, h'⟩ := x
  obtain ⟨hx, hb, hr, hlocks, hml, hnl, hown, hts, hK, hD, hA, hE, hR⟩ := K
  subst hnl
  intro H locs ls hP hS hl
  exact lv_lstore hx hb hdg hl hq hv (fun ls' hl' => k H locs ls' hP hS hl')
theorem V_iinc {x : Cx} {cc : ByteArray} {own : String} {nL : Nat} {ret : Option FieldType} {d pc : Nat} {lv : List (Nat × Value)} {st : List Value} {h : Hp} {q : Nat} {n : Int} {a v : Int32} {lv' : List (Nat × Value)} (K : Ok x cc own nL ret d) (j : Nat) (hdg : decode cc pc = .ok (.iinc q n, 3)) (hj : lv[j]? = some (q, .int a)) (hv : a + Int32.ofInt n = v) (hq : q < nL) (hl' : (q, Value.int v) :: lv.filter (fun z => !(z.1 == q) && !(z.1 + 1 == q && z.2.category == 2)) = lv') (k : VV x (pc + 3) lv' st h) : VV x pc lv st h := by
  obtain ⟨⟨p, l, e, R, s, m, args, below, meth, c⟩, A, G, nL0, r, h'⟩ := x
  obtain ⟨hx, hb, hr, hlocks, hml, hnl, hown, hts, hK, hD, hA, hE, hR⟩ := K
  subst hnl
  intro H locs ls hP hS hl
  exact lv_iinc hx hb hdg hl hj hv hq hl' (fun ls' hl2 => k H locs ls' hP hS hl2)
theorem V_sub {x : Cx} {pc : Nat} {lv lv' : List (Nat × Value)} {st : List Value} {h : Hp} (ks : List Nat) (hl : lv_pick lv ks = lv') (k : VV x pc lv' st h) : VV x pc lv st h := by
  obtain ⟨⟨p, l, e, R, s, m, args, below, meth, c⟩, A, G, nL0, r, h'⟩ := x
  intro H locs ls hP hS hl2
  exact k H locs ls hP hS (lv_sub hl2 ks hl)
theorem V_top {x : Cx} {pc : Nat} {lv : List (Nat × Value)} {st : List Value} {h : Hp} {a b : Int32} (e : b = a) (k : VV x pc lv (.int b :: st) h) : VV x pc lv (.int a :: st) h := e ▸ k
theorem V_topl {x : Cx} {pc : Nat} {lv : List (Nat × Value)} {st : List Value} {h : Hp} {a b : Int64} (e : b = a) (k : VV x pc lv (.long b :: st) h) : VV x pc lv (.long a :: st) h := e ▸ k
theorem V_topa {x : Cx} {pc : Nat} {lv : List (Nat × Value)} {st : List Value} {h : Hp} {a b : Nat} (e : b = a) (k : VV x pc lv (.ref (ad x b) :: st) h) : VV x pc lv (.ref (ad x a) :: st) h := e ▸ k
theorem V_hp {x : Cx} {pc : Nat} {lv : List (Nat × Value)} {st : List Value} {h h2 : Hp} (e : h2 = h) (k : VV x pc lv st h2) : VV x pc lv st h := e ▸ k

theorem V_iadd {x : Cx} {cc : ByteArray} {own : String} {nL : Nat} {ret : Option FieldType} {d pc : Nat} {lv : List (Nat × Value)} {st : List Value} {h : Hp} {a b : Int32} (K : Ok x cc own nL ret d) (hdg : decode cc pc = .ok (.iadd, 1)) (k : VV x (pc + 1) lv (.int (a + b) :: st) h) : VV x pc lv (.int b :: .int a :: st) h := by
  obtain ⟨⟨p, l, e, R, s, m, args, below, meth, c⟩, A, G, nL0, r, h'⟩ := x
  obtain ⟨hx, hb, hr, hlocks, hml, hnl, hown, hts, hK, hD, hA, hE, hR⟩ := K
  subst hnl
  intro H locs ls hP hS hl
  exact lv_iadd hx hb hdg (k H locs ls hP hS hl)
theorem V_isub {x : Cx} {cc : ByteArray} {own : String} {nL : Nat} {ret : Option FieldType} {d pc : Nat} {lv : List (Nat × Value)} {st : List Value} {h : Hp} {a b : Int32} (K : Ok x cc own nL ret d) (hdg : decode cc pc = .ok (.isub, 1)) (k : VV x (pc + 1) lv (.int (a - b) :: st) h) : VV x pc lv (.int b :: .int a :: st) h := by
  obtain ⟨⟨p, l, e, R, s, m, args, below, meth, c⟩, A, G, nL0, r, h'⟩ := x
  obtain ⟨hx, hb, hr, hlocks, hml, hnl, hown, hts, hK, hD, hA, hE, hR⟩ := K
  subst hnl
  intro H locs ls hP hS hl
  exact lv_isub hx hb hdg (k H locs ls hP hS hl)
theorem V_imul {x : Cx} {cc : ByteArray} {own : String} {nL : Nat} {ret : Option FieldType} {d pc : Nat} {lv : List (Nat × Value)} {st : List Value} {h : Hp} {a b : Int32} (K : Ok x cc own nL ret d) (hdg : decode cc pc = .ok (.imul, 1)) (k : VV x (pc + 1) lv (.int (a * b) :: st) h) : VV x pc lv (.int b :: .int a :: st) h := by
  obtain ⟨⟨p, l, e, R, s, m, args, below, meth, c⟩, A, G, nL0, r, h'⟩ := x
  obtain ⟨hx, hb, hr, hlocks, hml, hnl, hown, hts, hK, hD, hA, hE, hR⟩ := K
  subst hnl
  intro H locs ls hP hS hl
  exact lv_imul hx hb hdg (k H locs ls hP hS hl)
theorem V_iand {x : Cx} {cc : ByteArray} {own : String} {nL : Nat} {ret : Option FieldType} {d pc : Nat} {lv : List (Nat × Value)} {st : List Value} {h : Hp} {a b : Int32} (K : Ok x cc own nL ret d) (hdg : decode cc pc = .ok (.iand, 1)) (k : VV x (pc + 1) lv (.int (a &&& b) :: st) h) : VV x pc lv (.int b :: .int a :: st) h := by
  obtain ⟨⟨p, l, e, R, s, m, args, below, meth, c⟩, A, G, nL0, r, h'⟩ := x
  obtain ⟨hx, hb, hr, hlocks, hml, hnl, hown, hts, hK, hD, hA, hE, hR⟩ := K
  subst hnl
  intro H locs ls hP hS hl
  exact lv_iand hx hb hdg (k H locs ls hP hS hl)
theorem V_ior {x : Cx} {cc : ByteArray} {own : String} {nL : Nat} {ret : Option FieldType} {d pc : Nat} {lv : List (Nat × Value)} {st : List Value} {h : Hp} {a b : Int32} (K : Ok x cc own nL ret d) (hdg : decode cc pc = .ok (.ior, 1)) (k : VV x (pc + 1) lv (.int (a ||| b) :: st) h) : VV x pc lv (.int b :: .int a :: st) h := by
  obtain ⟨⟨p, l, e, R, s, m, args, below, meth, c⟩, A, G, nL0, r, h'⟩ := x
  obtain ⟨hx, hb, hr, hlocks, hml, hnl, hown, hts, hK, hD, hA, hE, hR⟩ := K
  subst hnl
  intro H locs ls hP hS hl
  exact lv_ior hx hb hdg (k H locs ls hP hS hl)
theorem V_ixor {x : Cx} {cc : ByteArray} {own : String} {nL : Nat} {ret : Option FieldType} {d pc : Nat} {lv : List (Nat × Value)} {st : List Value} {h : Hp} {a b : Int32} (K : Ok x cc own nL ret d) (hdg : decode cc pc = .ok (.ixor, 1)) (k : VV x (pc + 1) lv (.int (a ^^^ b) :: st) h) : VV x pc lv (.int b :: .int a :: st) h := by
  obtain ⟨⟨p, l, e, R, s, m, args, below, meth, c⟩, A, G, nL0, r, h'⟩ := x
  obtain ⟨hx, hb, hr, hlocks, hml, hnl, hown, hts, hK, hD, hA, hE, hR⟩ := K
  subst hnl
  intro H locs ls hP hS hl
  exact lv_ixor hx hb hdg (k H locs ls hP hS hl)
theorem V_ishl {x : Cx} {cc : ByteArray} {own : String} {nL : Nat} {ret : Option FieldType} {d pc : Nat} {lv : List (Nat × Value)} {st : List Value} {h : Hp} {a b : Int32} (K : Ok x cc own nL ret d) (hdg : decode cc pc = .ok (.ishl, 1)) (k : VV x (pc + 1) lv (.int (a <<< (b &&& 31)) :: st) h) : VV x pc lv (.int b :: .int a :: st) h := by
  obtain ⟨⟨p, l, e, R, s, m, args, below, meth, c⟩, A, G, nL0, r, h'⟩ := x
  obtain ⟨hx, hb, hr, hlocks, hml, hnl, hown, hts, hK, hD, hA, hE, hR⟩ := K
  subst hnl
  intro H locs ls hP hS hl
  exact lv_ishl hx hb hdg (k H locs ls hP hS hl)
theorem V_ishr {x : Cx} {cc : ByteArray} {own : String} {nL : Nat} {ret : Option FieldType} {d pc : Nat} {lv : List (Nat × Value)} {st : List Value} {h : Hp} {a b : Int32} (K : Ok x cc own nL ret d) (hdg : decode cc pc = .ok (.ishr, 1)) (k : VV x (pc + 1) lv (.int (a >>> (b &&& 31)) :: st) h) : VV x pc lv (.int b :: .int a :: st) h := by
  obtain ⟨⟨p, l, e, R, s, m, args, below, meth, c⟩, A, G, nL0, r, h'⟩ := x
  obtain ⟨hx, hb, hr, hlocks, hml, hnl, hown, hts, hK, hD, hA, hE, hR⟩ := K
  subst hnl
  intro H locs ls hP hS hl
  exact lv_ishr hx hb hdg (k H locs ls hP hS hl)
theorem V_idiv {x : Cx} {cc : ByteArray} {own : String} {nL : Nat} {ret : Option FieldType} {d pc : Nat} {lv : List (Nat × Value)} {st : List Value} {h : Hp} {a b : Int32} (K : Ok x cc own nL ret d) (hdg : decode cc pc = .ok (.idiv, 1)) (hz : ¬ b = 0) (k : VV x (pc + 1) lv (.int (a / b) :: st) h) : VV x pc lv (.int b :: .int a :: st) h := by
  obtain ⟨⟨p, l, e, R, s, m, args, below, meth, c⟩, A, G, nL0, r, h'⟩ := x
  obtain ⟨hx, hb, hr, hlocks, hml, hnl, hown, hts, hK, hD, hA, hE, hR⟩ := K
  subst hnl
  intro H locs ls hP hS hl
  exact lv_idiv hx hb hdg hz (k H locs ls hP hS hl)
theorem V_irem {x : Cx} {cc : ByteArray} {own : String} {nL : Nat} {ret : Option FieldType} {d pc : Nat} {lv : List (Nat × Value)} {st : List Value} {h : Hp} {a b : Int32} (K : Ok x cc own nL ret d) (hdg : decode cc pc = .ok (.irem, 1)) (hz : ¬ b = 0) (k : VV x (pc + 1) lv (.int (a - a / b * b) :: st) h) : VV x pc lv (.int b :: .int a :: st) h := by
  obtain ⟨⟨p, l, e, R, s, m, args, below, meth, c⟩, A, G, nL0, r, h'⟩ := x
  obtain ⟨hx, hb, hr, hlocks, hml, hnl, hown, hts, hK, hD, hA, hE, hR⟩ := K
  subst hnl
  intro H locs ls hP hS hl
  exact lv_irem hx hb hdg hz (k H locs ls hP hS hl)
theorem V_ineg {x : Cx} {cc : ByteArray} {own : String} {nL : Nat} {ret : Option FieldType} {d pc : Nat} {lv : List (Nat × Value)} {st : List Value} {h : Hp} {a : Int32} (K : Ok x cc own nL ret d) (hdg : decode cc pc = .ok (.ineg, 1)) (k : VV x (pc + 1) lv (.int (-a) :: st) h) : VV x pc lv (.int a :: st) h := by
  obtain ⟨⟨p, l, e, R, s, m, args, below, meth, c⟩, A, G, nL0, r, h'⟩ := x
  obtain ⟨hx, hb, hr, hlocks, hml, hnl, hown, hts, hK, hD, hA, hE, hR⟩ := K
  subst hnl
  intro H locs ls hP hS hl
  exact lv_ineg hx hb hdg (k H locs ls hP hS hl)
theorem V_iushr {x : Cx} {cc : ByteArray} {own : String} {nL : Nat} {ret : Option FieldType} {d pc : Nat} {lv : List (Nat × Value)} {st : List Value} {h : Hp} {a b : Int32} (K : Ok x cc own nL ret d) (hdg : decode cc pc = .ok (.iushr, 1)) (k : VV x (pc + 1) lv (.int (a.toUInt32 >>> (b.toUInt32 &&& Int32.toUInt32 31)).toInt32 :: st) h) : VV x pc lv (.int b :: .int a :: st) h := by
  obtain ⟨⟨p, l, e, R, s, m, args, below, meth, c⟩, A, G, nL0, r, h'⟩ := x
  obtain ⟨hx, hb, hr, hlocks, hml, hnl, hown, hts, hK, hD, hA, hE, hR⟩ := K
  subst hnl
  intro H locs ls hP hS hl
  exact lv_iushr hx hb hdg rfl (k H locs ls hP hS hl)
theorem V_ladd {x : Cx} {cc : ByteArray} {own : String} {nL : Nat} {ret : Option FieldType} {d pc : Nat} {lv : List (Nat × Value)} {st : List Value} {h : Hp} {a b : Int64} (K : Ok x cc own nL ret d) (hdg : decode cc pc = .ok (.ladd, 1)) (k : VV x (pc + 1) lv (.long (a + b) :: st) h) : VV x pc lv (.long b :: .long a :: st) h := by
  obtain ⟨⟨p, l, e, R, s, m, args, below, meth, c⟩, A, G, nL0, r, h'⟩ := x
  obtain ⟨hx, hb, hr, hlocks, hml, hnl, hown, hts, hK, hD, hA, hE, hR⟩ := K
  subst hnl
  intro H locs ls hP hS hl
  exact lv_ladd hx hb hdg (k H locs ls hP hS hl)
theorem V_lsub {x : Cx} {cc : ByteArray} {own : String} {nL : Nat} {ret : Option FieldType} {d pc : Nat} {lv : List (Nat × Value)} {st : List Value} {h : Hp} {a b : Int64} (K : Ok x cc own nL ret d) (hdg : decode cc pc = .ok (.lsub, 1)) (k : VV x (pc + 1) lv (.long (a - b) :: st) h) : VV x pc lv (.long b :: .long a :: st) h := by
  obtain ⟨⟨p, l, e, R, s, m, args, below, meth, c⟩, A, G, nL0, r, h'⟩ := x
  obtain ⟨hx, hb, hr, hlocks, hml, hnl, hown, hts, hK, hD, hA, hE, hR⟩ := K
  subst hnl
  intro H locs ls hP hS hl
  exact lv_lsub hx hb hdg (k H locs ls hP hS hl)
theorem V_lmul {x : Cx} {cc : ByteArray} {own : String} {nL : Nat} {ret : Option FieldType} {d pc : Nat} {lv : List (Nat × Value)} {st : List Value} {h : Hp} {a b : Int64} (K : Ok x cc own nL ret d) (hdg : decode cc pc = .ok (.lmul, 1)) (k : VV x (pc + 1) lv (.long (a * b) :: st) h) : VV x pc lv (.long b :: .long a :: st) h := by
  obtain ⟨⟨p, l, e, R, s, m, args, below, meth, c⟩, A, G, nL0, r, h'⟩ := x
  obtain ⟨hx, hb, hr, hlocks, hml, hnl, hown, hts, hK, hD, hA, hE, hR⟩ := K
  subst hnl
  intro H locs ls hP hS hl
  exact lv_lmul hx hb hdg (k H locs ls hP hS hl)
theorem V_ldiv {x : Cx} {cc : ByteArray} {own : String} {nL : Nat} {ret : Option FieldType} {d pc : Nat} {lv : List (Nat × Value)} {st : List Value} {h : Hp} {a b : Int64} (K : Ok x cc own nL ret d) (hdg : decode cc pc = .ok (.ldiv, 1)) (hz : ¬ b = 0) (k : VV x (pc + 1) lv (.long (a / b) :: st) h) : VV x pc lv (.long b :: .long a :: st) h := by
  obtain ⟨⟨p, l, e, R, s, m, args, below, meth, c⟩, A, G, nL0, r, h'⟩ := x
  obtain ⟨hx, hb, hr, hlocks, hml, hnl, hown, hts, hK, hD, hA, hE, hR⟩ := K
  subst hnl
  intro H locs ls hP hS hl
  exact lv_ldiv hx hb hdg hz (k H locs ls hP hS hl)
theorem V_lrem {x : Cx} {cc : ByteArray} {own : String} {nL : Nat} {ret : Option FieldType} {d pc : Nat} {lv : List (Nat × Value)} {st : List Value} {h : Hp} {a b : Int64} (K : Ok x cc own nL ret d) (hdg : decode cc pc = .ok (.lrem, 1)) (hz : ¬ b = 0) (k : VV x (pc + 1) lv (.long (a - a / b * b) :: st) h) : VV x pc lv (.long b :: .long a :: st) h := by
  obtain ⟨⟨p, l, e, R, s, m, args, below, meth, c⟩, A, G, nL0, r, h'⟩ := x
  obtain ⟨hx, hb, hr, hlocks, hml, hnl, hown, hts, hK, hD, hA, hE, hR⟩ := K
  subst hnl
  intro H locs ls hP hS hl
  exact lv_lrem hx hb hdg hz (k H locs ls hP hS hl)
theorem V_i2l {x : Cx} {cc : ByteArray} {own : String} {nL : Nat} {ret : Option FieldType} {d pc : Nat} {lv : List (Nat × Value)} {st : List Value} {h : Hp} {a : Int32} (K : Ok x cc own nL ret d) (hdg : decode cc pc = .ok (.i2l, 1)) (k : VV x (pc + 1) lv (.long a.toInt64 :: st) h) : VV x pc lv (.int a :: st) h := by
  obtain ⟨⟨p, l, e, R, s, m, args, below, meth, c⟩, A, G, nL0, r, h'⟩ := x
  obtain ⟨hx, hb, hr, hlocks, hml, hnl, hown, hts, hK, hD, hA, hE, hR⟩ := K
  subst hnl
  intro H locs ls hP hS hl
  exact lv_i2l hx hb hdg rfl (k H locs ls hP hS hl)
theorem V_l2i {x : Cx} {cc : ByteArray} {own : String} {nL : Nat} {ret : Option FieldType} {d pc : Nat} {lv : List (Nat × Value)} {st : List Value} {h : Hp} {a : Int64} (K : Ok x cc own nL ret d) (hdg : decode cc pc = .ok (.l2i, 1)) (k : VV x (pc + 1) lv (.int a.toInt32 :: st) h) : VV x pc lv (.long a :: st) h := by
  obtain ⟨⟨p, l, e, R, s, m, args, below, meth, c⟩, A, G, nL0, r, h'⟩ := x
  obtain ⟨hx, hb, hr, hlocks, hml, hnl, hown, hts, hK, hD, hA, hE, hR⟩ := K
  subst hnl
  intro H locs ls hP hS hl
  exact lv_l2i hx hb hdg rfl (k H locs ls hP hS hl)
theorem V_i2b {x : Cx} {cc : ByteArray} {own : String} {nL : Nat} {ret : Option FieldType} {d pc : Nat} {lv : List (Nat × Value)} {st : List Value} {h : Hp} {a : Int32} (K : Ok x cc own nL ret d) (hdg : decode cc pc = .ok (.i2b, 1)) (k : VV x (pc + 1) lv (.int a.toInt8.toInt32 :: st) h) : VV x pc lv (.int a :: st) h := by
  obtain ⟨⟨p, l, e, R, s, m, args, below, meth, c⟩, A, G, nL0, r, h'⟩ := x
  obtain ⟨hx, hb, hr, hlocks, hml, hnl, hown, hts, hK, hD, hA, hE, hR⟩ := K
  subst hnl
  intro H locs ls hP hS hl
  exact lv_i2b hx hb hdg rfl (k H locs ls hP hS hl)
theorem V_dup {x : Cx} {cc : ByteArray} {own : String} {nL : Nat} {ret : Option FieldType} {d pc : Nat} {lv : List (Nat × Value)} {st : List Value} {h : Hp} {a : Value} (K : Ok x cc own nL ret d) (hdg : decode cc pc = .ok (.dup, 1)) (hc : a.category = 1) (k : VV x (pc + 1) lv (a :: a :: st) h) : VV x pc lv (a :: st) h := by
  obtain ⟨⟨p, l, e, R, s, m, args, below, meth, c⟩, A, G, nL0, r, h'⟩ := x
  obtain ⟨hx, hb, hr, hlocks, hml, hnl, hown, hts, hK, hD, hA, hE, hR⟩ := K
  subst hnl
  intro H locs ls hP hS hl
  exact lv_dup hx hb hdg hc (k H locs ls hP hS hl)
theorem V_pop {x : Cx} {cc : ByteArray} {own : String} {nL : Nat} {ret : Option FieldType} {d pc : Nat} {lv : List (Nat × Value)} {st : List Value} {h : Hp} {a : Value} (K : Ok x cc own nL ret d) (hdg : decode cc pc = .ok (.pop, 1)) (hc : a.category = 1) (k : VV x (pc + 1) lv st h) : VV x pc lv (a :: st) h := by
  obtain ⟨⟨p, l, e, R, s, m, args, below, meth, c⟩, A, G, nL0, r, h'⟩ := x
  obtain ⟨hx, hb, hr, hlocks, hml, hnl, hown, hts, hK, hD, hA, hE, hR⟩ := K
  subst hnl
  intro H locs ls hP hS hl
  exact lv_pop hx hb hdg hc (k H locs ls hP hS hl)
theorem V_dup2 {x : Cx} {cc : ByteArray} {own : String} {nL : Nat} {ret : Option FieldType} {d pc : Nat} {lv : List (Nat × Value)} {st : List Value} {h : Hp} {a b : Value} (K : Ok x cc own nL ret d) (hdg : decode cc pc = .ok (.dup2, 1)) (hc : a.category = 1) (hc2 : b.category = 1) (k : VV x (pc + 1) lv (a :: b :: a :: b :: st) h) : VV x pc lv (a :: b :: st) h := by
  obtain ⟨⟨p, l, e, R, s, m, args, below, meth, c⟩, A, G, nL0, r, h'⟩ := x
  obtain ⟨hx, hb, hr, hlocks, hml, hnl, hown, hts, hK, hD, hA, hE, hR⟩ := K
  subst hnl
  intro H locs ls hP hS hl
  exact lv_dup2_11 hx hb hdg hc hc2 (k H locs ls hP hS hl)
theorem V_if_eq_t {x : Cx} {cc : ByteArray} {own : String} {nL : Nat} {ret : Option FieldType} {d pc : Nat} {lv : List (Nat × Value)} {st : List Value} {h : Hp} {a : Int32} {off : Int} (K : Ok x cc own nL ret d) (tgt : Nat) (hdg : decode cc pc = .ok (.ifCond .eq off, 3)) (ht : (pc : Int) + off = (tgt : Int)) (hc : a = 0) (k : VV x tgt lv st h) : VV x pc lv (.int a :: st) h := by
  obtain ⟨⟨p, l, e, R, s, m, args, below, meth, c⟩, A, G, nL0, r, h'⟩ := x
  obtain ⟨hx, hb, hr, hlocks, hml, hnl, hown, hts, hK, hD, hA, hE, hR⟩ := K
  subst hnl
  intro H locs ls hP hS hl
  exact lv_if_eq hx hb hdg ht (fun c => k H locs ls hP hS hl) (fun c => absurd hc c)
theorem V_ic_eq_t {x : Cx} {cc : ByteArray} {own : String} {nL : Nat} {ret : Option FieldType} {d pc : Nat} {lv : List (Nat × Value)} {st : List Value} {h : Hp} {a b : Int32} {off : Int} (K : Ok x cc own nL ret d) (tgt : Nat) (hdg : decode cc pc = .ok (.if_icmp .eq off, 3)) (ht : (pc : Int) + off = (tgt : Int)) (hc : a = b) (k : VV x tgt lv st h) : VV x pc lv (.int b :: .int a :: st) h := by
  obtain ⟨⟨p, l, e, R, s, m, args, below, meth, c⟩, A, G, nL0, r, h'⟩ := x
  obtain ⟨hx, hb, hr, hlocks, hml, hnl, hown, hts, hK, hD, hA, hE, hR⟩ := K
  subst hnl
  intro H locs ls hP hS hl
  exact lv_icmp_eq hx hb hdg ht (fun c => k H locs ls hP hS hl) (fun c => absurd hc c)
theorem V_if_eq_f {x : Cx} {cc : ByteArray} {own : String} {nL : Nat} {ret : Option FieldType} {d pc : Nat} {lv : List (Nat × Value)} {st : List Value} {h : Hp} {a : Int32} {off : Int} (K : Ok x cc own nL ret d) (tgt : Nat) (hdg : decode cc pc = .ok (.ifCond .eq off, 3)) (ht : (pc : Int) + off = (tgt : Int)) (hc : ¬ (a = 0)) (k : VV x (pc + 3) lv st h) : VV x pc lv (.int a :: st) h := by
  obtain ⟨⟨p, l, e, R, s, m, args, below, meth, c⟩, A, G, nL0, r, h'⟩ := x
  obtain ⟨hx, hb, hr, hlocks, hml, hnl, hown, hts, hK, hD, hA, hE, hR⟩ := K
  subst hnl
  intro H locs ls hP hS hl
  exact lv_if_eq hx hb hdg ht (fun c => absurd c hc) (fun c => k H locs ls hP hS hl)
theorem V_ic_eq_f {x : Cx} {cc : ByteArray} {own : String} {nL : Nat} {ret : Option FieldType} {d pc : Nat} {lv : List (Nat × Value)} {st : List Value} {h : Hp} {a b : Int32} {off : Int} (K : Ok x cc own nL ret d) (tgt : Nat) (hdg : decode cc pc = .ok (.if_icmp .eq off, 3)) (ht : (pc : Int) + off = (tgt : Int)) (hc : ¬ (a = b)) (k : VV x (pc + 3) lv st h) : VV x pc lv (.int b :: .int a :: st) h := by
  obtain ⟨⟨p, l, e, R, s, m, args, below, meth, c⟩, A, G, nL0, r, h'⟩ := x
  obtain ⟨hx, hb, hr, hlocks, hml, hnl, hown, hts, hK, hD, hA, hE, hR⟩ := K
  subst hnl
  intro H locs ls hP hS hl
  exact lv_icmp_eq hx hb hdg ht (fun c => absurd c hc) (fun c => k H locs ls hP hS hl)
theorem V_if_ne_t {x : Cx} {cc : ByteArray} {own : String} {nL : Nat} {ret : Option FieldType} {d pc : Nat} {lv : List (Nat × Value)} {st : List Value} {h : Hp} {a : Int32} {off : Int} (K : Ok x cc own nL ret d) (tgt : Nat) (hdg : decode cc pc = .ok (.ifCond .ne off, 3)) (ht : (pc : Int) + off = (tgt : Int)) (hc : ¬ a = 0) (k : VV x tgt lv st h) : VV x pc lv (.int a :: st) h := by
  obtain ⟨⟨p, l, e, R, s, m, args, below, meth, c⟩, A, G, nL0, r, h'⟩ := x
  obtain ⟨hx, hb, hr, hlocks, hml, hnl, hown, hts, hK, hD, hA, hE, hR⟩ := K
  subst hnl
  intro H locs ls hP hS hl
  refine lv_if_ne hx hb hdg ht (fun c => ?_) (fun c => ?_)
  · first | exact k H locs ls hP hS hl | exact absurd hc c
  · first | exact absurd hc c | exact absurd c hc | exact k H locs ls hP hS hl
theorem V_ic_ne_t {x : Cx} {cc : ByteArray} {own : String} {nL : Nat} {ret : Option FieldType} {d pc : Nat} {lv : List (Nat × Value)} {st : List Value} {h : Hp} {a b : Int32} {off : Int} (K : Ok x cc own nL ret d) (tgt : Nat) (hdg : decode cc pc = .ok (.if_icmp .ne off, 3)) (ht : (pc : Int) + off = (tgt : Int)) (hc : ¬ a = b) (k : VV x tgt lv st h) : VV x pc lv (.int b :: .int a :: st) h := by
  obtain ⟨⟨p, l, e, R, s, m, args, below, meth, c⟩, A, G, nL0, r, h'⟩ := x
  obtain ⟨hx, hb, hr, hlocks, hml, hnl, hown, hts, hK, hD, hA, hE, hR⟩ := K
  subst hnl
  intro H locs ls hP hS hl
  refine lv_icmp_ne hx hb hdg ht (fun c => ?_) (fun c => ?_)
  · first | exact k H locs ls hP hS hl | exact absurd hc c
  · first | exact absurd hc c | exact absurd c hc | exact k H locs ls hP hS hl
theorem V_if_ne_f {x : Cx} {cc : ByteArray} {own : String} {nL : Nat} {ret : Option FieldType} {d pc : Nat} {lv : List (Nat × Value)} {st : List Value} {h : Hp} {a : Int32} {off : Int} (K : Ok x cc own nL ret d) (tgt : Nat) (hdg : decode cc pc = .ok (.ifCond .ne off, 3)) (ht : (pc : Int) + off = (tgt : Int)) (hc : a = 0) (k : VV x (pc + 3) lv st h) : VV x pc lv (.int a :: st) h := by
  obtain ⟨⟨p, l, e, R, s, m, args, below, meth, c⟩, A, G, nL0, r, h'⟩ := x
  obtain ⟨hx, hb, hr, hlocks, hml, hnl, hown, hts, hK, hD, hA, hE, hR⟩ := K
  subst hnl
  intro H locs ls hP hS hl
  refine lv_if_ne hx hb hdg ht (fun c => ?_) (fun c => ?_)
  · first | exact absurd hc c | exact absurd c hc
  · exact k H locs ls hP hS hl
theorem V_ic_ne_f {x : Cx} {cc : ByteArray} {own : String} {nL : Nat} {ret : Option FieldType} {d pc : Nat} {lv : List (Nat × Value)} {st : List Value} {h : Hp} {a b : Int32} {off : Int} (K : Ok x cc own nL ret d) (tgt : Nat) (hdg : decode cc pc = .ok (.if_icmp .ne off, 3)) (ht : (pc : Int) + off = (tgt : Int)) (hc : a = b) (k : VV x (pc + 3) lv st h) : VV x pc lv (.int b :: .int a :: st) h := by
  obtain ⟨⟨p, l, e, R, s, m, args, below, meth, c⟩, A, G, nL0, r, h'⟩ := x
  obtain ⟨hx, hb, hr, hlocks, hml, hnl, hown, hts, hK, hD, hA, hE, hR⟩ := K
  subst hnl
  intro H locs ls hP hS hl
  refine lv_icmp_ne hx hb hdg ht (fun c => ?_) (fun c => ?_)
  · first | exact absurd hc c | exact absurd c hc
  · exact k H locs ls hP hS hl
theorem V_if_lt_t {x : Cx} {cc : ByteArray} {own : String} {nL : Nat} {ret : Option FieldType} {d pc : Nat} {lv : List (Nat × Value)} {st : List Value} {h : Hp} {a : Int32} {off : Int} (K : Ok x cc own nL ret d) (tgt : Nat) (hdg : decode cc pc = .ok (.ifCond .lt off, 3)) (ht : (pc : Int) + off = (tgt : Int)) (hc : a < 0) (k : VV x tgt lv st h) : VV x pc lv (.int a :: st) h := by
  obtain ⟨⟨p, l, e, R, s, m, args, below, meth, c⟩, A, G, nL0, r, h'⟩ := x
  obtain ⟨hx, hb, hr, hlocks, hml, hnl, hown, hts, hK, hD, hA, hE, hR⟩ := K
  subst hnl
  intro H locs ls hP hS hl
  exact lv_if_lt hx hb hdg ht (fun c => k H locs ls hP hS hl) (fun c => absurd hc c)
theorem V_ic_lt_t {x : Cx} {cc : ByteArray} {own : String} {nL : Nat} {ret : Option FieldType} {d pc : Nat} {lv : List (Nat × Value)} {st : List Value} {h : Hp} {a b : Int32} {off : Int} (K : Ok x cc own nL ret d) (tgt : Nat) (hdg : decode cc pc = .ok (.if_icmp .lt off, 3)) (ht : (pc : Int) + off = (tgt : Int)) (hc : a < b) (k : VV x tgt lv st h) : VV x pc lv (.int b :: .int a :: st) h := by
  obtain ⟨⟨p, l, e, R, s, m, args, below, meth, c⟩, A, G, nL0, r, h'⟩ := x
  obtain ⟨hx, hb, hr, hlocks, hml, hnl, hown, hts, hK, hD, hA, hE, hR⟩ := K
  subst hnl
  intro H locs ls hP hS hl
  exact lv_icmp_lt hx hb hdg ht (fun c => k H locs ls hP hS hl) (fun c => absurd hc c)
theorem V_if_lt_f {x : Cx} {cc : ByteArray} {own : String} {nL : Nat} {ret : Option FieldType} {d pc : Nat} {lv : List (Nat × Value)} {st : List Value} {h : Hp} {a : Int32} {off : Int} (K : Ok x cc own nL ret d) (tgt : Nat) (hdg : decode cc pc = .ok (.ifCond .lt off, 3)) (ht : (pc : Int) + off = (tgt : Int)) (hc : ¬ (a < 0)) (k : VV x (pc + 3) lv st h) : VV x pc lv (.int a :: st) h := by
  obtain ⟨⟨p, l, e, R, s, m, args, below, meth, c⟩, A, G, nL0, r, h'⟩ := x
  obtain ⟨hx, hb, hr, hlocks, hml, hnl, hown, hts, hK, hD, hA, hE, hR⟩ := K
  subst hnl
  intro H locs ls hP hS hl
  exact lv_if_lt hx hb hdg ht (fun c => absurd c hc) (fun c => k H locs ls hP hS hl)
theorem V_ic_lt_f {x : Cx} {cc : ByteArray} {own : String} {nL : Nat} {ret : Option FieldType} {d pc : Nat} {lv : List (Nat × Value)} {st : List Value} {h : Hp} {a b : Int32} {off : Int} (K : Ok x cc own nL ret d) (tgt : Nat) (hdg : decode cc pc = .ok (.if_icmp .lt off, 3)) (ht : (pc : Int) + off = (tgt : Int)) (hc : ¬ (a < b)) (k : VV x (pc + 3) lv st h) : VV x pc lv (.int b :: .int a :: st) h := by
  obtain ⟨⟨p, l, e, R, s, m, args, below, meth, c⟩, A, G, nL0, r, h'⟩ := x
  obtain ⟨hx, hb, hr, hlocks, hml, hnl, hown, hts, hK, hD, hA, hE, hR⟩ := K
  subst hnl
  intro H locs ls hP hS hl
  exact lv_icmp_lt hx hb hdg ht (fun c => absurd c hc) (fun c => k H locs ls hP hS hl)
theorem V_if_ge_t {x : Cx} {cc : ByteArray} {own : String} {nL : Nat} {ret : Option FieldType} {d pc : Nat} {lv : List (Nat × Value)} {st : List Value} {h : Hp} {a : Int32} {off : Int} (K : Ok x cc own nL ret d) (tgt : Nat) (hdg : decode cc pc = .ok (.ifCond .ge off, 3)) (ht : (pc : Int) + off = (tgt : Int)) (hc : 0 ≤ a) (k : VV x tgt lv st h) : VV x pc lv (.int a :: st) h := by
  obtain ⟨⟨p, l, e, R, s, m, args, below, meth, c⟩, A, G, nL0, r, h'⟩ := x
  obtain ⟨hx, hb, hr, hlocks, hml, hnl, hown, hts, hK, hD, hA, hE, hR⟩ := K
  subst hnl
  intro H locs ls hP hS hl
  exact lv_if_ge hx hb hdg ht (fun c => k H locs ls hP hS hl) (fun c => absurd hc c)
theorem V_ic_ge_t {x : Cx} {cc : ByteArray} {own : String} {nL : Nat} {ret : Option FieldType} {d pc : Nat} {lv : List (Nat × Value)} {st : List Value} {h : Hp} {a b : Int32} {off : Int} (K : Ok x cc own nL ret d) (tgt : Nat) (hdg : decode cc pc = .ok (.if_icmp .ge off, 3)) (ht : (pc : Int) + off = (tgt : Int)) (hc : b ≤ a) (k : VV x tgt lv st h) : VV x pc lv (.int b :: .int a :: st) h := by
  obtain ⟨⟨p, l, e, R, s, m, args, below, meth, c⟩, A, G, nL0, r, h'⟩ := x
  obtain ⟨hx, hb, hr, hlocks, hml, hnl, hown, hts, hK, hD, hA, hE, hR⟩ := K
  subst hnl
  intro H locs ls hP hS hl
  exact lv_icmp_ge hx hb hdg ht (fun c => k H locs ls hP hS hl) (fun c => absurd hc c)
theorem V_if_ge_f {x : Cx} {cc : ByteArray} {own : String} {nL : Nat} {ret : Option FieldType} {d pc : Nat} {lv : List (Nat × Value)} {st : List Value} {h : Hp} {a : Int32} {off : Int} (K : Ok x cc own nL ret d) (tgt : Nat) (hdg : decode cc pc = .ok (.ifCond .ge off, 3)) (ht : (pc : Int) + off = (tgt : Int)) (hc : ¬ (0 ≤ a)) (k : VV x (pc + 3) lv st h) : VV x pc lv (.int a :: st) h := by
  obtain ⟨⟨p, l, e, R, s, m, args, below, meth, c⟩, A, G, nL0, r, h'⟩ := x
  obtain ⟨hx, hb, hr, hlocks, hml, hnl, hown, hts, hK, hD, hA, hE, hR⟩ := K
  subst hnl
  intro H locs ls hP hS hl
  exact lv_if_ge hx hb hdg ht (fun c => absurd c hc) (fun c => k H locs ls hP hS hl)
theorem V_ic_ge_f {x : Cx} {cc : ByteArray} {own : String} {nL : Nat} {ret : Option FieldType} {d pc : Nat} {lv : List (Nat × Value)} {st : List Value} {h : Hp} {a b : Int32} {off : Int} (K : Ok x cc own nL ret d) (tgt : Nat) (hdg : decode cc pc = .ok (.if_icmp .ge off, 3)) (ht : (pc : Int) + off = (tgt : Int)) (hc : ¬ (b ≤ a)) (k : VV x (pc + 3) lv st h) : VV x pc lv (.int b :: .int a :: st) h := by
  obtain ⟨⟨p, l, e, R, s, m, args, below, meth, c⟩, A, G, nL0, r, h'⟩ := x
  obtain ⟨hx, hb, hr, hlocks, hml, hnl, hown, hts, hK, hD, hA, hE, hR⟩ := K
  subst hnl
  intro H locs ls hP hS hl
  exact lv_icmp_ge hx hb hdg ht (fun c => absurd c hc) (fun c => k H locs ls hP hS hl)
theorem V_if_gt_t {x : Cx} {cc : ByteArray} {own : String} {nL : Nat} {ret : Option FieldType} {d pc : Nat} {lv : List (Nat × Value)} {st : List Value} {h : Hp} {a : Int32} {off : Int} (K : Ok x cc own nL ret d) (tgt : Nat) (hdg : decode cc pc = .ok (.ifCond .gt off, 3)) (ht : (pc : Int) + off = (tgt : Int)) (hc : 0 < a) (k : VV x tgt lv st h) : VV x pc lv (.int a :: st) h := by
  obtain ⟨⟨p, l, e, R, s, m, args, below, meth, c⟩, A, G, nL0, r, h'⟩ := x
  obtain ⟨hx, hb, hr, hlocks, hml, hnl, hown, hts, hK, hD, hA, hE, hR⟩ := K
  subst hnl
  intro H locs ls hP hS hl
  exact lv_if_gt hx hb hdg ht (fun c => k H locs ls hP hS hl) (fun c => absurd hc c)
theorem V_ic_gt_t {x : Cx} {cc : ByteArray} {own : String} {nL : Nat} {ret : Option FieldType} {d pc : Nat} {lv : List (Nat × Value)} {st : List Value} {h : Hp} {a b : Int32} {off : Int} (K : Ok x cc own nL ret d) (tgt : Nat) (hdg : decode cc pc = .ok (.if_icmp .gt off, 3)) (ht : (pc : Int) + off = (tgt : Int)) (hc : b < a) (k : VV x tgt lv st h) : VV x pc lv (.int b :: .int a :: st) h := by
  obtain ⟨⟨p, l, e, R, s, m, args, below, meth, c⟩, A, G, nL0, r, h'⟩ := x
  obtain ⟨hx, hb, hr, hlocks, hml, hnl, hown, hts, hK, hD, hA, hE, hR⟩ := K
  subst hnl
  intro H locs ls hP hS hl
  exact lv_icmp_gt hx hb hdg ht (fun c => k H locs ls hP hS hl) (fun c => absurd hc c)
theorem V_if_gt_f {x : Cx} {cc : ByteArray} {own : String} {nL : Nat} {ret : Option FieldType} {d pc : Nat} {lv : List (Nat × Value)} {st : List Value} {h : Hp} {a : Int32} {off : Int} (K : Ok x cc own nL ret d) (tgt : Nat) (hdg : decode cc pc = .ok (.ifCond .gt off, 3)) (ht : (pc : Int) + off = (tgt : Int)) (hc : ¬ (0 < a)) (k : VV x (pc + 3) lv st h) : VV x pc lv (.int a :: st) h := by
  obtain ⟨⟨p, l, e, R, s, m, args, below, meth, c⟩, A, G, nL0, r, h'⟩ := x
  obtain ⟨hx, hb, hr, hlocks, hml, hnl, hown, hts, hK, hD, hA, hE, hR⟩ := K
  subst hnl
  intro H locs ls hP hS hl
  exact lv_if_gt hx hb hdg ht (fun c => absurd c hc) (fun c => k H locs ls hP hS hl)
theorem V_ic_gt_f {x : Cx} {cc : ByteArray} {own : String} {nL : Nat} {ret : Option FieldType} {d pc : Nat} {lv : List (Nat × Value)} {st : List Value} {h : Hp} {a b : Int32} {off : Int} (K : Ok x cc own nL ret d) (tgt : Nat) (hdg : decode cc pc = .ok (.if_icmp .gt off, 3)) (ht : (pc : Int) + off = (tgt : Int)) (hc : ¬ (b < a)) (k : VV x (pc + 3) lv st h) : VV x pc lv (.int b :: .int a :: st) h := by
  obtain ⟨⟨p, l, e, R, s, m, args, below, meth, c⟩, A, G, nL0, r, h'⟩ := x
  obtain ⟨hx, hb, hr, hlocks, hml, hnl, hown, hts, hK, hD, hA, hE, hR⟩ := K
  subst hnl
  intro H locs ls hP hS hl
  exact lv_icmp_gt hx hb hdg ht (fun c => absurd c hc) (fun c => k H locs ls hP hS hl)
theorem V_if_le_t {x : Cx} {cc : ByteArray} {own : String} {nL : Nat} {ret : Option FieldType} {d pc : Nat} {lv : List (Nat × Value)} {st : List Value} {h : Hp} {a : Int32} {off : Int} (K : Ok x cc own nL ret d) (tgt : Nat) (hdg : decode cc pc = .ok (.ifCond .le off, 3)) (ht : (pc : Int) + off = (tgt : Int)) (hc : a ≤ 0) (k : VV x tgt lv st h) : VV x pc lv (.int a :: st) h := by
  obtain ⟨⟨p, l, e, R, s, m, args, below, meth, c⟩, A, G, nL0, r, h'⟩ := x
  obtain ⟨hx, hb, hr, hlocks, hml, hnl, hown, hts, hK, hD, hA, hE, hR⟩ := K
  subst hnl
  intro H locs ls hP hS hl
  exact lv_if_le hx hb hdg ht (fun c => k H locs ls hP hS hl) (fun c => absurd hc c)
theorem V_ic_le_t {x : Cx} {cc : ByteArray} {own : String} {nL : Nat} {ret : Option FieldType} {d pc : Nat} {lv : List (Nat × Value)} {st : List Value} {h : Hp} {a b : Int32} {off : Int} (K : Ok x cc own nL ret d) (tgt : Nat) (hdg : decode cc pc = .ok (.if_icmp .le off, 3)) (ht : (pc : Int) + off = (tgt : Int)) (hc : a ≤ b) (k : VV x tgt lv st h) : VV x pc lv (.int b :: .int a :: st) h := by
  obtain ⟨⟨p, l, e, R, s, m, args, below, meth, c⟩, A, G, nL0, r, h'⟩ := x
  obtain ⟨hx, hb, hr, hlocks, hml, hnl, hown, hts, hK, hD, hA, hE, hR⟩ := K
  subst hnl
  intro H locs ls hP hS hl
  exact lv_icmp_le hx hb hdg ht (fun c => k H locs ls hP hS hl) (fun c => absurd hc c)
theorem V_if_le_f {x : Cx} {cc : ByteArray} {own : String} {nL : Nat} {ret : Option FieldType} {d pc : Nat} {lv : List (Nat × Value)} {st : List Value} {h : Hp} {a : Int32} {off : Int} (K : Ok x cc own nL ret d) (tgt : Nat) (hdg : decode cc pc = .ok (.ifCond .le off, 3)) (ht : (pc : Int) + off = (tgt : Int)) (hc : ¬ (a ≤ 0)) (k : VV x (pc + 3) lv st h) : VV x pc lv (.int a :: st) h := by
  obtain ⟨⟨p, l, e, R, s, m, args, below, meth, c⟩, A, G, nL0, r, h'⟩ := x
  obtain ⟨hx, hb, hr, hlocks, hml, hnl, hown, hts, hK, hD, hA, hE, hR⟩ := K
  subst hnl
  intro H locs ls hP hS hl
  exact lv_if_le hx hb hdg ht (fun c => absurd c hc) (fun c => k H locs ls hP hS hl)
theorem V_ic_le_f {x : Cx} {cc : ByteArray} {own : String} {nL : Nat} {ret : Option FieldType} {d pc : Nat} {lv : List (Nat × Value)} {st : List Value} {h : Hp} {a b : Int32} {off : Int} (K : Ok x cc own nL ret d) (tgt : Nat) (hdg : decode cc pc = .ok (.if_icmp .le off, 3)) (ht : (pc : Int) + off = (tgt : Int)) (hc : ¬ (a ≤ b)) (k : VV x (pc + 3) lv st h) : VV x pc lv (.int b :: .int a :: st) h := by
  obtain ⟨⟨p, l, e, R, s, m, args, below, meth, c⟩, A, G, nL0, r, h'⟩ := x
  obtain ⟨hx, hb, hr, hlocks, hml, hnl, hown, hts, hK, hD, hA, hE, hR⟩ := K
  subst hnl
  intro H locs ls hP hS hl
  exact lv_icmp_le hx hb hdg ht (fun c => absurd c hc) (fun c => k H locs ls hP hS hl)
theorem V_goto {x : Cx} {cc : ByteArray} {own : String} {nL : Nat} {ret : Option FieldType} {d pc : Nat} {lv : List (Nat × Value)} {st : List Value} {h : Hp} {off : Int} (K : Ok x cc own nL ret d) (tgt : Nat) (hdg : decode cc pc = .ok (.goto off, 3)) (ht : (pc : Int) + off = (tgt : Int)) (k : VV x tgt lv st h) : VV x pc lv (st) h := by
  obtain ⟨⟨p, l, e, R, s, m, args, below, meth, c⟩, A, G, nL0, r, h'⟩ := x
  obtain ⟨hx, hb, hr, hlocks, hml, hnl, hown, hts, hK, hD, hA, hE, hR⟩ := K
  subst hnl
  intro H locs ls hP hS hl
  exact lv_goto hx hb hdg ht (k H locs ls hP hS hl)
theorem V_tin {x : Cx} {cc : ByteArray} {own : String} {nL : Nat} {ret : Option FieldType} {d pc : Nat} {lv : List (Nat × Value)} {st : List Value} {h : Hp} {dflt lo hi : Int} {offs : Array Int} {len : Nat} {a : Int32} {off : Int} (K : Ok x cc own nL ret d) (tgt : Nat) (hdg : decode cc pc = .ok (.tableswitch dflt lo hi offs, len)) (h1 : ¬ a.toInt < lo) (h2 : ¬ hi < a.toInt) (ho : offs[(a.toInt - lo).toNat]? = some off) (ht : (pc : Int) + off = (tgt : Int)) (k : VV x tgt lv st h) : VV x pc lv (.int a :: st) h := by
  obtain ⟨⟨p, l, e, R, s, m, args, below, meth, c⟩, A, G, nL0, r, h'⟩ := x
  obtain ⟨hx, hb, hr, hlocks, hml, hnl, hown, hts, hK, hD, hA, hE, hR⟩ := K
  subst hnl
  intro H locs ls hP hS hl
  exact lv_tableIn hx hb hdg h1 h2 ho ht (k H locs ls hP hS hl)
theorem V_tout {x : Cx} {cc : ByteArray} {own : String} {nL : Nat} {ret : Option FieldType} {d pc : Nat} {lv : List (Nat × Value)} {st : List Value} {h : Hp} {dflt lo hi : Int} {offs : Array Int} {len : Nat} {a : Int32} (K : Ok x cc own nL ret d) (tgt : Nat) (hdg : decode cc pc = .ok (.tableswitch dflt lo hi offs, len)) (h1 : a.toInt < lo ∨ hi < a.toInt) (ht : (pc : Int) + dflt = (tgt : Int)) (k : VV x tgt lv st h) : VV x pc lv (.int a :: st) h := by
  obtain ⟨⟨p, l, e, R, s, m, args, below, meth, c⟩, A, G, nL0, r, h'⟩ := x
  obtain ⟨hx, hb, hr, hlocks, hml, hnl, hown, hts, hK, hD, hA, hE, hR⟩ := K
  subst hnl
  intro H locs ls hP hS hl
  exact lv_tableOut hx hb hdg h1 ht (k H locs ls hP hS hl)
theorem V_lookup {x : Cx} {cc : ByteArray} {own : String} {nL : Nat} {ret : Option FieldType} {d pc : Nat} {lv : List (Nat × Value)} {st : List Value} {h : Hp} {dflt : Int} {ps : Array (Int × Int)} {len : Nat} {a : Int32} {off : Int} (K : Ok x cc own nL ret d) (tgt : Nat) (hdg : decode cc pc = .ok (.lookupswitch dflt ps, len)) (hp : (ps.toList.zip (ps.toList.drop 1)).all (fun (a, next) => a.1 < next.1) = true) (ho : Op.lookupswitch.offset ps.toList dflt a.toInt = off) (ht : (pc : Int) + off = (tgt : Int)) (k : VV x tgt lv st h) : VV x pc lv (.int a :: st) h := by
  obtain ⟨⟨p, l, e, R, s, m, args, below, meth, c⟩, A, G, nL0, r, h'⟩ := x
  obtain ⟨hx, hb, hr, hlocks, hml, hnl, hown, hts, hK, hD, hA, hE, hR⟩ := K
  subst hnl
  intro H locs ls hP hS hl
  exact lv_lookup hx hb hdg hp ho ht (k H locs ls hP hS hl)
theorem V_lcmp {x : Cx} {cc : ByteArray} {own : String} {nL : Nat} {ret : Option FieldType} {d pc : Nat} {lv : List (Nat × Value)} {st : List Value} {h : Hp} {a b : Int64} (K : Ok x cc own nL ret d) (hdg : decode cc pc = .ok (.lcmp, 1)) (k : VV x (pc + 1) lv (.int (lg_cmp a b) :: st) h) : VV x pc lv (.long b :: .long a :: st) h := by
  obtain ⟨⟨p, l, e, R, s, m, args, below, meth, c⟩, A, G, nL0, r, h'⟩ := x
  obtain ⟨hx, hb, hr, hlocks, hml, hnl, hown, hts, hK, hD, hA, hE, hR⟩ := K
  subst hnl
  intro H locs ls hP hS hl
  exact W.lcmp hx hb hdg (k H locs ls hP hS hl)
end
section
def ib (i : Int32) (n : Nat) : Bool := decide (¬ (i < 0 ∨ n ≤ i.toNatClampNeg))
theorem ib_in {i : Int32} {n : Nat} (h : ib i n = true) : vp_in i n := by unfold ib at h; exact of_decide_eq_true (p := ¬ (i < 0 ∨ n ≤ i.toNatClampNeg)) h
abbrev ix (i : Int32) : Nat := i.toNatClampNeg
theorem V_get {x : Cx} {cc : ByteArray} {own : String} {nL : Nat} {ret : Option FieldType} {d pc : Nat} {lv : List (Nat × Value)} {st : List Value} {h : Hp} {o ci idx : Nat} {fs : List Value} {C : String} {T : u_T} {N : Nat} {v : Value} (K : Ok x cc own nL ret d) (ho : o < 65) (hc : cl_ x.2.2.1 h o = .inr (ci, fs)) (hcl : vwCl[ci]? = some (C, T, N)) (hin : ∀ w ∈ u_ws C T N, w ∈ TB) (k : Nat) (hk : k < N) (hm : Cond.fieldLink own idx (T k).1 (T k).2.1 (T k).2.2.1 ∈ TB) (hv : fs[k]? = some v) (hdg : decode cc pc = .ok (.getfield idx, 3)) (kk : VV x (pc + 3) lv (v :: st) h) : VV x pc lv (.ref (ad x o) :: st) h := by
  obtain ⟨⟨p, l, e, R, s, m, args, below, meth, c⟩, A, G, nL0, r, h'⟩ := x
  obtain ⟨hx, hb, hr, hlocks, hml, hnl, hown, hts, hK, hD, hA, hE, hR⟩ := K
  subst hnl
  intro H locs ls hP hS hl
  exact va_get hx hb hts hin hown hK hP o ((wd_get ho).trans (by rw [hc])) hcl k hk (hts _ hm) (fun _ h9 => h9) hv hdg (kk H locs ls hP hS hl)
theorem V_put {x : Cx} {cc : ByteArray} {own : String} {nL : Nat} {ret : Option FieldType} {d pc : Nat} {lv : List (Nat × Value)} {st : List Value} {h : Hp} {h2 : Hp} {o ci idx : Nat} {fs : List Value} {C : String} {T : u_T} {N : Nat} {v : Value} {ty : FieldType} (K : Ok x cc own nL ret d) (ho : o < 65) (hc : cl_ x.2.2.1 h o = .inr (ci, fs)) (hcl : vwCl[ci]? = some (C, T, N)) (hin : ∀ w ∈ u_ws C T N, w ∈ TB) (ty0 : Nat → FieldType) (hty : ∀ k, k < N → parseFieldDescriptor (T k).2.2.1 = some (ty0 k)) (hnm : ∀ a, a < N → ∀ b, b < N → a ≠ b → (T a).2.1 ≠ (T b).2.1) (k : Nat) (hk : k < N) (hm : Cond.fieldLink own idx (T k).1 (T k).2.1 (T k).2.2.1 ∈ TB) (hfin : (T k).2.2.2 = false) (hd : parseFieldDescriptor (T k).2.2.1 = some ty) (hn : narrow ty v = v) (hfit : fits ty v = true) (hlen : k < fs.length) (hc2 : cl_ x.2.2.1 h2 o = .inr (ci, fs.set k v)) (hoth : ∀ j, j ≠ o → cl_ x.2.2.1 h2 j = cl_ x.2.2.1 h j) (hdg : decode cc pc = .ok (.putfield idx, 3)) (kk : VV x (pc + 3) lv st h2) : VV x pc lv (v :: .ref (ad x o) :: st) h := by
  obtain ⟨⟨p, l, e, R, s, m, args, below, meth, c⟩, A, G, nL0, r, h'⟩ := x
  obtain ⟨hx, hb, hr, hlocks, hml, hnl, hown, hts, hK, hD, hA, hE, hR⟩ := K
  subst hnl
  intro H locs ls hP hS hl
  refine va_put hx hb hts hin ty0 hty hnm hown hK hP (hD h) hS o ((wd_get ho).trans (by rw [hc])) hcl k hk (hts _ hm) (fun _ h9 => h9) hfin hd hn hfit hlen hdg (fun H1 locs1 hP1 hD1 hS1 => ?_)
  rw [← hc2, wd_set ho hoth] at hP1
  exact kk H1 locs1 ls hP1 hS1 hl
theorem V_iaload {x : Cx} {cc : ByteArray} {own : String} {nL : Nat} {ret : Option FieldType} {d pc : Nat} {lv : List (Nat × Value)} {st : List Value} {h : Hp} {o : Nat} {i : Int32} (K : Ok x cc own nL ret d) (ho : shK o = 12) (hi : ib i (shN o) = true) (hdg : decode cc pc = .ok (.iaload, 1)) (kk : VV x (pc + 1) lv (.int (h.1 o (ix i)) :: st) h) : VV x pc lv (.int i :: .ref (ad x o) :: st) h := by
  obtain ⟨⟨p, l, e, R, s, m, args, below, meth, c⟩, A, G, nL0, r, h'⟩ := x
  obtain ⟨hx, hb, hr, hlocks, hml, hnl, hown, hts, hK, hD, hA, hE, hR⟩ := K
  subst hnl
  intro H locs ls hP hS hl
  exact va_iald hx hb hK hP o 1 ((wd_get (sh_lt ho (by decide))).trans (by rw [cl_12 ho])) rfl (ib_in hi) hdg (kk H locs ls hP hS hl)
theorem V_baload {x : Cx} {cc : ByteArray} {own : String} {nL : Nat} {ret : Option FieldType} {d pc : Nat} {lv : List (Nat × Value)} {st : List Value} {h : Hp} {o : Nat} {i : Int32} (K : Ok x cc own nL ret d) (ho : shK o = 11) (hi : ib i (shN o) = true) (hdg : decode cc pc = .ok (.baload, 1)) (kk : VV x (pc + 1) lv (.int (h.1 o (ix i)) :: st) h) : VV x pc lv (.int i :: .ref (ad x o) :: st) h := by
  obtain ⟨⟨p, l, e, R, s, m, args, below, meth, c⟩, A, G, nL0, r, h'⟩ := x
  obtain ⟨hx, hb, hr, hlocks, hml, hnl, hown, hts, hK, hD, hA, hE, hR⟩ := K
  subst hnl
  intro H locs ls hP hS hl
  exact va_bald hx hb hK hP o 0 ((wd_get (sh_lt ho (by decide))).trans (by rw [cl_11 ho])) rfl (ib_in hi) hdg (kk H locs ls hP hS hl)
theorem up_arr {G : Gx} {h : Hp} {o k : Nat} {v : Int32} (ho : shK o = 12) : cl_ G (up h o k v) o = .inl (G.2.1 1, shN o, .inl (upd (h.1 o) k v)) := by rw [cl_12 ho, up_row]
theorem up_arrB {G : Gx} {h : Hp} {o k : Nat} {v : Int32} (ho : shK o = 11) : cl_ G (up h o k v) o = .inl (G.2.1 0, shN o, .inl (upd (h.1 o) k v)) := by rw [cl_11 ho, up_row]
theorem V_iastore {x : Cx} {cc : ByteArray} {own : String} {nL : Nat} {ret : Option FieldType} {d pc : Nat} {lv : List (Nat × Value)} {st : List Value} {h : Hp} {o : Nat} {i v : Int32} (K : Ok x cc own nL ret d) (ho : shK o = 12) (hi : ib i (shN o) = true) (hdg : decode cc pc = .ok (.iastore, 1)) (kk : VV x (pc + 1) lv st (up h o (ix i) v)) : VV x pc lv (.int v :: .int i :: .ref (ad x o) :: st) h := by
  obtain ⟨⟨p, l, e, R, s, m, args, below, meth, c⟩, A, G, nL0, r, h'⟩ := x
  obtain ⟨hx, hb, hr, hlocks, hml, hnl, hown, hts, hK, hD, hA, hE, hR⟩ := K
  subst hnl
  intro H locs ls hP hS hl
  refine va_iast hx hb hK hP (hD h) hS o 1 ((wd_get (sh_lt ho (by decide))).trans (by rw [cl_12 ho])) rfl (ib_in hi) hdg (fun H1 locs1 hP1 hD1 hS1 => ?_)
  rw [← up_arr (G := G) ho, wd_set (sh_lt ho (by decide)) up_cl] at hP1
  exact kk H1 locs1 ls hP1 hS1 hl
theorem V_bastore {x : Cx} {cc : ByteArray} {own : String} {nL : Nat} {ret : Option FieldType} {d pc : Nat} {lv : List (Nat × Value)} {st : List Value} {h : Hp} {o : Nat} {i v : Int32} (K : Ok x cc own nL ret d) (ho : shK o = 11) (hi : ib i (shN o) = true) (hdg : decode cc pc = .ok (.bastore, 1)) (kk : VV x (pc + 1) lv st (up h o (ix i) (v.toInt8.toInt32))) : VV x pc lv (.int v :: .int i :: .ref (ad x o) :: st) h := by
  obtain ⟨⟨p, l, e, R, s, m, args, below, meth, c⟩, A, G, nL0, r, h'⟩ := x
  obtain ⟨hx, hb, hr, hlocks, hml, hnl, hown, hts, hK, hD, hA, hE, hR⟩ := K
  subst hnl
  intro H locs ls hP hS hl
  refine va_bast hx hb hK hP (hD h) hS o 0 ((wd_get (sh_lt ho (by decide))).trans (by rw [cl_11 ho])) rfl (ib_in hi) hdg (fun H1 locs1 hP1 hD1 hS1 => ?_)
  rw [vp_nar_byte] at hP1
  rw [← up_arrB (G := G) ho, wd_set (sh_lt ho (by decide)) up_cl] at hP1
  exact kk H1 locs1 ls hP1 hS1 hl
theorem V_alen {x : Cx} {cc : ByteArray} {own : String} {nL : Nat} {ret : Option FieldType} {d pc : Nat} {lv : List (Nat × Value)} {st : List Value} {h : Hp} {o : Nat} (K : Ok x cc own nL ret d) (ho : shK o = 12 ∨ shK o = 11) (hdg : decode cc pc = .ok (.arraylength, 1)) (kk : VV x (pc + 1) lv (.int (Int32.ofNat (shN o)) :: st) h) : VV x pc lv (.ref (ad x o) :: st) h := by
  obtain ⟨⟨p, l, e, R, s, m, args, below, meth, c⟩, A, G, nL0, r, h'⟩ := x
  obtain ⟨hx, hb, hr, hlocks, hml, hnl, hown, hts, hK, hD, hA, hE, hR⟩ := K
  subst hnl
  intro H locs ls hP hS hl
  rcases ho with ho | ho
  · exact va_alen hx hb hK hP o 1 ((wd_get (sh_lt ho (by decide))).trans (by rw [cl_12 ho])) rfl rfl hdg (kk H locs ls hP hS hl)
  · exact va_alen hx hb hK hP o 0 ((wd_get (sh_lt ho (by decide))).trans (by rw [cl_11 ho])) rfl rfl hdg (kk H locs ls hP hS hl)
theorem V_aaload13 {x : Cx} {cc : ByteArray} {own : String} {nL : Nat} {ret : Option FieldType} {d pc : Nat} {lv : List (Nat × Value)} {st : List Value} {h : Hp} {o q : Nat} {i : Int32} (K : Ok x cc own nL ret d) (ho : shK o = 13) (hi : ib i (shN o) = true) (hq : rf o (ix i) = some q) (hdg : decode cc pc = .ok (.aaload, 1)) (kk : VV x (pc + 1) lv (.ref (ad x q) :: st) h) : VV x pc lv (.int i :: .ref (ad x o) :: st) h := by
  obtain ⟨⟨p, l, e, R, s, m, args, below, meth, c⟩, A, G, nL0, r, h'⟩ := x
  obtain ⟨hx, hb, hr, hlocks, hml, hnl, hown, hts, hK, hD, hA, hE, hR⟩ := K
  subst hnl
  intro H locs ls hP hS hl
  have hin := ib_in hi
  have hlt : i.toNatClampNeg < shN o := Nat.not_le.mp fun q => hin (Or.inr q)
  have ha : (wd G h)[o]? = some (G.2.2.1 o, .inl (G.2.1 2, shN o, .inr (.inr (.inr (.inr (fun j => (rf o j).map G.2.2.1)))))) := (wd_get (sh_lt ho (by decide))).trans (by rw [cl_13 ho])
  have hv : va_rf ((rf o i.toNatClampNeg).map G.2.2.1) = Value.ref (G.2.2.1 q) := by rw [hq]; rfl
  refine W.aald (v := va_rf ((rf o i.toNatClampNeg).map G.2.2.1)) (ty := .object "FlossRumours$Deeds") hx hb (hP o _ ha) ((hK.2 2 _ rfl).1 (shN o) (fun j => va_rf ((rf o j).map G.2.2.1))) rfl (fun q => by cases q) (by show ¬ (i < 0 ∨ (arrV _ _ _).slots.size ≤ _); rw [arrV_size]; exact hin) (by show (arrV _ _ _).slots[_]? = _; rw [arrV_read _ _ hlt]) rfl rfl hdg ?_
  rw [hv]
  exact kk H locs ls hP hS hl
theorem V_aaload14 {x : Cx} {cc : ByteArray} {own : String} {nL : Nat} {ret : Option FieldType} {d pc : Nat} {lv : List (Nat × Value)} {st : List Value} {h : Hp} {o q : Nat} {i : Int32} (K : Ok x cc own nL ret d) (ho : shK o = 14) (hi : ib i (shN o) = true) (hq : rf o (ix i) = some q) (hdg : decode cc pc = .ok (.aaload, 1)) (kk : VV x (pc + 1) lv (.ref (ad x q) :: st) h) : VV x pc lv (.int i :: .ref (ad x o) :: st) h := by
  obtain ⟨⟨p, l, e, R, s, m, args, below, meth, c⟩, A, G, nL0, r, h'⟩ := x
  obtain ⟨hx, hb, hr, hlocks, hml, hnl, hown, hts, hK, hD, hA, hE, hR⟩ := K
  subst hnl
  intro H locs ls hP hS hl
  have hin := ib_in hi
  have hlt : i.toNatClampNeg < shN o := Nat.not_le.mp fun q => hin (Or.inr q)
  have ha : (wd G h)[o]? = some (G.2.2.1 o, .inl (G.2.1 3, shN o, .inr (.inr (.inr (.inr (fun j => (rf o j).map G.2.2.1)))))) := (wd_get (sh_lt ho (by decide))).trans (by rw [cl_14 ho])
  have hv : va_rf ((rf o i.toNatClampNeg).map G.2.2.1) = Value.ref (G.2.2.1 q) := by rw [hq]; rfl
  refine W.aald (v := va_rf ((rf o i.toNatClampNeg).map G.2.2.1)) (ty := .array .byte) hx hb (hP o _ ha) ((hK.2 3 _ rfl).1 (shN o) (fun j => va_rf ((rf o j).map G.2.2.1))) rfl (fun q => by cases q) (by show ¬ (i < 0 ∨ (arrV _ _ _).slots.size ≤ _); rw [arrV_size]; exact hin) (by show (arrV _ _ _).slots[_]? = _; rw [arrV_read _ _ hlt]) rfl rfl hdg ?_
  rw [hv]
  exact kk H locs ls hP hS hl
theorem V_aaload15 {x : Cx} {cc : ByteArray} {own : String} {nL : Nat} {ret : Option FieldType} {d pc : Nat} {lv : List (Nat × Value)} {st : List Value} {h : Hp} {o q : Nat} {i : Int32} (K : Ok x cc own nL ret d) (ho : shK o = 15) (hi : ib i (shN o) = true) (hq : rf o (ix i) = some q) (hdg : decode cc pc = .ok (.aaload, 1)) (kk : VV x (pc + 1) lv (.ref (ad x q) :: st) h) : VV x pc lv (.int i :: .ref (ad x o) :: st) h := by
  obtain ⟨⟨p, l, e, R, s, m, args, below, meth, c⟩, A, G, nL0, r, h'⟩ := x
  obtain ⟨hx, hb, hr, hlocks, hml, hnl, hown, hts, hK, hD, hA, hE, hR⟩ := K
  subst hnl
  intro H locs ls hP hS hl
  have hin := ib_in hi
  have hlt : i.toNatClampNeg < shN o := Nat.not_le.mp fun q => hin (Or.inr q)
  have ha : (wd G h)[o]? = some (G.2.2.1 o, .inl (G.2.1 4, shN o, .inr (.inr (.inr (.inr (fun j => (rf o j).map G.2.2.1)))))) := (wd_get (sh_lt ho (by decide))).trans (by rw [cl_15 ho])
  have hv : va_rf ((rf o i.toNatClampNeg).map G.2.2.1) = Value.ref (G.2.2.1 q) := by rw [hq]; rfl
  refine W.aald (v := va_rf ((rf o i.toNatClampNeg).map G.2.2.1)) (ty := .array .int) hx hb (hP o _ ha) ((hK.2 4 _ rfl).1 (shN o) (fun j => va_rf ((rf o j).map G.2.2.1))) rfl (fun q => by cases q) (by show ¬ (i < 0 ∨ (arrV _ _ _).slots.size ≤ _); rw [arrV_size]; exact hin) (by show (arrV _ _ _).slots[_]? = _; rw [arrV_read _ _ hlt]) rfl rfl hdg ?_
  rw [hv]
  exact kk H locs ls hP hS hl
theorem V_alenq {x : Cx} {cc : ByteArray} {own : String} {nL : Nat} {ret : Option FieldType} {d pc : Nat} {lv : List (Nat × Value)} {st : List Value} {h : Hp} {o : Nat} (K : Ok x cc own nL ret d) (ho : shK o = 13) (hdg : decode cc pc = .ok (.arraylength, 1)) (kk : VV x (pc + 1) lv (.int (Int32.ofNat (shN o)) :: st) h) : VV x pc lv (.ref (ad x o) :: st) h := by
  obtain ⟨⟨p, l, e, R, s, m, args, below, meth, c⟩, A, G, nL0, r, h'⟩ := x
  obtain ⟨hx, hb, hr, hlocks, hml, hnl, hown, hts, hK, hD, hA, hE, hR⟩ := K
  subst hnl
  intro H locs ls hP hS hl
  exact va_alen hx hb hK hP o 2 ((wd_get (sh_lt ho (by decide))).trans (by rw [cl_13 ho])) rfl rfl hdg (kk H locs ls hP hS hl)
theorem V_iret {x : Cx} {cc : ByteArray} {own : String} {nL : Nat} {ret : FieldType} {d pc : Nat} {lv : List (Nat × Value)} {h : Hp} {v : Int32} (K : Ok x cc own nL (some ret) d) (hdg : decode cc pc = .ok (.ireturn, 1)) (hn : narrow ret (.int v) = .int v) (ht : x.2.2.2.2 = (some (.int v), h)) : VV x pc lv [.int v] h := by
  obtain ⟨⟨p, l, e, R, s, m, args, below, meth, c⟩, A, G, nL0, r, h'⟩ := x
  obtain ⟨hx, hb, hr, hlocks, hml, hnl, hown, hts, hK, hD, hA, hE, hR⟩ := K
  subst hnl
  intro H locs ls hP hS hl
  cases ht
  exact W.zret hx hb hr hn (fun t ht hW => ⟨rfl, by rw [ht]; exact hP, hS.F ht⟩) hS.2.2 hdg hlocks
theorem V_lret {x : Cx} {cc : ByteArray} {own : String} {nL : Nat} {d pc : Nat} {lv : List (Nat × Value)} {h : Hp} {v : Int64} (K : Ok x cc own nL (some .long) d) (hdg : decode cc pc = .ok (.lreturn, 1)) (ht : x.2.2.2.2 = (some (.long v), h)) : VV x pc lv [.long v] h := by
  obtain ⟨⟨p, l, e, R, s, m, args, below, meth, c⟩, A, G, nL0, r, h'⟩ := x
  obtain ⟨hx, hb, hr, hlocks, hml, hnl, hown, hts, hK, hD, hA, hE, hR⟩ := K
  subst hnl
  intro H locs ls hP hS hl
  cases ht
  exact W.lret hx hb hr (fun t ht hW => ⟨rfl, by rw [ht]; exact hP, hS.F ht⟩) hS.2.2 hdg hlocks
theorem V_aret {x : Cx} {cc : ByteArray} {own : String} {nL : Nat} {n : String} {d pc : Nat} {lv : List (Nat × Value)} {h : Hp} {v : Nat} (K : Ok x cc own nL (some (.object n)) d) (hdg : decode cc pc = .ok (.areturn, 1)) (ht : x.2.2.2.2 = (some (.ref (ad x v)), h)) : VV x pc lv [.ref (ad x v)] h := by
  obtain ⟨⟨p, l, e, R, s, m, args, below, meth, c⟩, A, G, nL0, r, h'⟩ := x
  obtain ⟨hx, hb, hr, hlocks, hml, hnl, hown, hts, hK, hD, hA, hE, hR⟩ := K
  subst hnl
  intro H locs ls hP hS hl
  obtain ⟨rfl, rfl⟩ : r = some (.ref (G.2.2.1 v)) ∧ h' = h := ⟨congrArg Prod.fst ht, congrArg Prod.snd ht⟩
  exact W.aret hx hb hr (Or.inl ⟨_, rfl⟩) (Or.inr ⟨_, rfl⟩) (fun t ht hW => ⟨rfl, by rw [ht]; exact hP, hS.F ht⟩) hS.2.2 hdg hlocks
theorem V_vret {x : Cx} {cc : ByteArray} {own : String} {nL : Nat} {d pc : Nat} {lv : List (Nat × Value)} {h : Hp} (K : Ok x cc own nL none d) (hdg : decode cc pc = .ok (.return_, 1)) (ht : x.2.2.2.2 = (none, h)) : VV x pc lv [] h := by
  obtain ⟨⟨p, l, e, R, s, m, args, below, meth, c⟩, A, G, nL0, r, h'⟩ := x
  obtain ⟨hx, hb, hr, hlocks, hml, hnl, hown, hts, hK, hD, hA, hE, hR⟩ := K
  subst hnl
  intro H locs ls hP hS hl
  cases ht
  exact W.vret hx hb hr (fun t ht hW => ⟨rfl, by rw [ht]; exact hP, hS.F ht⟩) hS.2.2 hdg hlocks
abbrev rmD (d : Nat) : Room := { frames := d, cells := 0, slots := 0, locals := 40 * d }
def PP (G : Gx) (sz : Nat) (h : Hp) (U : State) : Prop := U.heap.size = sz ∧ va_P G.1 vwCl (wd G h) U.heap ∧ va_K G.1 vwCl (tyL G) U ∧ va_D (fun _ => True) (wd G h) ∧ EX G (va_A (wd G h) sz) U U.heap
/-- a method's run: from every state with the heap h it answers r, with the heap h' behind it -/
def Runs (d : Nat) (y : MethodName) (cc : ByteArray) (nL : Nat) (ret : Option FieldType) (As : (Nat → Nat) → List Value) (h : Hp) (r : (Nat → Nat) → Option Value) (h' : Hp) : Prop := ∀ (l : Launch) (G : Gx) (sz : Nat), Met l y (.code y cc nL ret :: TB) (rmD d) (va_Pc (As G.2.2.1) (PP G sz h)) (QQ G (va_A (wd G h) sz) (r G.2.2.1) h') 0 0 (va_A (wd G h) sz)
theorem Runs.of {d : Nat} {y : MethodName} {cc : ByteArray} {nL : Nat} {ret : Option FieldType} {As : (Nat → Nat) → List Value} {h : Hp} {r : (Nat → Nat) → Option Value} {h' : Hp} (hy : plainName y.cls = true) (hlen : ∀ f : Nat → Nat, (lg_sl (As f)).length ≤ nL)
    (body : ∀ x : Cx, Ok x cc y.cls nL ret d → x.2.2.2.2 = (r (ad x), h') → VV x 0 (lv_args 0 (As (ad x))) [] h) : Runs d y cc nL ret As h r h' := by
  intro l G sz
  refine Met.ofW (cc := cc) (maxL := nL) (ret := ret) hy rfl ?_
  intro p e s m args below meth c s₁ B hml hv
  obtain ⟨rfl, hsz, hP, hK, hD0, hE⟩ := hv
  subst hsz
  have hts := atoms_spec (ws := .code y cc nL ret :: TB) B.pre
  have hown : s.vm.findClass y.cls = some m.cls := findClass_of_methodNamed B.named
  have hk := body ((p, l, e, rmD d, s, m, (As G.2.2.1).toArray, below, meth, c), va_A (wd G h) s.heap.size, G, nL, r G.2.2.1, h')
    ⟨B.exec, B.bytes, B.returns, B.notSynchronized, hml, rfl, hown, fun w hw => hts w (List.mem_cons_of_mem _ hw), hK, fun _ => wd_D (hD0.self (sz := s.heap.size)), fun q hq => Or.inr hq, hE, Nat.le_refl _, Nat.le_refl _⟩ rfl
  have hl := lv_entry (As G.2.2.1) (n := nL) (hlen _)
  rw [lg_entry_eq]
  exact hk s.heap [] _ hP va_S.rf hl

theorem V_callS {x : Cx} {cc : ByteArray} {own : String} {nL : Nat} {ret : Option FieldType} {d pc : Nat} {lv : List (Nat × Value)} {st : List Value} {h : Hp} {y : MethodName} {bytes : ByteArray} {maxL idx n : Nat} {rt : Option FieldType} {As : (Nat → Nat) → List Value} {rr : (Nat → Nat) → Option Value} {h2 : Hp} (K : Ok x cc own nL ret (d + 1)) (Rn : Runs d y bytes maxL rt As h rr h2) (hm1 : Cond.methodLink own idx y ∈ TB) (hm2 : Cond.static y ∈ TB) (hm3 : Cond.initialized y.cls ∈ TB) (hd : y.cls ≠ "java/lang/invoke/MethodHandle" ∧ y.cls ≠ "java/lang/invoke/VarHandle" ∧ (parseMethodDescriptor y.desc).map (fun d => d.parameters.length) = some n) (hm5 : Cond.code y bytes maxL rt ∈ TB) (hx5 : maxL ≤ 20) (hdg : decode cc pc = .ok (.invokestatic idx, 3)) (hn : (As (ad x)).length = n) (hW : (st.map fun v => v.category).sum ≤ 8) (kk : VV x (pc + 3) lv ((rr (ad x)).toList ++ st) h2) : VV x pc lv ((As (ad x)).reverse ++ st) h := by
  obtain ⟨⟨p, l, e, R, s, m, args, below, meth, c⟩, A, G, nL0, r, h'⟩ := x
  obtain ⟨hx, hb, hr, hlocks, hml, hnl, hown, hts, hK, hD, hA, hE, hR⟩ := K
  subst hnl
  intro H locs ls hP hS hl
  have hF : ∀ q, va_A (wd G h) H.size q → A q := by
    intro q hq
    rcases hq with ⟨k, e, hk⟩ | hq
    · exact (hD h).2 k _ hk
    · exact hA q (Nat.le_trans hS.1 hq)
  have hbl : FrameBlind (va_Pc (As G.2.2.1) (PP G H.size h)) := fun a U g mk q => by
    obtain ⟨q0, q1, qP, qK, qD, qE⟩ := q
    exact ⟨q0, q1, qP, va_K.moved (u := U) (U := U.calling g mk a) (Vm.Alike.refl U.vm) qK, qD, qE.moved (u := U.calling g mk a) (Vm.Alike.refl U.vm)⟩
  have hpre : ∀ U : State, U.heap = H → s.WarmedH U.vm → va_Pc (As G.2.2.1) (PP G H.size h) (As G.2.2.1).toArray U := fun U hU hW => ⟨rfl, by rw [hU], by rw [hU]; exact hP, va_K.moved hW.alike hK, (hD h).weaken (fun _ _ _ _ => trivial), by rw [hU]; exact ((hE.kept hS.2.1).narrow hF).moved hW.alike⟩
  have hcode : (Cond.code y bytes maxL rt) ∈ (.code y bytes maxL rt :: TB : List Cond) := List.mem_cons_self
  have hGI : GoodIn TB (.code y bytes maxL rt :: TB) := fun w hw => by
    rcases List.mem_cons.mp hw with e | hw
    · rw [e]; exact TB_self _ hm5
    · exact TB_self _ hw
  have hroom : (rmD d).frames + 1 ≤ R.frames ∧ 8 + (maxL + 11) + (rmD d).locals ≤ R.locals := by
    show d + 1 ≤ R.frames ∧ 8 + (maxL + 11) + 40 * d ≤ R.locals
    omega
  have hT9 : GoodIn TB (va_wsS own idx y (.code y bytes maxL rt :: TB)) := fun w hw => by
    rcases List.mem_append.mp hw with h9 | h9
    · rcases List.mem_cons.mp h9 with e | h9
      · rw [e]; exact TB_self _ hm1
      · rcases List.mem_cons.mp h9 with e | h9
        · rw [e]; exact TB_self _ hm2
        · rcases List.mem_cons.mp h9 with e | h9
          · rw [e]; exact TB_self _ hm3
          · cases h9
    · exact hGI _ h9
  have RR := va_runS (locs := locs) (cells := 0) (slots := 0) (below := below) (e := e) (meth := meth) (H := H) (rest := st) (g := F0 m pc ls ((As G.2.2.1).reverse ++ st)) ⟨hx, hb, hml, hown, hts⟩ (Rn l G H.size) (va_cwS n hts hT9 rfl rfl rfl hd hroom) ⟨hbl, hpre⟩ rfl hn hl.1 rfl (by show 2 * 0 + _ ≤ 8; omega) hdg ⟨Nat.zero_le _, Nat.zero_le _⟩
  intro T hT X
  obtain ⟨v, st₀, t, T', L, h0, X', hL, e1, e2, ⟨hv, hP1, hFr⟩, stp⟩ := RR T hT X
  cases hv
  have hz : H.size ≤ t.heap.size := by have := hFr.1; rw [h0] at this; exact this
  obtain ⟨t2, a1, b1⟩ := kk T'.heap (locs ++ L) ls (by rw [e1]; exact hP1) ⟨Nat.le_trans hS.1 (by rw [e1]; exact hz), fun q h1 h2 => by
      rw [e1, hFr.2 q (by rw [h0]; exact Nat.lt_of_lt_of_le h1 hS.1) (fun z => h2 (hF q z)), h0]; exact hS.2.1 q h1 h2, fun q hq => by
      rcases List.mem_append.mp hq with h | h
      · exact hS.2.2 q h
      · exact hF _ (hL q h)⟩ hl T' rfl X'
  exact ⟨t2, stp t2 a1, b1⟩
theorem V_callV {x : Cx} {cc : ByteArray} {own : String} {nL : Nat} {ret : Option FieldType} {d pc : Nat} {lv : List (Nat × Value)} {st : List Value} {h : Hp} {y : MethodName} {bytes : ByteArray} {maxL idx n : Nat} {rt : Option FieldType} {As : (Nat → Nat) → List Value} {rr : (Nat → Nat) → Option Value} {h2 : Hp} {o ci : Nat} {fs : List Value} {T : u_T} {N : Nat} (K : Ok x cc own nL ret (d + 1)) (Rn : Runs d y bytes maxL rt (fun f => .ref (f o) :: As f) h rr h2) (ho : o < 65) (hc : cl_ x.2.2.1 h o = .inr (ci, fs)) (hcl : vwCl[ci]? = some (y.cls, T, N)) (hm1 : Cond.methodLink own idx y ∈ TB) (hm2 : Cond.instanceMethod y ∈ TB) (hm3 : Cond.selects y.cls y y ∈ TB) (hm4 : Cond.initialized y.cls ∈ TB) (hd : y.cls ≠ "java/lang/invoke/MethodHandle" ∧ y.cls ≠ "java/lang/invoke/VarHandle" ∧ (parseMethodDescriptor y.desc).map (fun d => d.parameters.length) = some n) (hm5 : Cond.code y bytes maxL rt ∈ TB) (hx5 : maxL ≤ 20) (hdg : decode cc pc = .ok (.invokevirtual idx, 3)) (hn : (As (ad x)).length = n) (hW : (st.map fun v => v.category).sum ≤ 8) (kk : VV x (pc + 3) lv ((rr (ad x)).toList ++ st) h2) : VV x pc lv ((As (ad x)).reverse ++ .ref (ad x o) :: st) h := by
  obtain ⟨⟨p, l, e, R, s, m, args, below, meth, c⟩, A, G, nL0, r, h'⟩ := x
  obtain ⟨hx, hb, hr, hlocks, hml, hnl, hown, hts, hK, hD, hA, hE, hR⟩ := K
  subst hnl
  intro H locs ls hP hS hl
  have hF : ∀ q, va_A (wd G h) H.size q → A q := by
    intro q hq
    rcases hq with ⟨k, e, hk⟩ | hq
    · exact (hD h).2 k _ hk
    · exact hA q (Nat.le_trans hS.1 hq)
  have hbl : FrameBlind (va_Pc (.ref (G.2.2.1 o) :: As G.2.2.1) (PP G H.size h)) := fun a U g mk q => by
    obtain ⟨q0, q1, qP, qK, qD, qE⟩ := q
    exact ⟨q0, q1, qP, va_K.moved (u := U) (U := U.calling g mk a) (Vm.Alike.refl U.vm) qK, qD, qE.moved (u := U.calling g mk a) (Vm.Alike.refl U.vm)⟩
  have hpre : ∀ U : State, U.heap = H → s.WarmedH U.vm → va_Pc (.ref (G.2.2.1 o) :: As G.2.2.1) (PP G H.size h) (.ref (G.2.2.1 o) :: As G.2.2.1).toArray U := fun U hU hW => ⟨rfl, by rw [hU], by rw [hU]; exact hP, va_K.moved hW.alike hK, (hD h).weaken (fun _ _ _ _ => trivial), by rw [hU]; exact ((hE.kept hS.2.1).narrow hF).moved hW.alike⟩
  have hcode : (Cond.code y bytes maxL rt) ∈ (.code y bytes maxL rt :: TB : List Cond) := List.mem_cons_self
  have hGI : GoodIn TB (.code y bytes maxL rt :: TB) := fun w hw => by
    rcases List.mem_cons.mp hw with e | hw
    · rw [e]; exact TB_self _ hm5
    · exact TB_self _ hw
  have hroom : (rmD d).frames + 1 ≤ R.frames ∧ 8 + (maxL + 11) + (rmD d).locals ≤ R.locals := by
    show d + 1 ≤ R.frames ∧ 8 + (maxL + 11) + 40 * d ≤ R.locals
    omega
  have hT9 : GoodIn TB (wsV own idx y.cls y (.code y bytes maxL rt :: TB)) := fun w hw => by
    rcases List.mem_append.mp hw with h9 | h9
    · rcases List.mem_cons.mp h9 with e | h9
      · rw [e]; exact TB_self _ hm1
      · rcases List.mem_cons.mp h9 with e | h9
        · rw [e]; exact TB_self _ hm2
        · rcases List.mem_cons.mp h9 with e | h9
          · rw [e]; exact TB_self _ hm3
          · rcases List.mem_cons.mp h9 with e | h9
            · rw [e]; exact TB_self _ hm4
            · cases h9
    · exact hGI _ h9
  have RR := va_runV (locs := locs) (cells := 0) (slots := 0) (below := below) (e := e) (meth := meth) (H := H) (rest := st) (As := As G.2.2.1) (b := G.2.2.1 o) (g := F0 m pc ls ((As G.2.2.1).reverse ++ .ref (G.2.2.1 o) :: st)) ⟨hx, hb, hml, hown, hts⟩ (Rn l G H.size) (cwV n hts hT9 rfl rfl rfl ⟨rfl, hd⟩ hroom) ⟨hbl, va_recv hK hP hcl ((wd_get ho).trans (by rw [hc])), hpre⟩ rfl hn hl.1 rfl (by show 2 * 0 + _ ≤ 8; omega) hdg ⟨Nat.zero_le _, Nat.zero_le _⟩
  intro T hT X
  obtain ⟨v, st₀, t, T', L, h0, X', hL, e1, e2, ⟨hv, hP1, hFr⟩, stp⟩ := RR T hT X
  cases hv
  have hz : H.size ≤ t.heap.size := by have := hFr.1; rw [h0] at this; exact this
  obtain ⟨t2, a1, b1⟩ := kk T'.heap (locs ++ L) ls (by rw [e1]; exact hP1) ⟨Nat.le_trans hS.1 (by rw [e1]; exact hz), fun q h1 h2 => by
      rw [e1, hFr.2 q (by rw [h0]; exact Nat.lt_of_lt_of_le h1 hS.1) (fun z => h2 (hF q z)), h0]; exact hS.2.1 q h1 h2, fun q hq => by
      rcases List.mem_append.mp hq with h | h
      · exact hS.2.2 q h
      · exact hF _ (hL q h)⟩ hl T' rfl X'
  exact ⟨t2, stp t2 a1, b1⟩
end
section
theorem V_min {x : Cx} {cc : ByteArray} {own : String} {nL : Nat} {ret : Option FieldType} {d pc : Nat} {lv : List (Nat × Value)} {st : List Value} {h : Hp} {idx : Nat} {a b : Int32} (K : Ok x cc own nL ret (d + 1)) (hm1 : Cond.methodLink own idx Lib.Math.min.name ∈ TB) (hm2 : Cond.static Lib.Math.min.name ∈ TB) (hm3 : Cond.initialized "java/lang/Math" ∈ TB) (hm4 : Cond.code Lib.Math.min.name Lib.Math.min.code 2 (some .int) ∈ TB) (hW : (st.map fun v => v.category).sum ≤ 8) (hdg : decode cc pc = .ok (.invokestatic idx, 3)) (kk : VV x (pc + 3) lv (.int (if b < a then b else a) :: st) h) : VV x pc lv (.int b :: .int a :: st) h := by
  obtain ⟨⟨p, l, e, R, s, m, args, below, meth, c⟩, A, G, nL0, r, h'⟩ := x
  obtain ⟨hx, hb, hr, hlocks, hml, hnl, hown, hts, hK, hD, hA, hE, hR⟩ := K
  subst hnl
  intro H locs ls hP hS hl
  exact va_mmin hx hb (hml.trans hl.1.symm) hown (hts _ hm1) (hts _ hm2) (hts _ hm3) (hts _ hm4) (by omega) (by omega) (Nat.zero_le _) (Nat.zero_le _) hdg (kk H locs ls hP hS hl)
theorem V_max {x : Cx} {cc : ByteArray} {own : String} {nL : Nat} {ret : Option FieldType} {d pc : Nat} {lv : List (Nat × Value)} {st : List Value} {h : Hp} {idx : Nat} {a b : Int32} (K : Ok x cc own nL ret (d + 1)) (hm1 : Cond.methodLink own idx Lib.Math.max.name ∈ TB) (hm2 : Cond.static Lib.Math.max.name ∈ TB) (hm3 : Cond.initialized "java/lang/Math" ∈ TB) (hm4 : Cond.code Lib.Math.max.name Lib.Math.max.code 2 (some .int) ∈ TB) (hW : (st.map fun v => v.category).sum ≤ 8) (hdg : decode cc pc = .ok (.invokestatic idx, 3)) (kk : VV x (pc + 3) lv (.int (if a < b then b else a) :: st) h) : VV x pc lv (.int b :: .int a :: st) h := by
  obtain ⟨⟨p, l, e, R, s, m, args, below, meth, c⟩, A, G, nL0, r, h'⟩ := x
  obtain ⟨hx, hb, hr, hlocks, hml, hnl, hown, hts, hK, hD, hA, hE, hR⟩ := K
  subst hnl
  intro H locs ls hP hS hl
  exact va_mmax hx hb (hml.trans hl.1.symm) hown (hts _ hm1) (hts _ hm2) (hts _ hm3) (hts _ hm4) (by omega) (by omega) (Nat.zero_le _) (Nat.zero_le _) hdg (kk H locs ls hP hS hl)
theorem V_abs {x : Cx} {cc : ByteArray} {own : String} {nL : Nat} {ret : Option FieldType} {d pc : Nat} {lv : List (Nat × Value)} {st : List Value} {h : Hp} {idx : Nat} {a : Int32} (K : Ok x cc own nL ret (d + 1)) (hm1 : Cond.methodLink own idx Lib.Math.abs.name ∈ TB) (hm2 : Cond.static Lib.Math.abs.name ∈ TB) (hm3 : Cond.initialized "java/lang/Math" ∈ TB) (hm4 : Cond.code Lib.Math.abs.name Lib.Math.abs.code 1 (some .int) ∈ TB) (hW : (st.map fun v => v.category).sum ≤ 8) (hdg : decode cc pc = .ok (.invokestatic idx, 3)) (kk : VV x (pc + 3) lv (.int (if 0 ≤ a then a else 0 - a) :: st) h) : VV x pc lv (.int a :: st) h := by
  obtain ⟨⟨p, l, e, R, s, m, args, below, meth, c⟩, A, G, nL0, r, h'⟩ := x
  obtain ⟨hx, hb, hr, hlocks, hml, hnl, hown, hts, hK, hD, hA, hE, hR⟩ := K
  subst hnl
  intro H locs ls hP hS hl
  exact va_mabs hx hb (hml.trans hl.1.symm) hown (hts _ hm1) (hts _ hm2) (hts _ hm3) (hts _ hm4) (by omega) (by omega) (Nat.zero_le _) (Nat.zero_le _) hdg (kk H locs ls hP hS hl)
theorem V_copy {x : Cx} {cc : ByteArray} {own : String} {nL : Nat} {ret : Option FieldType} {d pc : Nat} {lv : List (Nat × Value)} {st : List Value} {h : Hp} {idx o0 o1 : Nat} {sp dp n : Int32} (K : Ok x cc own nL ret (d + 1)) (hm1 : Cond.methodLink own idx arraycopyName ∈ TB) (hm2 : Cond.native arraycopyName ∈ TB) (hm3 : Cond.static arraycopyName ∈ TB) (hm4 : Cond.initialized "java/lang/System" ∈ TB) (h0 : shK o0 = 12) (h1 : shK o1 = 12) (g1 : ¬ sp < 0) (g2 : ¬ dp < 0) (g3 : ¬ n < 0) (g4 : ix sp + ix n ≤ shN o0) (g5 : ix dp + ix n ≤ shN o1) (hW : (st.map fun v => v.category).sum ≤ 8) (hdg : decode cc pc = .ok (.invokestatic idx, 3)) (kk : VV x (pc + 3) lv st (upA h o1 (va_cpy (h.1 o0) (h.1 o1) (ix sp) (ix dp) (ix n)))) : VV x pc lv (.int n :: .int dp :: .ref (ad x o1) :: .int sp :: .ref (ad x o0) :: st) h := by
  obtain ⟨⟨p, l, e, R, s, m, args, below, meth, c⟩, A, G, nL0, r, h'⟩ := x
  obtain ⟨hx, hb, hr, hlocks, hml, hnl, hown, hts, hK, hD, hA, hE, hR⟩ := K
  subst hnl
  intro H locs ls hP hS hl
  have hnf : nativeFrameWords "java/lang/System" "arraycopy" 5 + 11 ≤ 32 := by decide
  refine va_copyi (ty := .int) hx hb (hml.trans hl.1.symm) hown (hts _ hm1) (hts _ hm2) (hts _ hm3) (hts _ hm4) hK hP (hD h) hS o0 o1 1 1 ((wd_get (sh_lt h0 (by decide))).trans (by rw [cl_12 h0])) ((wd_get (sh_lt h1 (by decide))).trans (by rw [cl_12 h1])) rfl rfl rfl g1 g2 g3 g4 g5 (fun _ _ => rfl) (by omega) (by omega) hdg (fun H1 locs1 hP1 hD1 hS1 => ?_)
  have e1 : cl_ G (upA h o1 (va_cpy (h.1 o0) (h.1 o1) (ix sp) (ix dp) (ix n))) o1 = .inl (G.2.1 1, shN o1, .inl (va_cpy (h.1 o0) (h.1 o1) (ix sp) (ix dp) (ix n))) := by
    rw [cl_12 h1]; simp [upA]
  rw [← e1, wd_set (sh_lt h1 (by decide)) upA_cl] at hP1
  exact kk H1 locs1 ls hP1 hS1 hl
theorem V_gets {x : Cx} {cc : ByteArray} {own : String} {nL : Nat} {ret : Option FieldType} {d pc : Nat} {lv : List (Nat × Value)} {st : List Value} {h : Hp} {idx : Nat} (K : Ok x cc own nL ret d) (hm : Cond.fieldLink own idx "FlossRumours" "LETTERS" "[I" ∈ TB) (hdg : decode cc pc = .ok (.getstatic idx, 3)) (kk : VV x (pc + 3) lv (.ref x.2.2.1.2.2.2 :: st) h) : VV x pc lv st h := by
  obtain ⟨⟨p, l, e, R, s, m, args, below, meth, c⟩, A, G, nL0, r, h'⟩ := x
  obtain ⟨hx, hb, hr, hlocks, hml, hnl, hown, hts, hK, hD, hA, hE, hR⟩ := K
  subst hnl
  intro H locs ls hP hS hl
  exact va_gets hx hb hE.2.1 hS hown (hts _ hm) (fun _ h9 => h9) hdg (kk H locs ls hP hS hl)
def lettersI (j : Nat) : Int32 := ([112, 98, 103, 119, 105, 108] : List Int32).getD j 0
theorem V_lt {x : Cx} {cc : ByteArray} {own : String} {nL : Nat} {ret : Option FieldType} {d pc : Nat} {lv : List (Nat × Value)} {st : List Value} {h : Hp} {i : Int32} (K : Ok x cc own nL ret d) (hi : ib i 6 = true) (hdg : decode cc pc = .ok (.iaload, 1)) (kk : VV x (pc + 1) lv (.int (lettersI (ix i)) :: st) h) : VV x pc lv (.int i :: .ref x.2.2.1.2.2.2 :: st) h := by
  obtain ⟨⟨p, l, e, R, s, m, args, below, meth, c⟩, A, G, nL0, r, h'⟩ := x
  obtain ⟨hx, hb, hr, hlocks, hml, hnl, hown, hts, hK, hD, hA, hE, hR⟩ := K
  subst hnl
  intro H locs ls hP hS hl
  exact va_ti hx hb hE.2.2 hS (ib_in hi) rfl hdg (kk H locs ls hP hS hl)
def isP (p : Nat) : Prop := p = 45 ∨ p = 46 ∨ p = 47 ∨ p = 48 ∨ p = 49 ∨ p = 50
def inBeard (p : Nat) : Int32 := if p = 46 ∨ p = 49 then 1 else 0
theorem V_instBeard {x : Cx} {cc : ByteArray} {own : String} {nL : Nat} {ret : Option FieldType} {d pc : Nat} {lv : List (Nat × Value)} {st : List Value} {h : Hp} {idx p : Nat} (K : Ok x cc own nL ret d) (hm : Cond.classLink own idx "FlossRumours$Beard" ∈ TB) (hc1 : Cond.castable "FlossRumours$Bishop" "FlossRumours$Beard" ∈ TB) (hc2 : Cond.castable "FlossRumours$Girl" "FlossRumours$Wasp" ∈ TB) (hp : isP p) (hdg : decode cc pc = .ok (.instanceof idx, 3)) (kk : VV x (pc + 3) lv (.int (inBeard p) :: st) h) : VV x pc lv (.ref (ad x p) :: st) h := by
  obtain ⟨⟨p, l, e, R, s, m, args, below, meth, c⟩, A, G, nL0, r, h'⟩ := x
  obtain ⟨hx, hb, hr, hlocks, hml, hnl, hown, hts, hK, hD, hA, hE, hR⟩ := K
  subst hnl
  intro H locs ls hP hS hl
  have kk2 := kk H locs ls hP hS hl
  rcases hp with rfl | rfl | rfl | rfl | rfl | rfl
  · exact va_instNo hx hb hown (hts _ hm) (hE.1 ("FlossRumours$Person", "FlossRumours$Beard") (by decide)) (va_recv hK hP (ci := 7) rfl ((wd_get (i := 45) (by decide)).trans (by rw [cl_7 (i := 45) (by decide)]))) hdg kk2
  · exact va_instS hx hb hown (hts _ hm) (hK.1 1 _ rfl).2 (va_recv hK hP (ci := 1) rfl ((wd_get (i := 46) (by decide)).trans (by rw [cl_1 (i := 46) (by decide)]))) hdg kk2
  · exact va_instNo hx hb hown (hts _ hm) (hE.1 ("FlossRumours$Bag", "FlossRumours$Beard") (by decide)) (va_recv hK hP (ci := 0) rfl ((wd_get (i := 47) (by decide)).trans (by rw [cl_0 (i := 47) (by decide)]))) hdg kk2
  · exact va_instNo hx hb hown (hts _ hm) (hE.1 ("FlossRumours$Wasp", "FlossRumours$Beard") (by decide)) (va_recv hK hP (ci := 8) rfl ((wd_get (i := 48) (by decide)).trans (by rw [cl_8 (i := 48) (by decide)]))) hdg kk2
  · exact va_instY hx hb hown (hts _ hm) (va_tabs rfl rfl (hts _ hc1)) (va_recv hK hP (ci := 2) rfl ((wd_get (i := 49) (by decide)).trans (by rw [cl_2 (i := 49) (by decide)]))) hdg kk2
  · exact va_instNo hx hb hown (hts _ hm) (hE.1 ("FlossRumours$Girl", "FlossRumours$Beard") (by decide)) (va_recv hK hP (ci := 5) rfl ((wd_get (i := 50) (by decide)).trans (by rw [cl_5 (i := 50) (by decide)]))) hdg kk2

def inBag (p : Nat) : Int32 := if p = 47 then 1 else 0
theorem V_instBag {x : Cx} {cc : ByteArray} {own : String} {nL : Nat} {ret : Option FieldType} {d pc : Nat} {lv : List (Nat × Value)} {st : List Value} {h : Hp} {idx p : Nat} (K : Ok x cc own nL ret d) (hm : Cond.classLink own idx "FlossRumours$Bag" ∈ TB) (hc1 : Cond.castable "FlossRumours$Bishop" "FlossRumours$Beard" ∈ TB) (hc2 : Cond.castable "FlossRumours$Girl" "FlossRumours$Wasp" ∈ TB) (hp : isP p) (hdg : decode cc pc = .ok (.instanceof idx, 3)) (kk : VV x (pc + 3) lv (.int (inBag p) :: st) h) : VV x pc lv (.ref (ad x p) :: st) h := by
  obtain ⟨⟨p, l, e, R, s, m, args, below, meth, c⟩, A, G, nL0, r, h'⟩ := x
  obtain ⟨hx, hb, hr, hlocks, hml, hnl, hown, hts, hK, hD, hA, hE, hR⟩ := K
  subst hnl
  intro H locs ls hP hS hl
  have kk2 := kk H locs ls hP hS hl
  rcases hp with rfl | rfl | rfl | rfl | rfl | rfl
  · exact va_instNo hx hb hown (hts _ hm) (hE.1 ("FlossRumours$Person", "FlossRumours$Bag") (by decide)) (va_recv hK hP (ci := 7) rfl ((wd_get (i := 45) (by decide)).trans (by rw [cl_7 (i := 45) (by decide)]))) hdg kk2
  · exact va_instNo hx hb hown (hts _ hm) (hE.1 ("FlossRumours$Beard", "FlossRumours$Bag") (by decide)) (va_recv hK hP (ci := 1) rfl ((wd_get (i := 46) (by decide)).trans (by rw [cl_1 (i := 46) (by decide)]))) hdg kk2
  · exact va_instS hx hb hown (hts _ hm) (hK.1 0 _ rfl).2 (va_recv hK hP (ci := 0) rfl ((wd_get (i := 47) (by decide)).trans (by rw [cl_0 (i := 47) (by decide)]))) hdg kk2
  · exact va_instNo hx hb hown (hts _ hm) (hE.1 ("FlossRumours$Wasp", "FlossRumours$Bag") (by decide)) (va_recv hK hP (ci := 8) rfl ((wd_get (i := 48) (by decide)).trans (by rw [cl_8 (i := 48) (by decide)]))) hdg kk2
  · exact va_instNo hx hb hown (hts _ hm) (hE.1 ("FlossRumours$Bishop", "FlossRumours$Bag") (by decide)) (va_recv hK hP (ci := 2) rfl ((wd_get (i := 49) (by decide)).trans (by rw [cl_2 (i := 49) (by decide)]))) hdg kk2
  · exact va_instNo hx hb hown (hts _ hm) (hE.1 ("FlossRumours$Girl", "FlossRumours$Bag") (by decide)) (va_recv hK hP (ci := 5) rfl ((wd_get (i := 50) (by decide)).trans (by rw [cl_5 (i := 50) (by decide)]))) hdg kk2

def inWasp (p : Nat) : Int32 := if p = 48 ∨ p = 50 then 1 else 0
theorem V_instWasp {x : Cx} {cc : ByteArray} {own : String} {nL : Nat} {ret : Option FieldType} {d pc : Nat} {lv : List (Nat × Value)} {st : List Value} {h : Hp} {idx p : Nat} (K : Ok x cc own nL ret d) (hm : Cond.classLink own idx "FlossRumours$Wasp" ∈ TB) (hc1 : Cond.castable "FlossRumours$Bishop" "FlossRumours$Beard" ∈ TB) (hc2 : Cond.castable "FlossRumours$Girl" "FlossRumours$Wasp" ∈ TB) (hp : isP p) (hdg : decode cc pc = .ok (.instanceof idx, 3)) (kk : VV x (pc + 3) lv (.int (inWasp p) :: st) h) : VV x pc lv (.ref (ad x p) :: st) h := by
  obtain ⟨⟨p, l, e, R, s, m, args, below, meth, c⟩, A, G, nL0, r, h'⟩ := x
  obtain ⟨hx, hb, hr, hlocks, hml, hnl, hown, hts, hK, hD, hA, hE, hR⟩ := K
  subst hnl
  intro H locs ls hP hS hl
  have kk2 := kk H locs ls hP hS hl
  rcases hp with rfl | rfl | rfl | rfl | rfl | rfl
  · exact va_instNo hx hb hown (hts _ hm) (hE.1 ("FlossRumours$Person", "FlossRumours$Wasp") (by decide)) (va_recv hK hP (ci := 7) rfl ((wd_get (i := 45) (by decide)).trans (by rw [cl_7 (i := 45) (by decide)]))) hdg kk2
  · exact va_instNo hx hb hown (hts _ hm) (hE.1 ("FlossRumours$Beard", "FlossRumours$Wasp") (by decide)) (va_recv hK hP (ci := 1) rfl ((wd_get (i := 46) (by decide)).trans (by rw [cl_1 (i := 46) (by decide)]))) hdg kk2
  · exact va_instNo hx hb hown (hts _ hm) (hE.1 ("FlossRumours$Bag", "FlossRumours$Wasp") (by decide)) (va_recv hK hP (ci := 0) rfl ((wd_get (i := 47) (by decide)).trans (by rw [cl_0 (i := 47) (by decide)]))) hdg kk2
  · exact va_instS hx hb hown (hts _ hm) (hK.1 8 _ rfl).2 (va_recv hK hP (ci := 8) rfl ((wd_get (i := 48) (by decide)).trans (by rw [cl_8 (i := 48) (by decide)]))) hdg kk2
  · exact va_instNo hx hb hown (hts _ hm) (hE.1 ("FlossRumours$Bishop", "FlossRumours$Wasp") (by decide)) (va_recv hK hP (ci := 2) rfl ((wd_get (i := 49) (by decide)).trans (by rw [cl_2 (i := 49) (by decide)]))) hdg kk2
  · exact va_instY hx hb hown (hts _ hm) (va_tabs rfl rfl (hts _ hc2)) (va_recv hK hP (ci := 5) rfl ((wd_get (i := 50) (by decide)).trans (by rw [cl_5 (i := 50) (by decide)]))) hdg kk2

def inBishop (p : Nat) : Int32 := if p = 49 then 1 else 0
theorem V_instBishop {x : Cx} {cc : ByteArray} {own : String} {nL : Nat} {ret : Option FieldType} {d pc : Nat} {lv : List (Nat × Value)} {st : List Value} {h : Hp} {idx p : Nat} (K : Ok x cc own nL ret d) (hm : Cond.classLink own idx "FlossRumours$Bishop" ∈ TB) (hc1 : Cond.castable "FlossRumours$Bishop" "FlossRumours$Beard" ∈ TB) (hc2 : Cond.castable "FlossRumours$Girl" "FlossRumours$Wasp" ∈ TB) (hp : isP p) (hdg : decode cc pc = .ok (.instanceof idx, 3)) (kk : VV x (pc + 3) lv (.int (inBishop p) :: st) h) : VV x pc lv (.ref (ad x p) :: st) h := by
  obtain ⟨⟨p, l, e, R, s, m, args, below, meth, c⟩, A, G, nL0, r, h'⟩ := x
  obtain ⟨hx, hb, hr, hlocks, hml, hnl, hown, hts, hK, hD, hA, hE, hR⟩ := K
  subst hnl
  intro H locs ls hP hS hl
  have kk2 := kk H locs ls hP hS hl
  rcases hp with rfl | rfl | rfl | rfl | rfl | rfl
  · exact va_instNo hx hb hown (hts _ hm) (hE.1 ("FlossRumours$Person", "FlossRumours$Bishop") (by decide)) (va_recv hK hP (ci := 7) rfl ((wd_get (i := 45) (by decide)).trans (by rw [cl_7 (i := 45) (by decide)]))) hdg kk2
  · exact va_instNo hx hb hown (hts _ hm) (hE.1 ("FlossRumours$Beard", "FlossRumours$Bishop") (by decide)) (va_recv hK hP (ci := 1) rfl ((wd_get (i := 46) (by decide)).trans (by rw [cl_1 (i := 46) (by decide)]))) hdg kk2
  · exact va_instNo hx hb hown (hts _ hm) (hE.1 ("FlossRumours$Bag", "FlossRumours$Bishop") (by decide)) (va_recv hK hP (ci := 0) rfl ((wd_get (i := 47) (by decide)).trans (by rw [cl_0 (i := 47) (by decide)]))) hdg kk2
  · exact va_instNo hx hb hown (hts _ hm) (hE.1 ("FlossRumours$Wasp", "FlossRumours$Bishop") (by decide)) (va_recv hK hP (ci := 8) rfl ((wd_get (i := 48) (by decide)).trans (by rw [cl_8 (i := 48) (by decide)]))) hdg kk2
  · exact va_instS hx hb hown (hts _ hm) (hK.1 2 _ rfl).2 (va_recv hK hP (ci := 2) rfl ((wd_get (i := 49) (by decide)).trans (by rw [cl_2 (i := 49) (by decide)]))) hdg kk2
  · exact va_instNo hx hb hown (hts _ hm) (hE.1 ("FlossRumours$Girl", "FlossRumours$Bishop") (by decide)) (va_recv hK hP (ci := 5) rfl ((wd_get (i := 50) (by decide)).trans (by rw [cl_5 (i := 50) (by decide)]))) hdg kk2

def inGirl (p : Nat) : Int32 := if p = 50 then 1 else 0
theorem V_instGirl {x : Cx} {cc : ByteArray} {own : String} {nL : Nat} {ret : Option FieldType} {d pc : Nat} {lv : List (Nat × Value)} {st : List Value} {h : Hp} {idx p : Nat} (K : Ok x cc own nL ret d) (hm : Cond.classLink own idx "FlossRumours$Girl" ∈ TB) (hc1 : Cond.castable "FlossRumours$Bishop" "FlossRumours$Beard" ∈ TB) (hc2 : Cond.castable "FlossRumours$Girl" "FlossRumours$Wasp" ∈ TB) (hp : isP p) (hdg : decode cc pc = .ok (.instanceof idx, 3)) (kk : VV x (pc + 3) lv (.int (inGirl p) :: st) h) : VV x pc lv (.ref (ad x p) :: st) h := by
  obtain ⟨⟨p, l, e, R, s, m, args, below, meth, c⟩, A, G, nL0, r, h'⟩ := x
  obtain ⟨hx, hb, hr, hlocks, hml, hnl, hown, hts, hK, hD, hA, hE, hR⟩ := K
  subst hnl
  intro H locs ls hP hS hl
  have kk2 := kk H locs ls hP hS hl
  rcases hp with rfl | rfl | rfl | rfl | rfl | rfl
  · exact va_instNo hx hb hown (hts _ hm) (hE.1 ("FlossRumours$Person", "FlossRumours$Girl") (by decide)) (va_recv hK hP (ci := 7) rfl ((wd_get (i := 45) (by decide)).trans (by rw [cl_7 (i := 45) (by decide)]))) hdg kk2
  · exact va_instNo hx hb hown (hts _ hm) (hE.1 ("FlossRumours$Beard", "FlossRumours$Girl") (by decide)) (va_recv hK hP (ci := 1) rfl ((wd_get (i := 46) (by decide)).trans (by rw [cl_1 (i := 46) (by decide)]))) hdg kk2
  · exact va_instNo hx hb hown (hts _ hm) (hE.1 ("FlossRumours$Bag", "FlossRumours$Girl") (by decide)) (va_recv hK hP (ci := 0) rfl ((wd_get (i := 47) (by decide)).trans (by rw [cl_0 (i := 47) (by decide)]))) hdg kk2
  · exact va_instNo hx hb hown (hts _ hm) (hE.1 ("FlossRumours$Wasp", "FlossRumours$Girl") (by decide)) (va_recv hK hP (ci := 8) rfl ((wd_get (i := 48) (by decide)).trans (by rw [cl_8 (i := 48) (by decide)]))) hdg kk2
  · exact va_instNo hx hb hown (hts _ hm) (hE.1 ("FlossRumours$Bishop", "FlossRumours$Girl") (by decide)) (va_recv hK hP (ci := 2) rfl ((wd_get (i := 49) (by decide)).trans (by rw [cl_2 (i := 49) (by decide)]))) hdg kk2
  · exact va_instS hx hb hown (hts _ hm) (hK.1 5 _ rfl).2 (va_recv hK hP (ci := 5) rfl ((wd_get (i := 50) (by decide)).trans (by rw [cl_5 (i := 50) (by decide)]))) hdg kk2

theorem V_callO {x : Cx} {cc : ByteArray} {own : String} {nL : Nat} {ret : Option FieldType} {d pc : Nat} {lv : List (Nat × Value)} {st : List Value} {h : Hp} {y : MethodName} {bytes : ByteArray} {maxL idx n : Nat} {rt : Option FieldType} {As : (Nat → Nat) → List Value} {rr : (Nat → Nat) → Option Value} {h2 : Hp} {o ci : Nat} {fs : List Value} {T : u_T} {N : Nat} {C owner : String} {xm : MethodName} {b0 : ByteArray} {m0 : Nat} {r0 : Option FieldType} (K : Ok x cc own nL ret (d + 1)) (Rn : Runs d y bytes maxL rt (fun f => .ref (f o) :: As f) h rr h2) (ho : o < 65) (hc : cl_ x.2.2.1 h o = .inr (ci, fs)) (hcl : vwCl[ci]? = some (C, T, N)) (hm1 : Cond.methodLink own idx xm ∈ TB) (hm2 : Cond.sameMethod xm.cls owner xm.name xm.desc ∈ TB) (hm3 : Cond.instanceMethod ⟨owner, xm.name, xm.desc⟩ ∈ TB) (hm4 : Cond.selects C xm y ∈ TB) (hm6 : Cond.instanceMethod y ∈ TB) (hm7 : Cond.initialized y.cls ∈ TB) (hm8 : Cond.code ⟨owner, xm.name, xm.desc⟩ b0 m0 r0 ∈ TB) (hd : owner ≠ "java/lang/invoke/MethodHandle" ∧ owner ≠ "java/lang/invoke/VarHandle" ∧ (parseMethodDescriptor xm.desc).map (fun d => d.parameters.length) = some n) (hm5 : Cond.code y bytes maxL rt ∈ TB) (hx5 : maxL ≤ 20) (hdg : decode cc pc = .ok (.invokevirtual idx, 3)) (hn : (As (ad x)).length = n) (hW : (st.map fun v => v.category).sum ≤ 8) (kk : VV x (pc + 3) lv ((rr (ad x)).toList ++ st) h2) : VV x pc lv ((As (ad x)).reverse ++ .ref (ad x o) :: st) h := by
  obtain ⟨⟨p, l, e, R, s, m, args, below, meth, c⟩, A, G, nL0, r, h'⟩ := x
  obtain ⟨hx, hb, hr, hlocks, hml, hnl, hown, hts, hK, hD, hA, hE, hR⟩ := K
  subst hnl
  intro H locs ls hP hS hl
  have hF : ∀ q, va_A (wd G h) H.size q → A q := by
    intro q hq
    rcases hq with ⟨k, e, hk⟩ | hq
    · exact (hD h).2 k _ hk
    · exact hA q (Nat.le_trans hS.1 hq)
  have hbl : FrameBlind (va_Pc (.ref (G.2.2.1 o) :: As G.2.2.1) (PP G H.size h)) := fun a U g mk q => by
    obtain ⟨q0, q1, qP, qK, qD, qE⟩ := q
    exact ⟨q0, q1, qP, va_K.moved (u := U) (U := U.calling g mk a) (Vm.Alike.refl U.vm) qK, qD, qE.moved (u := U.calling g mk a) (Vm.Alike.refl U.vm)⟩
  have hpre : ∀ U : State, U.heap = H → s.WarmedH U.vm → va_Pc (.ref (G.2.2.1 o) :: As G.2.2.1) (PP G H.size h) (.ref (G.2.2.1 o) :: As G.2.2.1).toArray U := fun U hU hW => ⟨rfl, by rw [hU], by rw [hU]; exact hP, va_K.moved hW.alike hK, (hD h).weaken (fun _ _ _ _ => trivial), by rw [hU]; exact ((hE.kept hS.2.1).narrow hF).moved hW.alike⟩
  have hcode : (Cond.code y bytes maxL rt) ∈ (.code y bytes maxL rt :: TB : List Cond) := List.mem_cons_self
  have hGI : GoodIn TB (.code y bytes maxL rt :: TB) := fun w hw => by
    rcases List.mem_cons.mp hw with e | hw
    · rw [e]; exact TB_self _ hm5
    · exact TB_self _ hw
  have hroom : (rmD d).frames + 1 ≤ R.frames ∧ 8 + (maxL + 11) + (rmD d).locals ≤ R.locals := by
    show d + 1 ≤ R.frames ∧ 8 + (maxL + 11) + 40 * d ≤ R.locals
    omega
  have hT9 : GoodIn TB (va_wsO own idx C owner xm y (.code y bytes maxL rt :: TB)) := fun w hw => by
    rcases List.mem_append.mp hw with h9 | h9
    · rcases List.mem_cons.mp h9 with e | h9
      · rw [e]; exact TB_self _ hm1
      · rcases List.mem_cons.mp h9 with e | h9
        · rw [e]; exact TB_self _ hm2
        · rcases List.mem_cons.mp h9 with e | h9
          · rw [e]; exact TB_self _ hm3
          · rcases List.mem_cons.mp h9 with e | h9
            · rw [e]; exact TB_self _ hm4
            · rcases List.mem_cons.mp h9 with e | h9
              · rw [e]; exact TB_self _ hm6
              · rcases List.mem_cons.mp h9 with e | h9
                · rw [e]; exact TB_self _ hm7
                · cases h9
    · exact hGI _ h9
  have RR := va_runU (locs := locs) (cells := 0) (slots := 0) (below := below) (e := e) (meth := meth) (H := H) (rest := st) (As := As G.2.2.1) (b := G.2.2.1 o) (g := F0 m pc ls ((As G.2.2.1).reverse ++ .ref (G.2.2.1 o) :: st)) ⟨hx, hb, hml, hown, hts⟩ (Rn l G H.size) (va_cwO n hts hT9 rfl rfl rfl hm8 hd hroom) ⟨hbl, va_recv hK hP hcl ((wd_get ho).trans (by rw [hc])), hpre⟩ rfl hn hl.1 rfl (by show 2 * 0 + _ ≤ 8; omega) hdg ⟨Nat.zero_le _, Nat.zero_le _⟩
  intro T hT X
  obtain ⟨v, st₀, t, T', L, h0, X', hL, e1, e2, ⟨hv, hP1, hFr⟩, stp⟩ := RR T hT X
  cases hv
  have hz : H.size ≤ t.heap.size := by have := hFr.1; rw [h0] at this; exact this
  obtain ⟨t2, a1, b1⟩ := kk T'.heap (locs ++ L) ls (by rw [e1]; exact hP1) ⟨Nat.le_trans hS.1 (by rw [e1]; exact hz), fun q h1 h2 => by
      rw [e1, hFr.2 q (by rw [h0]; exact Nat.lt_of_lt_of_le h1 hS.1) (fun z => h2 (hF q z)), h0]; exact hS.2.1 q h1 h2, fun q hq => by
      rcases List.mem_append.mp hq with h | h
      · exact hS.2.2 q h
      · exact hF _ (hL q h)⟩ hl T' rfl X'
  exact ⟨t2, stp t2 a1, b1⟩
theorem V_callSU {x : Cx} {cc : ByteArray} {own : String} {nL : Nat} {ret : Option FieldType} {d pc : Nat} {lv : List (Nat × Value)} {st : List Value} {h : Hp} {y : MethodName} {bytes : ByteArray} {maxL idx n : Nat} {rt : Option FieldType} {As : (Nat → Nat) → List Value} {rr : (Nat → Nat) → Option Value} {h2 : Hp} {o ci : Nat} {fs : List Value} {T : u_T} {N : Nat} {C : String} (K : Ok x cc own nL ret (d + 1)) (Rn : Runs d y bytes maxL rt (fun f => .ref (f o) :: As f) h rr h2) (ho : o < 65) (hc : cl_ x.2.2.1 h o = .inr (ci, fs)) (hcl : vwCl[ci]? = some (C, T, N)) (hm1 : Cond.methodLink own idx y ∈ TB) (hm2 : Cond.sameMethod y.cls y.cls y.name y.desc ∈ TB) (hm3 : Cond.superclass own y.cls ∈ TB) (hm4 : Cond.instanceMethod y ∈ TB) (hm6 : Cond.initialized y.cls ∈ TB) (hd : y.name ≠ "<init>" ∧ (parseMethodDescriptor y.desc).map (fun d => d.parameters.length) = some n) (hm5 : Cond.code y bytes maxL rt ∈ TB) (hx5 : maxL ≤ 20) (hdg : decode cc pc = .ok (.invokespecial idx, 3)) (hn : (As (ad x)).length = n) (hW : (st.map fun v => v.category).sum ≤ 8) (kk : VV x (pc + 3) lv ((rr (ad x)).toList ++ st) h2) : VV x pc lv ((As (ad x)).reverse ++ .ref (ad x o) :: st) h := by
  obtain ⟨⟨p, l, e, R, s, m, args, below, meth, c⟩, A, G, nL0, r, h'⟩ := x
  obtain ⟨hx, hb, hr, hlocks, hml, hnl, hown, hts, hK, hD, hA, hE, hR⟩ := K
  subst hnl
  intro H locs ls hP hS hl
  have hF : ∀ q, va_A (wd G h) H.size q → A q := by
    intro q hq
    rcases hq with ⟨k, e, hk⟩ | hq
    · exact (hD h).2 k _ hk
    · exact hA q (Nat.le_trans hS.1 hq)
  have hbl : FrameBlind (va_Pc (.ref (G.2.2.1 o) :: As G.2.2.1) (PP G H.size h)) := fun a U g mk q => by
    obtain ⟨q0, q1, qP, qK, qD, qE⟩ := q
    exact ⟨q0, q1, qP, va_K.moved (u := U) (U := U.calling g mk a) (Vm.Alike.refl U.vm) qK, qD, qE.moved (u := U.calling g mk a) (Vm.Alike.refl U.vm)⟩
  have hpre : ∀ U : State, U.heap = H → s.WarmedH U.vm → va_Pc (.ref (G.2.2.1 o) :: As G.2.2.1) (PP G H.size h) (.ref (G.2.2.1 o) :: As G.2.2.1).toArray U := fun U hU hW => ⟨rfl, by rw [hU], by rw [hU]; exact hP, va_K.moved hW.alike hK, (hD h).weaken (fun _ _ _ _ => trivial), by rw [hU]; exact ((hE.kept hS.2.1).narrow hF).moved hW.alike⟩
  have hcode : (Cond.code y bytes maxL rt) ∈ (.code y bytes maxL rt :: TB : List Cond) := List.mem_cons_self
  have hGI : GoodIn TB (.code y bytes maxL rt :: TB) := fun w hw => by
    rcases List.mem_cons.mp hw with e | hw
    · rw [e]; exact TB_self _ hm5
    · exact TB_self _ hw
  have hroom : (rmD d).frames + 1 ≤ R.frames ∧ 8 + (maxL + 11) + (rmD d).locals ≤ R.locals := by
    show d + 1 ≤ R.frames ∧ 8 + (maxL + 11) + 40 * d ≤ R.locals
    omega
  have hT9 : GoodIn TB (va_wsSU own idx y (.code y bytes maxL rt :: TB)) := fun w hw => by
    rcases List.mem_append.mp hw with h9 | h9
    · rcases List.mem_cons.mp h9 with e | h9
      · rw [e]; exact TB_self _ hm1
      · rcases List.mem_cons.mp h9 with e | h9
        · rw [e]; exact TB_self _ hm2
        · rcases List.mem_cons.mp h9 with e | h9
          · rw [e]; exact TB_self _ hm3
          · rcases List.mem_cons.mp h9 with e | h9
            · rw [e]; exact TB_self _ hm4
            · rcases List.mem_cons.mp h9 with e | h9
              · rw [e]; exact TB_self _ hm6
              · cases h9
    · exact hGI _ h9
  have RR := va_runSU (locs := locs) (cells := 0) (slots := 0) (below := below) (e := e) (meth := meth) (H := H) (rest := st) (As := As G.2.2.1) (b := G.2.2.1 o) (g := F0 m pc ls ((As G.2.2.1).reverse ++ .ref (G.2.2.1 o) :: st)) (hK.1 ci _ hcl).2 ⟨hx, hb, hml, hown, hts⟩ (Rn l G H.size) (va_cwSU n hts hT9 rfl rfl rfl hd hroom) ⟨hbl, va_recv hK hP hcl ((wd_get ho).trans (by rw [hc])), hpre⟩ rfl hn hl.1 rfl (by show 2 * 0 + _ ≤ 8; omega) hdg ⟨Nat.zero_le _, Nat.zero_le _⟩
  intro T hT X
  obtain ⟨v, st₀, t, T', L, h0, X', hL, e1, e2, ⟨hv, hP1, hFr⟩, stp⟩ := RR T hT X
  cases hv
  have hz : H.size ≤ t.heap.size := by have := hFr.1; rw [h0] at this; exact this
  obtain ⟨t2, a1, b1⟩ := kk T'.heap (locs ++ L) ls (by rw [e1]; exact hP1) ⟨Nat.le_trans hS.1 (by rw [e1]; exact hz), fun q h1 h2 => by
      rw [e1, hFr.2 q (by rw [h0]; exact Nat.lt_of_lt_of_le h1 hS.1) (fun z => h2 (hF q z)), h0]; exact hS.2.1 q h1 h2, fun q hq => by
      rcases List.mem_append.mp hq with h | h
      · exact hS.2.2 q h
      · exact hF _ (hL q h)⟩ hl T' rfl X'
  exact ⟨t2, stp t2 a1, b1⟩
def lt_ {α β : Type} (a : α) (f : α → β) : β := f a
theorem lt_inv {α β : Type} {a : α} {f : α → β} {z : β} (E : lt_ a f = z) : ∃ v, v = a ∧ f v = z := ⟨a, rfl, E⟩
def ob {α β : Type} (a : Option α) (f : α → Option β) : Option β := match a with
  | none => none
  | some v => f v
theorem ob_inv {α β : Type} {a : Option α} {f : α → Option β} {z : β} (E : ob a f = some z) : ∃ v, a = some v ∧ f v = some z := by
  cases a with
  | none => cases E
  | some v => exact ⟨v, rfl, E⟩
def gd {β : Type} (b : Bool) (f : Option β) : Option β := if b = true then f else none
theorem gd_inv {β : Type} {b : Bool} {f : Option β} {z : β} (E : gd b f = some z) : b = true ∧ f = some z := by
  cases b with
  | false => cases E
  | true => exact ⟨rfl, E⟩
theorem if_inv {β : Type} {c : Prop} [Decidable c] {f g : β} {z : β} (E : (if c then f else g) = z) : (c ∧ f = z) ∨ (¬ c ∧ g = z) := by
  by_cases h : c
  · exact Or.inl ⟨h, (if_pos h).symm.trans E⟩
  · exact Or.inr ⟨h, (if_neg h).symm.trans E⟩
/-- a step ends (inl) or goes on (inr) -/
def lp {σ ρ : Type} (step : σ → Option (ρ ⊕ σ)) : Nat → σ → Option ρ
  | 0, _ => none
  | n + 1, s => match step s with
    | none => none
    | some (.inl r) => some r
    | some (.inr t) => lp step n t
theorem lp_walk {σ ρ : Type} {step : σ → Option (ρ ⊕ σ)} {Vh : σ → Prop} {Vx : ρ → Prop} (body : ∀ s z, step s = some z → (match z with | .inl r => Vx r | .inr t => Vh t) → Vh s) : ∀ n s r, lp step n s = some r → Vx r → Vh s := by
  intro n
  induction n with
  | zero => intro s r E; cases E
  | succ n ih =>
    intro s r E T
    cases hs : step s with
    | none => unfold lp at E; rw [hs] at E; cases E
    | some z =>
      unfold lp at E; rw [hs] at E
      cases z with
      | inl r' => cases E; exact body s _ hs T
      | inr t => exact body s _ hs (ih t r E T)
end
section
theorem k_0 : shK 0 = 9 := by decide
theorem k_1 : shK 1 = 15 := by decide
theorem n_1 : shN 1 = 6 := by decide
theorem k_2 : shK 2 = 12 := by decide
theorem n_2 : shN 2 = 40 := by decide
theorem k_3 : shK 3 = 12 := by decide
theorem n_3 : shN 3 = 40 := by decide
theorem k_4 : shK 4 = 12 := by decide
theorem n_4 : shN 4 = 40 := by decide
theorem k_5 : shK 5 = 12 := by decide
theorem n_5 : shN 5 = 40 := by decide
theorem k_6 : shK 6 = 12 := by decide
theorem n_6 : shN 6 = 40 := by decide
theorem k_7 : shK 7 = 12 := by decide
theorem n_7 : shN 7 = 40 := by decide
theorem k_8 : shK 8 = 12 := by decide
theorem n_8 : shN 8 = 6 := by decide
theorem k_9 : shK 9 = 14 := by decide
theorem n_9 : shN 9 = 4 := by decide
theorem k_10 : shK 10 = 11 := by decide
theorem n_10 : shN 10 = 60 := by decide
theorem k_11 : shK 11 = 11 := by decide
theorem n_11 : shN 11 = 60 := by decide
theorem k_12 : shK 12 = 11 := by decide
theorem n_12 : shN 12 = 60 := by decide
theorem k_13 : shK 13 = 11 := by decide
theorem n_13 : shN 13 = 60 := by decide
theorem k_14 : shK 14 = 12 := by decide
theorem n_14 : shN 14 = 4 := by decide
theorem k_15 : shK 15 = 4 := by decide
theorem k_16 : shK 16 = 12 := by decide
theorem n_16 : shN 16 = 6 := by decide
theorem k_17 : shK 17 = 12 := by decide
theorem n_17 : shN 17 = 6 := by decide
theorem k_18 : shK 18 = 12 := by decide
theorem n_18 : shN 18 = 6 := by decide
theorem k_19 : shK 19 = 4 := by decide
theorem k_20 : shK 20 = 12 := by decide
theorem n_20 : shN 20 = 6 := by decide
theorem k_21 : shK 21 = 12 := by decide
theorem n_21 : shN 21 = 6 := by decide
theorem k_22 : shK 22 = 12 := by decide
theorem n_22 : shN 22 = 6 := by decide
theorem k_23 : shK 23 = 4 := by decide
theorem k_24 : shK 24 = 12 := by decide
theorem n_24 : shN 24 = 6 := by decide
theorem k_25 : shK 25 = 12 := by decide
theorem n_25 : shN 25 = 6 := by decide
theorem k_26 : shK 26 = 12 := by decide
theorem n_26 : shN 26 = 6 := by decide
theorem k_27 : shK 27 = 3 := by decide
theorem k_28 : shK 28 = 12 := by decide
theorem n_28 : shN 28 = 40 := by decide
theorem k_29 : shK 29 = 13 := by decide
theorem n_29 : shN 29 = 3 := by decide
theorem k_30 : shK 30 = 3 := by decide
theorem k_31 : shK 31 = 12 := by decide
theorem n_31 : shN 31 = 40 := by decide
theorem k_32 : shK 32 = 3 := by decide
theorem k_33 : shK 33 = 12 := by decide
theorem n_33 : shN 33 = 40 := by decide
theorem k_34 : shK 34 = 3 := by decide
theorem k_35 : shK 35 = 12 := by decide
theorem n_35 : shN 35 = 40 := by decide
theorem k_36 : shK 36 = 15 := by decide
theorem n_36 : shN 36 = 6 := by decide
theorem k_37 : shK 37 = 12 := by decide
theorem n_37 : shN 37 = 31 := by decide
theorem k_38 : shK 38 = 12 := by decide
theorem n_38 : shN 38 = 31 := by decide
theorem k_39 : shK 39 = 12 := by decide
theorem n_39 : shN 39 = 31 := by decide
theorem k_40 : shK 40 = 12 := by decide
theorem n_40 : shN 40 = 31 := by decide
theorem k_41 : shK 41 = 12 := by decide
theorem n_41 : shN 41 = 31 := by decide
theorem k_42 : shK 42 = 12 := by decide
theorem n_42 : shN 42 = 31 := by decide
theorem k_43 : shK 43 = 12 := by decide
theorem n_43 : shN 43 = 6 := by decide
theorem k_44 : shK 44 = 6 := by decide
theorem k_45 : shK 45 = 7 := by decide
theorem k_46 : shK 46 = 1 := by decide
theorem k_47 : shK 47 = 0 := by decide
theorem k_48 : shK 48 = 8 := by decide
theorem k_49 : shK 49 = 2 := by decide
theorem k_50 : shK 50 = 5 := by decide
theorem k_51 : shK 51 = 10 := by decide
theorem k_52 : shK 52 = 12 := by decide
theorem n_52 : shN 52 = 2805 := by decide
theorem k_53 : shK 53 = 12 := by decide
theorem n_53 : shN 53 = 6 := by decide
theorem k_54 : shK 54 = 12 := by decide
theorem n_54 : shN 54 = 3 := by decide
theorem k_55 : shK 55 = 12 := by decide
theorem n_55 : shN 55 = 240 := by decide
theorem k_56 : shK 56 = 12 := by decide
theorem n_56 : shN 56 = 6 := by decide
theorem k_57 : shK 57 = 12 := by decide
theorem n_57 : shN 57 = 240 := by decide
theorem k_58 : shK 58 = 12 := by decide
theorem n_58 : shN 58 = 4 := by decide
theorem k_59 : shK 59 = 12 := by decide
theorem n_59 : shN 59 = 6 := by decide
theorem k_60 : shK 60 = 12 := by decide
theorem n_60 : shN 60 = 6 := by decide
theorem k_61 : shK 61 = 12 := by decide
theorem n_61 : shN 61 = 6 := by decide
theorem k_62 : shK 62 = 12 := by decide
theorem n_62 : shN 62 = 6 := by decide
theorem k_63 : shK 63 = 12 := by decide
theorem n_63 : shN 63 = 31 := by decide
theorem k_64 : shK 64 = 12 := by decide
theorem n_64 : shN 64 = 81 := by decide
theorem isP_45 : isP 45 := by unfold isP; decide
theorem isP_46 : isP 46 := by unfold isP; decide
theorem isP_47 : isP 47 := by unfold isP; decide
theorem isP_48 : isP 48 := by unfold isP; decide
theorem isP_49 : isP 49 := by unfold isP; decide
theorem isP_50 : isP 50 := by unfold isP; decide
def pB (p : Nat) : Bool := decide (45 ≤ p ∧ p ≤ 50)
theorem pB_P {p : Nat} (h : pB p = true) : isP p := by have := of_decide_eq_true h; unfold isP; omega
theorem sh_all {P : Nat → Prop} {k : Nat} (h9 : k < 99) (h : ∀ o, o < 65 → shK o = k → P o) : ∀ {o : Nat}, shK o = k → P o := fun {o} ho => h o (sh_lt ho h9) ho
theorem rfF0 {o : Nat} (ho : shK o = 4) : rf o 0 = some 44 := sh_all (P := fun o => rf o 0 = some 44) (by decide) (by decide +kernel) ho
theorem rfF1 {o : Nat} (ho : shK o = 4) : rf o 1 = some (o + 1) := sh_all (P := fun o => rf o 1 = some (o + 1)) (by decide) (by decide +kernel) ho
theorem rfF2 {o : Nat} (ho : shK o = 4) : rf o 2 = some (o + 2) := sh_all (P := fun o => rf o 2 = some (o + 2)) (by decide) (by decide +kernel) ho
theorem rfF3 {o : Nat} (ho : shK o = 4) : rf o 3 = some (o + 3) := sh_all (P := fun o => rf o 3 = some (o + 3)) (by decide) (by decide +kernel) ho
theorem F1k {o : Nat} (ho : shK o = 4) : shK (o + 1) = 12 := sh_all (P := fun o => shK (o + 1) = 12) (by decide) (by decide +kernel) ho
theorem F1n {o : Nat} (ho : shK o = 4) : shN (o + 1) = 6 := sh_all (P := fun o => shN (o + 1) = 6) (by decide) (by decide +kernel) ho
theorem F2k {o : Nat} (ho : shK o = 4) : shK (o + 2) = 12 := sh_all (P := fun o => shK (o + 2) = 12) (by decide) (by decide +kernel) ho
theorem F2n {o : Nat} (ho : shK o = 4) : shN (o + 2) = 6 := sh_all (P := fun o => shN (o + 2) = 6) (by decide) (by decide +kernel) ho
theorem F3k {o : Nat} (ho : shK o = 4) : shK (o + 3) = 12 := sh_all (P := fun o => shK (o + 3) = 12) (by decide) (by decide +kernel) ho
theorem F3n {o : Nat} (ho : shK o = 4) : shN (o + 3) = 6 := sh_all (P := fun o => shN (o + 3) = 6) (by decide) (by decide +kernel) ho
theorem rfD0 {o : Nat} (ho : shK o = 3) : rf o 0 = some (o + 1) := sh_all (P := fun o => rf o 0 = some (o + 1)) (by decide) (by decide +kernel) ho
theorem D1k {o : Nat} (ho : shK o = 3) : shK (o + 1) = 12 := sh_all (P := fun o => shK (o + 1) = 12) (by decide) (by decide +kernel) ho
theorem D1n {o : Nat} (ho : shK o = 3) : shN (o + 1) = 40 := sh_all (P := fun o => shN (o + 1) = 40) (by decide) (by decide +kernel) ho
theorem ib_lt {i : Int32} {n : Nat} (h : ib i n = true) : ix i < n := Nat.not_le.mp fun q => ib_in h (Or.inr q)
theorem rowR {i : Int32} (h : ib i 6 = true) : rf 1 (ix i) = some (2 + ix i) := (by decide : ∀ q, q < 6 → rf 1 q = some (2 + q)) _ (ib_lt h)
theorem rowK {i : Int32} (h : ib i 6 = true) : shK (2 + ix i) = 12 := (by decide : ∀ q, q < 6 → shK (2 + q) = 12) _ (ib_lt h)
theorem rowN {i : Int32} (h : ib i 6 = true) : shN (2 + ix i) = 40 := (by decide : ∀ q, q < 6 → shN (2 + q) = 40) _ (ib_lt h)
theorem talR {i : Int32} (h : ib i 6 = true) : rf 36 (ix i) = some (37 + ix i) := (by decide : ∀ q, q < 6 → rf 36 q = some (37 + q)) _ (ib_lt h)
theorem talK {i : Int32} (h : ib i 6 = true) : shK (37 + ix i) = 12 := (by decide : ∀ q, q < 6 → shK (37 + q) = 12) _ (ib_lt h)
theorem talN {i : Int32} (h : ib i 6 = true) : shN (37 + ix i) = 31 := (by decide : ∀ q, q < 6 → shN (37 + q) = 31) _ (ib_lt h)
theorem txtR {i : Int32} (h : ib i 4 = true) : rf 9 (ix i) = some (10 + ix i) := (by decide : ∀ q, q < 4 → rf 9 q = some (10 + q)) _ (ib_lt h)
theorem txtK {i : Int32} (h : ib i 4 = true) : shK (10 + ix i) = 11 := (by decide : ∀ q, q < 4 → shK (10 + q) = 11) _ (ib_lt h)
theorem txtN {i : Int32} (h : ib i 4 = true) : shN (10 + ix i) = 60 := (by decide : ∀ q, q < 4 → shN (10 + q) = 60) _ (ib_lt h)
theorem kepR {i : Int32} (h : ib i 3 = true) : rf 29 (ix i) = some (30 + 2 * ix i) := (by decide : ∀ q, q < 3 → rf 29 q = some (30 + 2 * q)) _ (ib_lt h)
theorem kepK {i : Int32} (h : ib i 3 = true) : shK (30 + 2 * ix i) = 3 := (by decide : ∀ q, q < 3 → shK (30 + 2 * q) = 3) _ (ib_lt h)
theorem V_iald {x : Cx} {cc : ByteArray} {own : String} {nL : Nat} {ret : Option FieldType} {d pc : Nat} {lv : List (Nat × Value)} {st : List Value} {h : Hp} {o n : Nat} {i : Int32} (K : Ok x cc own nL ret d) (ho : shK o = 12) (hN : shN o = n) (hi : ib i n = true) (hdg : decode cc pc = .ok (.iaload, 1)) (kk : VV x (pc + 1) lv (.int (h.1 o (ix i)) :: st) h) : VV x pc lv (.int i :: .ref (ad x o) :: st) h := V_iaload K ho (by rw [hN]; exact hi) hdg kk
theorem V_iast {x : Cx} {cc : ByteArray} {own : String} {nL : Nat} {ret : Option FieldType} {d pc : Nat} {lv : List (Nat × Value)} {st : List Value} {h : Hp} {o n : Nat} {i v : Int32} (K : Ok x cc own nL ret d) (ho : shK o = 12) (hN : shN o = n) (hi : ib i n = true) (hdg : decode cc pc = .ok (.iastore, 1)) (kk : VV x (pc + 1) lv st (up h o (ix i) v)) : VV x pc lv (.int v :: .int i :: .ref (ad x o) :: st) h := V_iastore K ho (by rw [hN]; exact hi) hdg kk
theorem V_bald {x : Cx} {cc : ByteArray} {own : String} {nL : Nat} {ret : Option FieldType} {d pc : Nat} {lv : List (Nat × Value)} {st : List Value} {h : Hp} {o n : Nat} {i : Int32} (K : Ok x cc own nL ret d) (ho : shK o = 11) (hN : shN o = n) (hi : ib i n = true) (hdg : decode cc pc = .ok (.baload, 1)) (kk : VV x (pc + 1) lv (.int (h.1 o (ix i)) :: st) h) : VV x pc lv (.int i :: .ref (ad x o) :: st) h := V_baload K ho (by rw [hN]; exact hi) hdg kk
theorem V_bast {x : Cx} {cc : ByteArray} {own : String} {nL : Nat} {ret : Option FieldType} {d pc : Nat} {lv : List (Nat × Value)} {st : List Value} {h : Hp} {o n : Nat} {i v : Int32} (K : Ok x cc own nL ret d) (ho : shK o = 11) (hN : shN o = n) (hi : ib i n = true) (hdg : decode cc pc = .ok (.bastore, 1)) (kk : VV x (pc + 1) lv st (up h o (ix i) (v.toInt8.toInt32))) : VV x pc lv (.int v :: .int i :: .ref (ad x o) :: st) h := V_bastore K ho (by rw [hN]; exact hi) hdg kk
def cpOk (sp dp n : Int32) (n0 n1 : Nat) : Bool := decide (¬ sp < 0 ∧ ¬ dp < 0 ∧ ¬ n < 0 ∧ ix sp + ix n ≤ n0 ∧ ix dp + ix n ≤ n1)
theorem V_cpy {x : Cx} {cc : ByteArray} {own : String} {nL : Nat} {ret : Option FieldType} {d pc : Nat} {lv : List (Nat × Value)} {st : List Value} {h : Hp} {idx o0 o1 n0 n1 : Nat} {sp dp n : Int32} (K : Ok x cc own nL ret (d + 1)) (hm1 : Cond.methodLink own idx arraycopyName ∈ TB) (hm2 : Cond.native arraycopyName ∈ TB) (hm3 : Cond.static arraycopyName ∈ TB) (hm4 : Cond.initialized "java/lang/System" ∈ TB) (h0 : shK o0 = 12) (h1 : shK o1 = 12) (hn0 : shN o0 = n0) (hn1 : shN o1 = n1) (g : cpOk sp dp n n0 n1 = true) (hW : (st.map fun v => v.category).sum ≤ 8) (hdg : decode cc pc = .ok (.invokestatic idx, 3)) (kk : VV x (pc + 3) lv st (upA h o1 (va_cpy (h.1 o0) (h.1 o1) (ix sp) (ix dp) (ix n)))) : VV x pc lv (.int n :: .int dp :: .ref (ad x o1) :: .int sp :: .ref (ad x o0) :: st) h := by
  subst hn0; subst hn1
  obtain ⟨g1, g2, g3, g4, g5⟩ := of_decide_eq_true g
  exact V_copy K hm1 hm2 hm3 hm4 h0 h1 g1 g2 g3 g4 g5 hW hdg kk
def nz (b : Int32) : Bool := decide (¬ b = 0)
def nzL (b : Int64) : Bool := decide (¬ b = 0)
theorem nz_ne {b : Int32} (h : nz b = true) : ¬ b = 0 := of_decide_eq_true h
theorem nzL_ne {b : Int64} (h : nzL b = true) : ¬ b = 0 := of_decide_eq_true h
abbrev irm (a b : Int32) : Int32 := a - a / b * b
abbrev lrm (a b : Int64) : Int64 := a - a / b * b
abbrev mnI (a b : Int32) : Int32 := if b < a then b else a
abbrev mxI (a b : Int32) : Int32 := if a < b then b else a
abbrev abI (a : Int32) : Int32 := if 0 ≤ a then a else 0 - a
theorem in_X3 : ∀ w ∈ u_ws RX3 TX3 2, w ∈ TB := by decide +kernel
theorem in_X4 : ∀ w ∈ u_ws RX4 TX4 12, w ∈ TB := by decide +kernel
theorem in_X6 : ∀ w ∈ u_ws RX6 TX6 6, w ∈ TB := by decide +kernel
theorem in_X9 : ∀ w ∈ u_ws RX9 TX9 15, w ∈ TB := by decide +kernel
theorem in_X10 : ∀ w ∈ u_ws RX10 TX10 25, w ∈ TB := by decide +kernel
def FU : Nat := 10000000
theorem lt1_inv {α β : Type} {a : α} {f : α → β} {z : β} (E : lt_ a f = z) : ∃ v, a = v ∧ f v = z := ⟨a, rfl, E⟩
def ob2 {α0 α1 β : Type} (a : Option (α0 × α1)) (f : α0 → α1 → Option β) : Option β := match a with
  | none => none
  | some v => f (v.1) (v.2)
theorem ob2_inv {α0 α1 β : Type} {a : Option (α0 × α1)} {f : α0 → α1 → Option β} {z : β} (E : ob2 a f = some z) : ∃ v0 v1, a = some (v0, v1) ∧ f v0 v1 = some z := by
  cases a with
  | none => cases E
  | some v => exact ⟨v.1, v.2, rfl, E⟩
def lt2 {α0 α1 β : Type} (a : α0 × α1) (f : α0 → α1 → β) : β := f (a.1) (a.2)
theorem lt2_inv {α0 α1 β : Type} {a : α0 × α1} {f : α0 → α1 → β} {z : β} (E : lt2 a f = z) : ∃ v0 v1, a = (v0, v1) ∧ f v0 v1 = z := ⟨a.1, a.2, rfl, E⟩
def ob3 {α0 α1 α2 β : Type} (a : Option (α0 × α1 × α2)) (f : α0 → α1 → α2 → Option β) : Option β := match a with
  | none => none
  | some v => f (v.1) (v.2.1) (v.2.2)
theorem ob3_inv {α0 α1 α2 β : Type} {a : Option (α0 × α1 × α2)} {f : α0 → α1 → α2 → Option β} {z : β} (E : ob3 a f = some z) : ∃ v0 v1 v2, a = some (v0, v1, v2) ∧ f v0 v1 v2 = some z := by
  cases a with
  | none => cases E
  | some v => exact ⟨v.1, v.2.1, v.2.2, rfl, E⟩
def lt3 {α0 α1 α2 β : Type} (a : α0 × α1 × α2) (f : α0 → α1 → α2 → β) : β := f (a.1) (a.2.1) (a.2.2)
theorem lt3_inv {α0 α1 α2 β : Type} {a : α0 × α1 × α2} {f : α0 → α1 → α2 → β} {z : β} (E : lt3 a f = z) : ∃ v0 v1 v2, a = (v0, v1, v2) ∧ f v0 v1 v2 = z := ⟨a.1, a.2.1, a.2.2, rfl, E⟩
def ob4 {α0 α1 α2 α3 β : Type} (a : Option (α0 × α1 × α2 × α3)) (f : α0 → α1 → α2 → α3 → Option β) : Option β := match a with
  | none => none
  | some v => f (v.1) (v.2.1) (v.2.2.1) (v.2.2.2)
theorem ob4_inv {α0 α1 α2 α3 β : Type} {a : Option (α0 × α1 × α2 × α3)} {f : α0 → α1 → α2 → α3 → Option β} {z : β} (E : ob4 a f = some z) : ∃ v0 v1 v2 v3, a = some (v0, v1, v2, v3) ∧ f v0 v1 v2 v3 = some z := by
  cases a with
  | none => cases E
  | some v => exact ⟨v.1, v.2.1, v.2.2.1, v.2.2.2, rfl, E⟩
def lt4 {α0 α1 α2 α3 β : Type} (a : α0 × α1 × α2 × α3) (f : α0 → α1 → α2 → α3 → β) : β := f (a.1) (a.2.1) (a.2.2.1) (a.2.2.2)
theorem lt4_inv {α0 α1 α2 α3 β : Type} {a : α0 × α1 × α2 × α3} {f : α0 → α1 → α2 → α3 → β} {z : β} (E : lt4 a f = z) : ∃ v0 v1 v2 v3, a = (v0, v1, v2, v3) ∧ f v0 v1 v2 v3 = z := ⟨a.1, a.2.1, a.2.2.1, a.2.2.2, rfl, E⟩
def ob5 {α0 α1 α2 α3 α4 β : Type} (a : Option (α0 × α1 × α2 × α3 × α4)) (f : α0 → α1 → α2 → α3 → α4 → Option β) : Option β := match a with
  | none => none
  | some v => f (v.1) (v.2.1) (v.2.2.1) (v.2.2.2.1) (v.2.2.2.2)
theorem ob5_inv {α0 α1 α2 α3 α4 β : Type} {a : Option (α0 × α1 × α2 × α3 × α4)} {f : α0 → α1 → α2 → α3 → α4 → Option β} {z : β} (E : ob5 a f = some z) : ∃ v0 v1 v2 v3 v4, a = some (v0, v1, v2, v3, v4) ∧ f v0 v1 v2 v3 v4 = some z := by
  cases a with
  | none => cases E
  | some v => exact ⟨v.1, v.2.1, v.2.2.1, v.2.2.2.1, v.2.2.2.2, rfl, E⟩
def lt5 {α0 α1 α2 α3 α4 β : Type} (a : α0 × α1 × α2 × α3 × α4) (f : α0 → α1 → α2 → α3 → α4 → β) : β := f (a.1) (a.2.1) (a.2.2.1) (a.2.2.2.1) (a.2.2.2.2)
theorem lt5_inv {α0 α1 α2 α3 α4 β : Type} {a : α0 × α1 × α2 × α3 × α4} {f : α0 → α1 → α2 → α3 → α4 → β} {z : β} (E : lt5 a f = z) : ∃ v0 v1 v2 v3 v4, a = (v0, v1, v2, v3, v4) ∧ f v0 v1 v2 v3 v4 = z := ⟨a.1, a.2.1, a.2.2.1, a.2.2.2.1, a.2.2.2.2, rfl, E⟩
def ob6 {α0 α1 α2 α3 α4 α5 β : Type} (a : Option (α0 × α1 × α2 × α3 × α4 × α5)) (f : α0 → α1 → α2 → α3 → α4 → α5 → Option β) : Option β := match a with
  | none => none
  | some v => f (v.1) (v.2.1) (v.2.2.1) (v.2.2.2.1) (v.2.2.2.2.1) (v.2.2.2.2.2)
theorem ob6_inv {α0 α1 α2 α3 α4 α5 β : Type} {a : Option (α0 × α1 × α2 × α3 × α4 × α5)} {f : α0 → α1 → α2 → α3 → α4 → α5 → Option β} {z : β} (E : ob6 a f = some z) : ∃ v0 v1 v2 v3 v4 v5, a = some (v0, v1, v2, v3, v4, v5) ∧ f v0 v1 v2 v3 v4 v5 = some z := by
  cases a with
  | none => cases E
  | some v => exact ⟨v.1, v.2.1, v.2.2.1, v.2.2.2.1, v.2.2.2.2.1, v.2.2.2.2.2, rfl, E⟩
def lt6 {α0 α1 α2 α3 α4 α5 β : Type} (a : α0 × α1 × α2 × α3 × α4 × α5) (f : α0 → α1 → α2 → α3 → α4 → α5 → β) : β := f (a.1) (a.2.1) (a.2.2.1) (a.2.2.2.1) (a.2.2.2.2.1) (a.2.2.2.2.2)
theorem lt6_inv {α0 α1 α2 α3 α4 α5 β : Type} {a : α0 × α1 × α2 × α3 × α4 × α5} {f : α0 → α1 → α2 → α3 → α4 → α5 → β} {z : β} (E : lt6 a f = z) : ∃ v0 v1 v2 v3 v4 v5, a = (v0, v1, v2, v3, v4, v5) ∧ f v0 v1 v2 v3 v4 v5 = z := ⟨a.1, a.2.1, a.2.2.1, a.2.2.2.1, a.2.2.2.2.1, a.2.2.2.2.2, rfl, E⟩
def ob7 {α0 α1 α2 α3 α4 α5 α6 β : Type} (a : Option (α0 × α1 × α2 × α3 × α4 × α5 × α6)) (f : α0 → α1 → α2 → α3 → α4 → α5 → α6 → Option β) : Option β := match a with
  | none => none
  | some v => f (v.1) (v.2.1) (v.2.2.1) (v.2.2.2.1) (v.2.2.2.2.1) (v.2.2.2.2.2.1) (v.2.2.2.2.2.2)
theorem ob7_inv {α0 α1 α2 α3 α4 α5 α6 β : Type} {a : Option (α0 × α1 × α2 × α3 × α4 × α5 × α6)} {f : α0 → α1 → α2 → α3 → α4 → α5 → α6 → Option β} {z : β} (E : ob7 a f = some z) : ∃ v0 v1 v2 v3 v4 v5 v6, a = some (v0, v1, v2, v3, v4, v5, v6) ∧ f v0 v1 v2 v3 v4 v5 v6 = some z := by
  cases a with
  | none => cases E
  | some v => exact ⟨v.1, v.2.1, v.2.2.1, v.2.2.2.1, v.2.2.2.2.1, v.2.2.2.2.2.1, v.2.2.2.2.2.2, rfl, E⟩
def lt7 {α0 α1 α2 α3 α4 α5 α6 β : Type} (a : α0 × α1 × α2 × α3 × α4 × α5 × α6) (f : α0 → α1 → α2 → α3 → α4 → α5 → α6 → β) : β := f (a.1) (a.2.1) (a.2.2.1) (a.2.2.2.1) (a.2.2.2.2.1) (a.2.2.2.2.2.1) (a.2.2.2.2.2.2)
theorem lt7_inv {α0 α1 α2 α3 α4 α5 α6 β : Type} {a : α0 × α1 × α2 × α3 × α4 × α5 × α6} {f : α0 → α1 → α2 → α3 → α4 → α5 → α6 → β} {z : β} (E : lt7 a f = z) : ∃ v0 v1 v2 v3 v4 v5 v6, a = (v0, v1, v2, v3, v4, v5, v6) ∧ f v0 v1 v2 v3 v4 v5 v6 = z := ⟨a.1, a.2.1, a.2.2.1, a.2.2.2.1, a.2.2.2.2.1, a.2.2.2.2.2.1, a.2.2.2.2.2.2, rfl, E⟩
def ob8 {α0 α1 α2 α3 α4 α5 α6 α7 β : Type} (a : Option (α0 × α1 × α2 × α3 × α4 × α5 × α6 × α7)) (f : α0 → α1 → α2 → α3 → α4 → α5 → α6 → α7 → Option β) : Option β := match a with
  | none => none
  | some v => f (v.1) (v.2.1) (v.2.2.1) (v.2.2.2.1) (v.2.2.2.2.1) (v.2.2.2.2.2.1) (v.2.2.2.2.2.2.1) (v.2.2.2.2.2.2.2)
theorem ob8_inv {α0 α1 α2 α3 α4 α5 α6 α7 β : Type} {a : Option (α0 × α1 × α2 × α3 × α4 × α5 × α6 × α7)} {f : α0 → α1 → α2 → α3 → α4 → α5 → α6 → α7 → Option β} {z : β} (E : ob8 a f = some z) : ∃ v0 v1 v2 v3 v4 v5 v6 v7, a = some (v0, v1, v2, v3, v4, v5, v6, v7) ∧ f v0 v1 v2 v3 v4 v5 v6 v7 = some z := by
  cases a with
  | none => cases E
  | some v => exact ⟨v.1, v.2.1, v.2.2.1, v.2.2.2.1, v.2.2.2.2.1, v.2.2.2.2.2.1, v.2.2.2.2.2.2.1, v.2.2.2.2.2.2.2, rfl, E⟩
def lt8 {α0 α1 α2 α3 α4 α5 α6 α7 β : Type} (a : α0 × α1 × α2 × α3 × α4 × α5 × α6 × α7) (f : α0 → α1 → α2 → α3 → α4 → α5 → α6 → α7 → β) : β := f (a.1) (a.2.1) (a.2.2.1) (a.2.2.2.1) (a.2.2.2.2.1) (a.2.2.2.2.2.1) (a.2.2.2.2.2.2.1) (a.2.2.2.2.2.2.2)
theorem lt8_inv {α0 α1 α2 α3 α4 α5 α6 α7 β : Type} {a : α0 × α1 × α2 × α3 × α4 × α5 × α6 × α7} {f : α0 → α1 → α2 → α3 → α4 → α5 → α6 → α7 → β} {z : β} (E : lt8 a f = z) : ∃ v0 v1 v2 v3 v4 v5 v6 v7, a = (v0, v1, v2, v3, v4, v5, v6, v7) ∧ f v0 v1 v2 v3 v4 v5 v6 v7 = z := ⟨a.1, a.2.1, a.2.2.1, a.2.2.2.1, a.2.2.2.2.1, a.2.2.2.2.2.1, a.2.2.2.2.2.2.1, a.2.2.2.2.2.2.2, rfl, E⟩
def ob9 {α0 α1 α2 α3 α4 α5 α6 α7 α8 β : Type} (a : Option (α0 × α1 × α2 × α3 × α4 × α5 × α6 × α7 × α8)) (f : α0 → α1 → α2 → α3 → α4 → α5 → α6 → α7 → α8 → Option β) : Option β := match a with
  | none => none
  | some v => f (v.1) (v.2.1) (v.2.2.1) (v.2.2.2.1) (v.2.2.2.2.1) (v.2.2.2.2.2.1) (v.2.2.2.2.2.2.1) (v.2.2.2.2.2.2.2.1) (v.2.2.2.2.2.2.2.2)
theorem ob9_inv {α0 α1 α2 α3 α4 α5 α6 α7 α8 β : Type} {a : Option (α0 × α1 × α2 × α3 × α4 × α5 × α6 × α7 × α8)} {f : α0 → α1 → α2 → α3 → α4 → α5 → α6 → α7 → α8 → Option β} {z : β} (E : ob9 a f = some z) : ∃ v0 v1 v2 v3 v4 v5 v6 v7 v8, a = some (v0, v1, v2, v3, v4, v5, v6, v7, v8) ∧ f v0 v1 v2 v3 v4 v5 v6 v7 v8 = some z := by
  cases a with
  | none => cases E
  | some v => exact ⟨v.1, v.2.1, v.2.2.1, v.2.2.2.1, v.2.2.2.2.1, v.2.2.2.2.2.1, v.2.2.2.2.2.2.1, v.2.2.2.2.2.2.2.1, v.2.2.2.2.2.2.2.2, rfl, E⟩
def lt9 {α0 α1 α2 α3 α4 α5 α6 α7 α8 β : Type} (a : α0 × α1 × α2 × α3 × α4 × α5 × α6 × α7 × α8) (f : α0 → α1 → α2 → α3 → α4 → α5 → α6 → α7 → α8 → β) : β := f (a.1) (a.2.1) (a.2.2.1) (a.2.2.2.1) (a.2.2.2.2.1) (a.2.2.2.2.2.1) (a.2.2.2.2.2.2.1) (a.2.2.2.2.2.2.2.1) (a.2.2.2.2.2.2.2.2)
theorem lt9_inv {α0 α1 α2 α3 α4 α5 α6 α7 α8 β : Type} {a : α0 × α1 × α2 × α3 × α4 × α5 × α6 × α7 × α8} {f : α0 → α1 → α2 → α3 → α4 → α5 → α6 → α7 → α8 → β} {z : β} (E : lt9 a f = z) : ∃ v0 v1 v2 v3 v4 v5 v6 v7 v8, a = (v0, v1, v2, v3, v4, v5, v6, v7, v8) ∧ f v0 v1 v2 v3 v4 v5 v6 v7 v8 = z := ⟨a.1, a.2.1, a.2.2.1, a.2.2.2.1, a.2.2.2.2.1, a.2.2.2.2.2.1, a.2.2.2.2.2.2.1, a.2.2.2.2.2.2.2.1, a.2.2.2.2.2.2.2.2, rfl, E⟩
def obS1 {ρ α0 β : Type} (a : Option (ρ ⊕ (α0))) (g : ρ → Option β) (f : α0 → Option β) : Option β := match a with
  | none => none
  | some (.inl q) => g q
  | some (.inr v) => f (v)
theorem obS1_inv {ρ α0 β : Type} {a : Option (ρ ⊕ (α0))} {g : ρ → Option β} {f : α0 → Option β} {z : β} (E : obS1 a g f = some z) : (∃ q, a = some (.inl q) ∧ g q = some z) ∨ ∃ v0, a = some (.inr (v0)) ∧ f v0 = some z := by
  cases a with
  | none => cases E
  | some v =>
    cases v with
    | inl q => exact Or.inl ⟨q, rfl, E⟩
    | inr v => exact Or.inr ⟨v, rfl, E⟩
def obS2 {ρ α0 α1 β : Type} (a : Option (ρ ⊕ (α0 × α1))) (g : ρ → Option β) (f : α0 → α1 → Option β) : Option β := match a with
  | none => none
  | some (.inl q) => g q
  | some (.inr v) => f (v.1) (v.2)
theorem obS2_inv {ρ α0 α1 β : Type} {a : Option (ρ ⊕ (α0 × α1))} {g : ρ → Option β} {f : α0 → α1 → Option β} {z : β} (E : obS2 a g f = some z) : (∃ q, a = some (.inl q) ∧ g q = some z) ∨ ∃ v0 v1, a = some (.inr (v0, v1)) ∧ f v0 v1 = some z := by
  cases a with
  | none => cases E
  | some v =>
    cases v with
    | inl q => exact Or.inl ⟨q, rfl, E⟩
    | inr v => exact Or.inr ⟨v.1, v.2, rfl, E⟩
def obS3 {ρ α0 α1 α2 β : Type} (a : Option (ρ ⊕ (α0 × α1 × α2))) (g : ρ → Option β) (f : α0 → α1 → α2 → Option β) : Option β := match a with
  | none => none
  | some (.inl q) => g q
  | some (.inr v) => f (v.1) (v.2.1) (v.2.2)
theorem obS3_inv {ρ α0 α1 α2 β : Type} {a : Option (ρ ⊕ (α0 × α1 × α2))} {g : ρ → Option β} {f : α0 → α1 → α2 → Option β} {z : β} (E : obS3 a g f = some z) : (∃ q, a = some (.inl q) ∧ g q = some z) ∨ ∃ v0 v1 v2, a = some (.inr (v0, v1, v2)) ∧ f v0 v1 v2 = some z := by
  cases a with
  | none => cases E
  | some v =>
    cases v with
    | inl q => exact Or.inl ⟨q, rfl, E⟩
    | inr v => exact Or.inr ⟨v.1, v.2.1, v.2.2, rfl, E⟩
def obS4 {ρ α0 α1 α2 α3 β : Type} (a : Option (ρ ⊕ (α0 × α1 × α2 × α3))) (g : ρ → Option β) (f : α0 → α1 → α2 → α3 → Option β) : Option β := match a with
  | none => none
  | some (.inl q) => g q
  | some (.inr v) => f (v.1) (v.2.1) (v.2.2.1) (v.2.2.2)
theorem obS4_inv {ρ α0 α1 α2 α3 β : Type} {a : Option (ρ ⊕ (α0 × α1 × α2 × α3))} {g : ρ → Option β} {f : α0 → α1 → α2 → α3 → Option β} {z : β} (E : obS4 a g f = some z) : (∃ q, a = some (.inl q) ∧ g q = some z) ∨ ∃ v0 v1 v2 v3, a = some (.inr (v0, v1, v2, v3)) ∧ f v0 v1 v2 v3 = some z := by
  cases a with
  | none => cases E
  | some v =>
    cases v with
    | inl q => exact Or.inl ⟨q, rfl, E⟩
    | inr v => exact Or.inr ⟨v.1, v.2.1, v.2.2.1, v.2.2.2, rfl, E⟩
def obS5 {ρ α0 α1 α2 α3 α4 β : Type} (a : Option (ρ ⊕ (α0 × α1 × α2 × α3 × α4))) (g : ρ → Option β) (f : α0 → α1 → α2 → α3 → α4 → Option β) : Option β := match a with
  | none => none
  | some (.inl q) => g q
  | some (.inr v) => f (v.1) (v.2.1) (v.2.2.1) (v.2.2.2.1) (v.2.2.2.2)
theorem obS5_inv {ρ α0 α1 α2 α3 α4 β : Type} {a : Option (ρ ⊕ (α0 × α1 × α2 × α3 × α4))} {g : ρ → Option β} {f : α0 → α1 → α2 → α3 → α4 → Option β} {z : β} (E : obS5 a g f = some z) : (∃ q, a = some (.inl q) ∧ g q = some z) ∨ ∃ v0 v1 v2 v3 v4, a = some (.inr (v0, v1, v2, v3, v4)) ∧ f v0 v1 v2 v3 v4 = some z := by
  cases a with
  | none => cases E
  | some v =>
    cases v with
    | inl q => exact Or.inl ⟨q, rfl, E⟩
    | inr v => exact Or.inr ⟨v.1, v.2.1, v.2.2.1, v.2.2.2.1, v.2.2.2.2, rfl, E⟩
def obS6 {ρ α0 α1 α2 α3 α4 α5 β : Type} (a : Option (ρ ⊕ (α0 × α1 × α2 × α3 × α4 × α5))) (g : ρ → Option β) (f : α0 → α1 → α2 → α3 → α4 → α5 → Option β) : Option β := match a with
  | none => none
  | some (.inl q) => g q
  | some (.inr v) => f (v.1) (v.2.1) (v.2.2.1) (v.2.2.2.1) (v.2.2.2.2.1) (v.2.2.2.2.2)
theorem obS6_inv {ρ α0 α1 α2 α3 α4 α5 β : Type} {a : Option (ρ ⊕ (α0 × α1 × α2 × α3 × α4 × α5))} {g : ρ → Option β} {f : α0 → α1 → α2 → α3 → α4 → α5 → Option β} {z : β} (E : obS6 a g f = some z) : (∃ q, a = some (.inl q) ∧ g q = some z) ∨ ∃ v0 v1 v2 v3 v4 v5, a = some (.inr (v0, v1, v2, v3, v4, v5)) ∧ f v0 v1 v2 v3 v4 v5 = some z := by
  cases a with
  | none => cases E
  | some v =>
    cases v with
    | inl q => exact Or.inl ⟨q, rfl, E⟩
    | inr v => exact Or.inr ⟨v.1, v.2.1, v.2.2.1, v.2.2.2.1, v.2.2.2.2.1, v.2.2.2.2.2, rfl, E⟩
def obS7 {ρ α0 α1 α2 α3 α4 α5 α6 β : Type} (a : Option (ρ ⊕ (α0 × α1 × α2 × α3 × α4 × α5 × α6))) (g : ρ → Option β) (f : α0 → α1 → α2 → α3 → α4 → α5 → α6 → Option β) : Option β := match a with
  | none => none
  | some (.inl q) => g q
  | some (.inr v) => f (v.1) (v.2.1) (v.2.2.1) (v.2.2.2.1) (v.2.2.2.2.1) (v.2.2.2.2.2.1) (v.2.2.2.2.2.2)
theorem obS7_inv {ρ α0 α1 α2 α3 α4 α5 α6 β : Type} {a : Option (ρ ⊕ (α0 × α1 × α2 × α3 × α4 × α5 × α6))} {g : ρ → Option β} {f : α0 → α1 → α2 → α3 → α4 → α5 → α6 → Option β} {z : β} (E : obS7 a g f = some z) : (∃ q, a = some (.inl q) ∧ g q = some z) ∨ ∃ v0 v1 v2 v3 v4 v5 v6, a = some (.inr (v0, v1, v2, v3, v4, v5, v6)) ∧ f v0 v1 v2 v3 v4 v5 v6 = some z := by
  cases a with
  | none => cases E
  | some v =>
    cases v with
    | inl q => exact Or.inl ⟨q, rfl, E⟩
    | inr v => exact Or.inr ⟨v.1, v.2.1, v.2.2.1, v.2.2.2.1, v.2.2.2.2.1, v.2.2.2.2.2.1, v.2.2.2.2.2.2, rfl, E⟩
def obS8 {ρ α0 α1 α2 α3 α4 α5 α6 α7 β : Type} (a : Option (ρ ⊕ (α0 × α1 × α2 × α3 × α4 × α5 × α6 × α7))) (g : ρ → Option β) (f : α0 → α1 → α2 → α3 → α4 → α5 → α6 → α7 → Option β) : Option β := match a with
  | none => none
  | some (.inl q) => g q
  | some (.inr v) => f (v.1) (v.2.1) (v.2.2.1) (v.2.2.2.1) (v.2.2.2.2.1) (v.2.2.2.2.2.1) (v.2.2.2.2.2.2.1) (v.2.2.2.2.2.2.2)
theorem obS8_inv {ρ α0 α1 α2 α3 α4 α5 α6 α7 β : Type} {a : Option (ρ ⊕ (α0 × α1 × α2 × α3 × α4 × α5 × α6 × α7))} {g : ρ → Option β} {f : α0 → α1 → α2 → α3 → α4 → α5 → α6 → α7 → Option β} {z : β} (E : obS8 a g f = some z) : (∃ q, a = some (.inl q) ∧ g q = some z) ∨ ∃ v0 v1 v2 v3 v4 v5 v6 v7, a = some (.inr (v0, v1, v2, v3, v4, v5, v6, v7)) ∧ f v0 v1 v2 v3 v4 v5 v6 v7 = some z := by
  cases a with
  | none => cases E
  | some v =>
    cases v with
    | inl q => exact Or.inl ⟨q, rfl, E⟩
    | inr v => exact Or.inr ⟨v.1, v.2.1, v.2.2.1, v.2.2.2.1, v.2.2.2.2.1, v.2.2.2.2.2.1, v.2.2.2.2.2.2.1, v.2.2.2.2.2.2.2, rfl, E⟩
def obS9 {ρ α0 α1 α2 α3 α4 α5 α6 α7 α8 β : Type} (a : Option (ρ ⊕ (α0 × α1 × α2 × α3 × α4 × α5 × α6 × α7 × α8))) (g : ρ → Option β) (f : α0 → α1 → α2 → α3 → α4 → α5 → α6 → α7 → α8 → Option β) : Option β := match a with
  | none => none
  | some (.inl q) => g q
  | some (.inr v) => f (v.1) (v.2.1) (v.2.2.1) (v.2.2.2.1) (v.2.2.2.2.1) (v.2.2.2.2.2.1) (v.2.2.2.2.2.2.1) (v.2.2.2.2.2.2.2.1) (v.2.2.2.2.2.2.2.2)
theorem obS9_inv {ρ α0 α1 α2 α3 α4 α5 α6 α7 α8 β : Type} {a : Option (ρ ⊕ (α0 × α1 × α2 × α3 × α4 × α5 × α6 × α7 × α8))} {g : ρ → Option β} {f : α0 → α1 → α2 → α3 → α4 → α5 → α6 → α7 → α8 → Option β} {z : β} (E : obS9 a g f = some z) : (∃ q, a = some (.inl q) ∧ g q = some z) ∨ ∃ v0 v1 v2 v3 v4 v5 v6 v7 v8, a = some (.inr (v0, v1, v2, v3, v4, v5, v6, v7, v8)) ∧ f v0 v1 v2 v3 v4 v5 v6 v7 v8 = some z := by
  cases a with
  | none => cases E
  | some v =>
    cases v with
    | inl q => exact Or.inl ⟨q, rfl, E⟩
    | inr v => exact Or.inr ⟨v.1, v.2.1, v.2.2.1, v.2.2.2.1, v.2.2.2.2.1, v.2.2.2.2.2.1, v.2.2.2.2.2.2.1, v.2.2.2.2.2.2.2.1, v.2.2.2.2.2.2.2.2, rfl, E⟩
end
