-- ===== PART A: goes FIRST, ahead of the names: the tables' words, and 'selects' of the private methods out of them =====
/-- a private method of a class that the tables say can be made, by its rows of tables_1 -/
def lw_okq (q : MethodName × Nat) : Prop := (q.1.cls ≠ "java/lang/invoke/MethodHandle" ∧ q.1.cls ≠ "java/lang/invoke/VarHandle") ∧ Cond.instantiable q.1.cls q.2 ∈ tables_1 ∧ Cond.privateMethod q.1 ∈ tables_1 ∧ Cond.instanceMethod q.1 ∈ tables_1
theorem lw_p0 : lw_okq (⟨"GatesBent", "isComer", "(I)Z"⟩, 14) := ⟨⟨by decide +kernel, by decide +kernel⟩, List.mem_of_getElem? (i := 18) (by decide +kernel), List.mem_of_getElem? (i := 295) (by decide +kernel), List.mem_of_getElem? (i := 296) (by decide +kernel)⟩
theorem lw_p1 : lw_okq (⟨"GatesBent$Town", "likeBySum", "(LGatesBent$Comer;II)I"⟩, 8) := ⟨⟨by decide +kernel, by decide +kernel⟩, List.mem_of_getElem? (i := 148) (by decide +kernel), List.mem_of_getElem? (i := 317) (by decide +kernel), List.mem_of_getElem? (i := 318) (by decide +kernel)⟩
theorem lw_p2 : lw_okq (⟨"GatesBent", "nearest", "(LGatesBent$Comer;I)I"⟩, 14) := ⟨⟨by decide +kernel, by decide +kernel⟩, List.mem_of_getElem? (i := 18) (by decide +kernel), List.mem_of_getElem? (i := 337) (by decide +kernel), List.mem_of_getElem? (i := 338) (by decide +kernel)⟩
theorem lw_p3 : lw_okq (⟨"GatesBent", "daysUntilOut", "(I)I"⟩, 14) := ⟨⟨by decide +kernel, by decide +kernel⟩, List.mem_of_getElem? (i := 18) (by decide +kernel), List.mem_of_getElem? (i := 346) (by decide +kernel), List.mem_of_getElem? (i := 347) (by decide +kernel)⟩
theorem lw_p4 : lw_okq (⟨"GatesBent$Gate", "leastAlike", "(I)I"⟩, 2) := ⟨⟨by decide +kernel, by decide +kernel⟩, List.mem_of_getElem? (i := 53) (by decide +kernel), List.mem_of_getElem? (i := 392) (by decide +kernel), List.mem_of_getElem? (i := 393) (by decide +kernel)⟩
theorem lw_p5 : lw_okq (⟨"GatesBent$Reader", "readClause", "()Z"⟩, 4) := ⟨⟨by decide +kernel, by decide +kernel⟩, List.mem_of_getElem? (i := 26) (by decide +kernel), List.mem_of_getElem? (i := 420) (by decide +kernel), List.mem_of_getElem? (i := 421) (by decide +kernel)⟩
theorem lw_p6 : lw_okq (⟨"GatesBent$Reader", "readWord", "()I"⟩, 4) := ⟨⟨by decide +kernel, by decide +kernel⟩, List.mem_of_getElem? (i := 26) (by decide +kernel), List.mem_of_getElem? (i := 424) (by decide +kernel), List.mem_of_getElem? (i := 425) (by decide +kernel)⟩
theorem lw_p7 : lw_okq (⟨"GatesBent$Reader", "sameSigns", "(Ljava/lang/String;)I"⟩, 4) := ⟨⟨by decide +kernel, by decide +kernel⟩, List.mem_of_getElem? (i := 26) (by decide +kernel), List.mem_of_getElem? (i := 435) (by decide +kernel), List.mem_of_getElem? (i := 436) (by decide +kernel)⟩
theorem lw_p8 : lw_okq (⟨"GatesBent$Reader", "readSign", "(I)Z"⟩, 4) := ⟨⟨by decide +kernel, by decide +kernel⟩, List.mem_of_getElem? (i := 26) (by decide +kernel), List.mem_of_getElem? (i := 490) (by decide +kernel), List.mem_of_getElem? (i := 491) (by decide +kernel)⟩
theorem lw_p9 : lw_okq (⟨"GatesBent$Reader", "signAt", "()I"⟩, 4) := ⟨⟨by decide +kernel, by decide +kernel⟩, List.mem_of_getElem? (i := 26) (by decide +kernel), List.mem_of_getElem? (i := 494) (by decide +kernel), List.mem_of_getElem? (i := 495) (by decide +kernel)⟩
theorem lw_p10 : lw_okq (⟨"GatesBent$Reader", "readNumber", "()I"⟩, 4) := ⟨⟨by decide +kernel, by decide +kernel⟩, List.mem_of_getElem? (i := 26) (by decide +kernel), List.mem_of_getElem? (i := 498) (by decide +kernel), List.mem_of_getElem? (i := 499) (by decide +kernel)⟩
theorem lw_p11 : lw_okq (⟨"GatesBent$Reader", "readEither", "(I)Z"⟩, 4) := ⟨⟨by decide +kernel, by decide +kernel⟩, List.mem_of_getElem? (i := 26) (by decide +kernel), List.mem_of_getElem? (i := 502) (by decide +kernel), List.mem_of_getElem? (i := 503) (by decide +kernel)⟩
theorem lw_p12 : lw_okq (⟨"GatesBent$Reader", "readFactor", "(I)Z"⟩, 4) := ⟨⟨by decide +kernel, by decide +kernel⟩, List.mem_of_getElem? (i := 26) (by decide +kernel), List.mem_of_getElem? (i := 506) (by decide +kernel), List.mem_of_getElem? (i := 507) (by decide +kernel)⟩
theorem lw_p13 : lw_okq (⟨"GatesBent$Reader", "readTest", "()Z"⟩, 4) := ⟨⟨by decide +kernel, by decide +kernel⟩, List.mem_of_getElem? (i := 26) (by decide +kernel), List.mem_of_getElem? (i := 510) (by decide +kernel), List.mem_of_getElem? (i := 511) (by decide +kernel)⟩
theorem lw_p14 : lw_okq (⟨"GatesBent$Reader", "readOneOf", "(Ljava/lang/String;)I"⟩, 4) := ⟨⟨by decide +kernel, by decide +kernel⟩, List.mem_of_getElem? (i := 26) (by decide +kernel), List.mem_of_getElem? (i := 515) (by decide +kernel), List.mem_of_getElem? (i := 516) (by decide +kernel)⟩
theorem lw_p15 : lw_okq (⟨"GatesBent", "master", "(I)I"⟩, 14) := ⟨⟨by decide +kernel, by decide +kernel⟩, List.mem_of_getElem? (i := 18) (by decide +kernel), List.mem_of_getElem? (i := 528) (by decide +kernel), List.mem_of_getElem? (i := 529) (by decide +kernel)⟩
def lw_privs_1 : List (MethodName × Nat) := [(⟨"GatesBent", "isComer", "(I)Z"⟩, 14), (⟨"GatesBent$Town", "likeBySum", "(LGatesBent$Comer;II)I"⟩, 8), (⟨"GatesBent", "nearest", "(LGatesBent$Comer;I)I"⟩, 14), (⟨"GatesBent", "daysUntilOut", "(I)I"⟩, 14), (⟨"GatesBent$Gate", "leastAlike", "(I)I"⟩, 2), (⟨"GatesBent$Reader", "readClause", "()Z"⟩, 4), (⟨"GatesBent$Reader", "readWord", "()I"⟩, 4), (⟨"GatesBent$Reader", "sameSigns", "(Ljava/lang/String;)I"⟩, 4), (⟨"GatesBent$Reader", "readSign", "(I)Z"⟩, 4), (⟨"GatesBent$Reader", "signAt", "()I"⟩, 4), (⟨"GatesBent$Reader", "readNumber", "()I"⟩, 4), (⟨"GatesBent$Reader", "readEither", "(I)Z"⟩, 4), (⟨"GatesBent$Reader", "readFactor", "(I)Z"⟩, 4), (⟨"GatesBent$Reader", "readTest", "()Z"⟩, 4), (⟨"GatesBent$Reader", "readOneOf", "(Ljava/lang/String;)I"⟩, 4), (⟨"GatesBent", "master", "(I)I"⟩, 14)]
theorem lw_r1 : ∀ q ∈ lw_privs_1, lw_okq q := List.forall_mem_cons.mpr ⟨lw_p0, List.forall_mem_cons.mpr ⟨lw_p1, List.forall_mem_cons.mpr ⟨lw_p2, List.forall_mem_cons.mpr ⟨lw_p3, List.forall_mem_cons.mpr ⟨lw_p4, List.forall_mem_cons.mpr ⟨lw_p5, List.forall_mem_cons.mpr ⟨lw_p6, List.forall_mem_cons.mpr ⟨lw_p7, List.forall_mem_cons.mpr ⟨lw_p8, List.forall_mem_cons.mpr ⟨lw_p9, List.forall_mem_cons.mpr ⟨lw_p10, List.forall_mem_cons.mpr ⟨lw_p11, List.forall_mem_cons.mpr ⟨lw_p12, List.forall_mem_cons.mpr ⟨lw_p13, List.forall_mem_cons.mpr ⟨lw_p14, List.forall_mem_cons.mpr ⟨lw_p15, fun _ h => absurd h List.not_mem_nil⟩⟩⟩⟩⟩⟩⟩⟩⟩⟩⟩⟩⟩⟩⟩⟩
theorem lw_p16 : lw_okq (⟨"GatesBent", "askNeededByComer", "(I)V"⟩, 14) := ⟨⟨by decide +kernel, by decide +kernel⟩, List.mem_of_getElem? (i := 18) (by decide +kernel), List.mem_of_getElem? (i := 532) (by decide +kernel), List.mem_of_getElem? (i := 533) (by decide +kernel)⟩
theorem lw_p17 : lw_okq (⟨"GatesBent", "letByWalkAlone", "(I)I"⟩, 14) := ⟨⟨by decide +kernel, by decide +kernel⟩, List.mem_of_getElem? (i := 18) (by decide +kernel), List.mem_of_getElem? (i := 537) (by decide +kernel), List.mem_of_getElem? (i := 538) (by decide +kernel)⟩
theorem lw_p18 : lw_okq (⟨"GatesBent", "aheadBy", "(I)LGatesBent$Town;"⟩, 14) := ⟨⟨by decide +kernel, by decide +kernel⟩, List.mem_of_getElem? (i := 18) (by decide +kernel), List.mem_of_getElem? (i := 563) (by decide +kernel), List.mem_of_getElem? (i := 564) (by decide +kernel)⟩
theorem lw_p19 : lw_okq (⟨"GatesBent", "bestLessons", "(II)I"⟩, 14) := ⟨⟨by decide +kernel, by decide +kernel⟩, List.mem_of_getElem? (i := 18) (by decide +kernel), List.mem_of_getElem? (i := 571) (by decide +kernel), List.mem_of_getElem? (i := 572) (by decide +kernel)⟩
theorem lw_p20 : lw_okq (⟨"GatesBent", "letByLessons", "(III)I"⟩, 14) := ⟨⟨by decide +kernel, by decide +kernel⟩, List.mem_of_getElem? (i := 18) (by decide +kernel), List.mem_of_getElem? (i := 575) (by decide +kernel), List.mem_of_getElem? (i := 576) (by decide +kernel)⟩
theorem lw_p21 : lw_okq (⟨"GatesBent", "pupil", "(III)I"⟩, 14) := ⟨⟨by decide +kernel, by decide +kernel⟩, List.mem_of_getElem? (i := 18) (by decide +kernel), List.mem_of_getElem? (i := 580) (by decide +kernel), List.mem_of_getElem? (i := 581) (by decide +kernel)⟩
theorem lw_p22 : lw_okq (⟨"GatesBent", "walksBySeen", "(II)I"⟩, 14) := ⟨⟨by decide +kernel, by decide +kernel⟩, List.mem_of_getElem? (i := 18) (by decide +kernel), List.mem_of_getElem? (i := 609) (by decide +kernel), List.mem_of_getElem? (i := 610) (by decide +kernel)⟩
theorem lw_p23 : lw_okq (⟨"GatesBent", "askNeededByGate", "()V"⟩, 14) := ⟨⟨by decide +kernel, by decide +kernel⟩, List.mem_of_getElem? (i := 18) (by decide +kernel), List.mem_of_getElem? (i := 614) (by decide +kernel), List.mem_of_getElem? (i := 615) (by decide +kernel)⟩
theorem lw_p24 : lw_okq (⟨"GatesBent", "isAllSeenSo", "()Z"⟩, 14) := ⟨⟨by decide +kernel, by decide +kernel⟩, List.mem_of_getElem? (i := 18) (by decide +kernel), List.mem_of_getElem? (i := 618) (by decide +kernel), List.mem_of_getElem? (i := 619) (by decide +kernel)⟩
theorem lw_p25 : lw_okq (⟨"GatesBent", "numbersBySeen", "(II)I"⟩, 14) := ⟨⟨by decide +kernel, by decide +kernel⟩, List.mem_of_getElem? (i := 18) (by decide +kernel), List.mem_of_getElem? (i := 622) (by decide +kernel), List.mem_of_getElem? (i := 623) (by decide +kernel)⟩
theorem lw_p26 : lw_okq (⟨"GatesBent", "isInPlan", "(II)Z"⟩, 14) := ⟨⟨by decide +kernel, by decide +kernel⟩, List.mem_of_getElem? (i := 18) (by decide +kernel), List.mem_of_getElem? (i := 642) (by decide +kernel), List.mem_of_getElem? (i := 643) (by decide +kernel)⟩
theorem lw_p27 : lw_okq (⟨"GatesBent", "walks", "(LGatesBent$Comer;III)I"⟩, 14) := ⟨⟨by decide +kernel, by decide +kernel⟩, List.mem_of_getElem? (i := 18) (by decide +kernel), List.mem_of_getElem? (i := 684) (by decide +kernel), List.mem_of_getElem? (i := 685) (by decide +kernel)⟩
theorem lw_p28 : lw_okq (⟨"GatesBent", "startBody", "(I)V"⟩, 14) := ⟨⟨by decide +kernel, by decide +kernel⟩, List.mem_of_getElem? (i := 18) (by decide +kernel), List.mem_of_getElem? (i := 688) (by decide +kernel), List.mem_of_getElem? (i := 689) (by decide +kernel)⟩
theorem lw_p29 : lw_okq (⟨"GatesBent", "knocks", "(LGatesBent$Comer;III)I"⟩, 14) := ⟨⟨by decide +kernel, by decide +kernel⟩, List.mem_of_getElem? (i := 18) (by decide +kernel), List.mem_of_getElem? (i := 692) (by decide +kernel), List.mem_of_getElem? (i := 693) (by decide +kernel)⟩
theorem lw_p30 : lw_okq (⟨"GatesBent", "tells", "(LGatesBent$Comer;III)I"⟩, 14) := ⟨⟨by decide +kernel, by decide +kernel⟩, List.mem_of_getElem? (i := 18) (by decide +kernel), List.mem_of_getElem? (i := 696) (by decide +kernel), List.mem_of_getElem? (i := 697) (by decide +kernel)⟩
theorem lw_p31 : lw_okq (⟨"GatesBent$Tape", "cut", "(J)J"⟩, 3) := ⟨⟨by decide +kernel, by decide +kernel⟩, List.mem_of_getElem? (i := 218) (by decide +kernel), List.mem_of_getElem? (i := 733) (by decide +kernel), List.mem_of_getElem? (i := 734) (by decide +kernel)⟩
def lw_privs_2 : List (MethodName × Nat) := [(⟨"GatesBent", "askNeededByComer", "(I)V"⟩, 14), (⟨"GatesBent", "letByWalkAlone", "(I)I"⟩, 14), (⟨"GatesBent", "aheadBy", "(I)LGatesBent$Town;"⟩, 14), (⟨"GatesBent", "bestLessons", "(II)I"⟩, 14), (⟨"GatesBent", "letByLessons", "(III)I"⟩, 14), (⟨"GatesBent", "pupil", "(III)I"⟩, 14), (⟨"GatesBent", "walksBySeen", "(II)I"⟩, 14), (⟨"GatesBent", "askNeededByGate", "()V"⟩, 14), (⟨"GatesBent", "isAllSeenSo", "()Z"⟩, 14), (⟨"GatesBent", "numbersBySeen", "(II)I"⟩, 14), (⟨"GatesBent", "isInPlan", "(II)Z"⟩, 14), (⟨"GatesBent", "walks", "(LGatesBent$Comer;III)I"⟩, 14), (⟨"GatesBent", "startBody", "(I)V"⟩, 14), (⟨"GatesBent", "knocks", "(LGatesBent$Comer;III)I"⟩, 14), (⟨"GatesBent", "tells", "(LGatesBent$Comer;III)I"⟩, 14), (⟨"GatesBent$Tape", "cut", "(J)J"⟩, 3)]
theorem lw_r2 : ∀ q ∈ lw_privs_2, lw_okq q := List.forall_mem_cons.mpr ⟨lw_p16, List.forall_mem_cons.mpr ⟨lw_p17, List.forall_mem_cons.mpr ⟨lw_p18, List.forall_mem_cons.mpr ⟨lw_p19, List.forall_mem_cons.mpr ⟨lw_p20, List.forall_mem_cons.mpr ⟨lw_p21, List.forall_mem_cons.mpr ⟨lw_p22, List.forall_mem_cons.mpr ⟨lw_p23, List.forall_mem_cons.mpr ⟨lw_p24, List.forall_mem_cons.mpr ⟨lw_p25, List.forall_mem_cons.mpr ⟨lw_p26, List.forall_mem_cons.mpr ⟨lw_p27, List.forall_mem_cons.mpr ⟨lw_p28, List.forall_mem_cons.mpr ⟨lw_p29, List.forall_mem_cons.mpr ⟨lw_p30, List.forall_mem_cons.mpr ⟨lw_p31, fun _ h => absurd h List.not_mem_nil⟩⟩⟩⟩⟩⟩⟩⟩⟩⟩⟩⟩⟩⟩⟩⟩
theorem lw_p32 : lw_okq (⟨"GatesBentModel", "change", "(III)I"⟩, 32) := ⟨⟨by decide +kernel, by decide +kernel⟩, List.mem_of_getElem? (i := 750) (by decide +kernel), List.mem_of_getElem? (i := 872) (by decide +kernel), List.mem_of_getElem? (i := 873) (by decide +kernel)⟩
theorem lw_p33 : lw_okq (⟨"GatesBentModel", "one", "(II)I"⟩, 32) := ⟨⟨by decide +kernel, by decide +kernel⟩, List.mem_of_getElem? (i := 750) (by decide +kernel), List.mem_of_getElem? (i := 876) (by decide +kernel), List.mem_of_getElem? (i := 877) (by decide +kernel)⟩
theorem lw_p34 : lw_okq (⟨"GatesBentModel", "isComer", "(I)Z"⟩, 32) := ⟨⟨by decide +kernel, by decide +kernel⟩, List.mem_of_getElem? (i := 750) (by decide +kernel), List.mem_of_getElem? (i := 884) (by decide +kernel), List.mem_of_getElem? (i := 885) (by decide +kernel)⟩
theorem lw_p35 : lw_okq (⟨"GatesBentModel", "out", "(I)I"⟩, 32) := ⟨⟨by decide +kernel, by decide +kernel⟩, List.mem_of_getElem? (i := 750) (by decide +kernel), List.mem_of_getElem? (i := 888) (by decide +kernel), List.mem_of_getElem? (i := 889) (by decide +kernel)⟩
theorem lw_p36 : lw_okq (⟨"GatesBentModel", "keep", "(I)V"⟩, 32) := ⟨⟨by decide +kernel, by decide +kernel⟩, List.mem_of_getElem? (i := 750) (by decide +kernel), List.mem_of_getElem? (i := 892) (by decide +kernel), List.mem_of_getElem? (i := 893) (by decide +kernel)⟩
theorem lw_p37 : lw_okq (⟨"GatesBentModel", "isBy", "(I)Z"⟩, 32) := ⟨⟨by decide +kernel, by decide +kernel⟩, List.mem_of_getElem? (i := 750) (by decide +kernel), List.mem_of_getElem? (i := 896) (by decide +kernel), List.mem_of_getElem? (i := 897) (by decide +kernel)⟩
theorem lw_p38 : lw_okq (⟨"GatesBentModel", "lets", "(II)Z"⟩, 32) := ⟨⟨by decide +kernel, by decide +kernel⟩, List.mem_of_getElem? (i := 750) (by decide +kernel), List.mem_of_getElem? (i := 900) (by decide +kernel), List.mem_of_getElem? (i := 901) (by decide +kernel)⟩
theorem lw_p39 : lw_okq (⟨"GatesBentModel", "helps", "(II)I"⟩, 32) := ⟨⟨by decide +kernel, by decide +kernel⟩, List.mem_of_getElem? (i := 750) (by decide +kernel), List.mem_of_getElem? (i := 904) (by decide +kernel), List.mem_of_getElem? (i := 905) (by decide +kernel)⟩
theorem lw_p40 : lw_okq (⟨"GatesBentModel", "readFor", "(II)V"⟩, 32) := ⟨⟨by decide +kernel, by decide +kernel⟩, List.mem_of_getElem? (i := 750) (by decide +kernel), List.mem_of_getElem? (i := 908) (by decide +kernel), List.mem_of_getElem? (i := 909) (by decide +kernel)⟩
theorem lw_p41 : lw_okq (⟨"GatesBentModel", "readAll", "()Z"⟩, 32) := ⟨⟨by decide +kernel, by decide +kernel⟩, List.mem_of_getElem? (i := 750) (by decide +kernel), List.mem_of_getElem? (i := 912) (by decide +kernel), List.mem_of_getElem? (i := 913) (by decide +kernel)⟩
theorem lw_p42 : lw_okq (⟨"GatesBentModel", "clause", "()V"⟩, 32) := ⟨⟨by decide +kernel, by decide +kernel⟩, List.mem_of_getElem? (i := 750) (by decide +kernel), List.mem_of_getElem? (i := 916) (by decide +kernel), List.mem_of_getElem? (i := 917) (by decide +kernel)⟩
theorem lw_p43 : lw_okq (⟨"GatesBentModel", "isAt", "(I)Z"⟩, 32) := ⟨⟨by decide +kernel, by decide +kernel⟩, List.mem_of_getElem? (i := 750) (by decide +kernel), List.mem_of_getElem? (i := 920) (by decide +kernel), List.mem_of_getElem? (i := 921) (by decide +kernel)⟩
theorem lw_p44 : lw_okq (⟨"GatesBentModel", "takes", "(I)V"⟩, 32) := ⟨⟨by decide +kernel, by decide +kernel⟩, List.mem_of_getElem? (i := 750) (by decide +kernel), List.mem_of_getElem? (i := 924) (by decide +kernel), List.mem_of_getElem? (i := 925) (by decide +kernel)⟩
theorem lw_p45 : lw_okq (⟨"GatesBentModel", "number", "()I"⟩, 32) := ⟨⟨by decide +kernel, by decide +kernel⟩, List.mem_of_getElem? (i := 750) (by decide +kernel), List.mem_of_getElem? (i := 928) (by decide +kernel), List.mem_of_getElem? (i := 929) (by decide +kernel)⟩
theorem lw_p46 : lw_okq (⟨"GatesBentModel", "isDigit", "()Z"⟩, 32) := ⟨⟨by decide +kernel, by decide +kernel⟩, List.mem_of_getElem? (i := 750) (by decide +kernel), List.mem_of_getElem? (i := 932) (by decide +kernel), List.mem_of_getElem? (i := 933) (by decide +kernel)⟩
theorem lw_p47 : lw_okq (⟨"GatesBentModel", "any", "()Z"⟩, 32) := ⟨⟨by decide +kernel, by decide +kernel⟩, List.mem_of_getElem? (i := 750) (by decide +kernel), List.mem_of_getElem? (i := 936) (by decide +kernel), List.mem_of_getElem? (i := 937) (by decide +kernel)⟩
def lw_privs_3 : List (MethodName × Nat) := [(⟨"GatesBentModel", "change", "(III)I"⟩, 32), (⟨"GatesBentModel", "one", "(II)I"⟩, 32), (⟨"GatesBentModel", "isComer", "(I)Z"⟩, 32), (⟨"GatesBentModel", "out", "(I)I"⟩, 32), (⟨"GatesBentModel", "keep", "(I)V"⟩, 32), (⟨"GatesBentModel", "isBy", "(I)Z"⟩, 32), (⟨"GatesBentModel", "lets", "(II)Z"⟩, 32), (⟨"GatesBentModel", "helps", "(II)I"⟩, 32), (⟨"GatesBentModel", "readFor", "(II)V"⟩, 32), (⟨"GatesBentModel", "readAll", "()Z"⟩, 32), (⟨"GatesBentModel", "clause", "()V"⟩, 32), (⟨"GatesBentModel", "isAt", "(I)Z"⟩, 32), (⟨"GatesBentModel", "takes", "(I)V"⟩, 32), (⟨"GatesBentModel", "number", "()I"⟩, 32), (⟨"GatesBentModel", "isDigit", "()Z"⟩, 32), (⟨"GatesBentModel", "any", "()Z"⟩, 32)]
theorem lw_r3 : ∀ q ∈ lw_privs_3, lw_okq q := List.forall_mem_cons.mpr ⟨lw_p32, List.forall_mem_cons.mpr ⟨lw_p33, List.forall_mem_cons.mpr ⟨lw_p34, List.forall_mem_cons.mpr ⟨lw_p35, List.forall_mem_cons.mpr ⟨lw_p36, List.forall_mem_cons.mpr ⟨lw_p37, List.forall_mem_cons.mpr ⟨lw_p38, List.forall_mem_cons.mpr ⟨lw_p39, List.forall_mem_cons.mpr ⟨lw_p40, List.forall_mem_cons.mpr ⟨lw_p41, List.forall_mem_cons.mpr ⟨lw_p42, List.forall_mem_cons.mpr ⟨lw_p43, List.forall_mem_cons.mpr ⟨lw_p44, List.forall_mem_cons.mpr ⟨lw_p45, List.forall_mem_cons.mpr ⟨lw_p46, List.forall_mem_cons.mpr ⟨lw_p47, fun _ h => absurd h List.not_mem_nil⟩⟩⟩⟩⟩⟩⟩⟩⟩⟩⟩⟩⟩⟩⟩⟩
theorem lw_p48 : lw_okq (⟨"GatesBentModel", "both", "()Z"⟩, 32) := ⟨⟨by decide +kernel, by decide +kernel⟩, List.mem_of_getElem? (i := 750) (by decide +kernel), List.mem_of_getElem? (i := 940) (by decide +kernel), List.mem_of_getElem? (i := 941) (by decide +kernel)⟩
theorem lw_p49 : lw_okq (⟨"GatesBentModel", "factor", "()Z"⟩, 32) := ⟨⟨by decide +kernel, by decide +kernel⟩, List.mem_of_getElem? (i := 750) (by decide +kernel), List.mem_of_getElem? (i := 944) (by decide +kernel), List.mem_of_getElem? (i := 945) (by decide +kernel)⟩
theorem lw_p50 : lw_okq (⟨"GatesBentModel", "test", "()Z"⟩, 32) := ⟨⟨by decide +kernel, by decide +kernel⟩, List.mem_of_getElem? (i := 750) (by decide +kernel), List.mem_of_getElem? (i := 948) (by decide +kernel), List.mem_of_getElem? (i := 949) (by decide +kernel)⟩
theorem lw_p51 : lw_okq (⟨"GatesBentModel", "known", "(I)I"⟩, 32) := ⟨⟨by decide +kernel, by decide +kernel⟩, List.mem_of_getElem? (i := 750) (by decide +kernel), List.mem_of_getElem? (i := 952) (by decide +kernel), List.mem_of_getElem? (i := 953) (by decide +kernel)⟩
theorem lw_p52 : lw_okq (⟨"GatesBentModel", "walkAt", "(II)I"⟩, 32) := ⟨⟨by decide +kernel, by decide +kernel⟩, List.mem_of_getElem? (i := 750) (by decide +kernel), List.mem_of_getElem? (i := 956) (by decide +kernel), List.mem_of_getElem? (i := 957) (by decide +kernel)⟩
theorem lw_p53 : lw_okq (⟨"GatesBentModel", "likeTo", "(IIII)I"⟩, 32) := ⟨⟨by decide +kernel, by decide +kernel⟩, List.mem_of_getElem? (i := 750) (by decide +kernel), List.mem_of_getElem? (i := 960) (by decide +kernel), List.mem_of_getElem? (i := 961) (by decide +kernel)⟩
theorem lw_p54 : lw_okq (⟨"GatesBentModel", "day", "()V"⟩, 32) := ⟨⟨by decide +kernel, by decide +kernel⟩, List.mem_of_getElem? (i := 750) (by decide +kernel), List.mem_of_getElem? (i := 968) (by decide +kernel), List.mem_of_getElem? (i := 969) (by decide +kernel)⟩
theorem lw_p55 : lw_okq (⟨"GatesBentModel", "ageNow", "()I"⟩, 32) := ⟨⟨by decide +kernel, by decide +kernel⟩, List.mem_of_getElem? (i := 750) (by decide +kernel), List.mem_of_getElem? (i := 972) (by decide +kernel), List.mem_of_getElem? (i := 973) (by decide +kernel)⟩
theorem lw_p56 : lw_okq (⟨"GatesBentModel", "lay", "(I)V"⟩, 32) := ⟨⟨by decide +kernel, by decide +kernel⟩, List.mem_of_getElem? (i := 750) (by decide +kernel), List.mem_of_getElem? (i := 976) (by decide +kernel), List.mem_of_getElem? (i := 977) (by decide +kernel)⟩
theorem lw_p57 : lw_okq (⟨"GatesBentModel", "nearest", "(II)I"⟩, 32) := ⟨⟨by decide +kernel, by decide +kernel⟩, List.mem_of_getElem? (i := 750) (by decide +kernel), List.mem_of_getElem? (i := 980) (by decide +kernel), List.mem_of_getElem? (i := 981) (by decide +kernel)⟩
theorem lw_p58 : lw_okq (⟨"GatesBentModel", "taught", "(II)I"⟩, 32) := ⟨⟨by decide +kernel, by decide +kernel⟩, List.mem_of_getElem? (i := 750) (by decide +kernel), List.mem_of_getElem? (i := 1012) (by decide +kernel), List.mem_of_getElem? (i := 1013) (by decide +kernel)⟩
theorem lw_p59 : lw_okq (⟨"GatesBentModel", "needNow", "()I"⟩, 32) := ⟨⟨by decide +kernel, by decide +kernel⟩, List.mem_of_getElem? (i := 750) (by decide +kernel), List.mem_of_getElem? (i := 1020) (by decide +kernel), List.mem_of_getElem? (i := 1021) (by decide +kernel)⟩
theorem lw_p60 : lw_okq (⟨"GatesBentModel", "bys", "()I"⟩, 32) := ⟨⟨by decide +kernel, by decide +kernel⟩, List.mem_of_getElem? (i := 750) (by decide +kernel), List.mem_of_getElem? (i := 1024) (by decide +kernel), List.mem_of_getElem? (i := 1025) (by decide +kernel)⟩
theorem lw_p61 : lw_okq (⟨"GatesBentModel", "passes", "()I"⟩, 32) := ⟨⟨by decide +kernel, by decide +kernel⟩, List.mem_of_getElem? (i := 750) (by decide +kernel), List.mem_of_getElem? (i := 1028) (by decide +kernel), List.mem_of_getElem? (i := 1029) (by decide +kernel)⟩
theorem lw_p62 : lw_okq (⟨"GatesBentModel", "master", "(IZ)I"⟩, 32) := ⟨⟨by decide +kernel, by decide +kernel⟩, List.mem_of_getElem? (i := 750) (by decide +kernel), List.mem_of_getElem? (i := 1032) (by decide +kernel), List.mem_of_getElem? (i := 1033) (by decide +kernel)⟩
theorem lw_p63 : lw_okq (⟨"GatesBentModel", "days", "(I)V"⟩, 32) := ⟨⟨by decide +kernel, by decide +kernel⟩, List.mem_of_getElem? (i := 750) (by decide +kernel), List.mem_of_getElem? (i := 1041) (by decide +kernel), List.mem_of_getElem? (i := 1042) (by decide +kernel)⟩
def lw_privs_4 : List (MethodName × Nat) := [(⟨"GatesBentModel", "both", "()Z"⟩, 32), (⟨"GatesBentModel", "factor", "()Z"⟩, 32), (⟨"GatesBentModel", "test", "()Z"⟩, 32), (⟨"GatesBentModel", "known", "(I)I"⟩, 32), (⟨"GatesBentModel", "walkAt", "(II)I"⟩, 32), (⟨"GatesBentModel", "likeTo", "(IIII)I"⟩, 32), (⟨"GatesBentModel", "day", "()V"⟩, 32), (⟨"GatesBentModel", "ageNow", "()I"⟩, 32), (⟨"GatesBentModel", "lay", "(I)V"⟩, 32), (⟨"GatesBentModel", "nearest", "(II)I"⟩, 32), (⟨"GatesBentModel", "taught", "(II)I"⟩, 32), (⟨"GatesBentModel", "needNow", "()I"⟩, 32), (⟨"GatesBentModel", "bys", "()I"⟩, 32), (⟨"GatesBentModel", "passes", "()I"⟩, 32), (⟨"GatesBentModel", "master", "(IZ)I"⟩, 32), (⟨"GatesBentModel", "days", "(I)V"⟩, 32)]
theorem lw_r4 : ∀ q ∈ lw_privs_4, lw_okq q := List.forall_mem_cons.mpr ⟨lw_p48, List.forall_mem_cons.mpr ⟨lw_p49, List.forall_mem_cons.mpr ⟨lw_p50, List.forall_mem_cons.mpr ⟨lw_p51, List.forall_mem_cons.mpr ⟨lw_p52, List.forall_mem_cons.mpr ⟨lw_p53, List.forall_mem_cons.mpr ⟨lw_p54, List.forall_mem_cons.mpr ⟨lw_p55, List.forall_mem_cons.mpr ⟨lw_p56, List.forall_mem_cons.mpr ⟨lw_p57, List.forall_mem_cons.mpr ⟨lw_p58, List.forall_mem_cons.mpr ⟨lw_p59, List.forall_mem_cons.mpr ⟨lw_p60, List.forall_mem_cons.mpr ⟨lw_p61, List.forall_mem_cons.mpr ⟨lw_p62, List.forall_mem_cons.mpr ⟨lw_p63, fun _ h => absurd h List.not_mem_nil⟩⟩⟩⟩⟩⟩⟩⟩⟩⟩⟩⟩⟩⟩⟩⟩
theorem lw_p64 : lw_okq (⟨"GatesBentModel", "learn", "(III)V"⟩, 32) := ⟨⟨by decide +kernel, by decide +kernel⟩, List.mem_of_getElem? (i := 750) (by decide +kernel), List.mem_of_getElem? (i := 1053) (by decide +kernel), List.mem_of_getElem? (i := 1054) (by decide +kernel)⟩
theorem lw_p65 : lw_okq (⟨"GatesBentModel", "letsAll", "(I)I"⟩, 32) := ⟨⟨by decide +kernel, by decide +kernel⟩, List.mem_of_getElem? (i := 750) (by decide +kernel), List.mem_of_getElem? (i := 1057) (by decide +kernel), List.mem_of_getElem? (i := 1058) (by decide +kernel)⟩
theorem lw_p66 : lw_okq (⟨"GatesBentModel", "isSo", "(I)Z"⟩, 32) := ⟨⟨by decide +kernel, by decide +kernel⟩, List.mem_of_getElem? (i := 750) (by decide +kernel), List.mem_of_getElem? (i := 1073) (by decide +kernel), List.mem_of_getElem? (i := 1074) (by decide +kernel)⟩
theorem lw_p67 : lw_okq (⟨"GatesBentModel", "isAllSo", "(I)Z"⟩, 32) := ⟨⟨by decide +kernel, by decide +kernel⟩, List.mem_of_getElem? (i := 750) (by decide +kernel), List.mem_of_getElem? (i := 1081) (by decide +kernel), List.mem_of_getElem? (i := 1082) (by decide +kernel)⟩
theorem lw_p68 : lw_okq (⟨"GatesBentModel", "all", "(III)I"⟩, 32) := ⟨⟨by decide +kernel, by decide +kernel⟩, List.mem_of_getElem? (i := 750) (by decide +kernel), List.mem_of_getElem? (i := 1118) (by decide +kernel), List.mem_of_getElem? (i := 1119) (by decide +kernel)⟩
theorem lw_p69 : lw_okq (⟨"GatesBentModel", "byKind", "(IIII)I"⟩, 32) := ⟨⟨by decide +kernel, by decide +kernel⟩, List.mem_of_getElem? (i := 750) (by decide +kernel), List.mem_of_getElem? (i := 1122) (by decide +kernel), List.mem_of_getElem? (i := 1123) (by decide +kernel)⟩
theorem lw_p70 : lw_okq (⟨"GatesBentModel", "body", "(I)I"⟩, 32) := ⟨⟨by decide +kernel, by decide +kernel⟩, List.mem_of_getElem? (i := 750) (by decide +kernel), List.mem_of_getElem? (i := 1126) (by decide +kernel), List.mem_of_getElem? (i := 1127) (by decide +kernel)⟩
def lw_privs_5 : List (MethodName × Nat) := [(⟨"GatesBentModel", "learn", "(III)V"⟩, 32), (⟨"GatesBentModel", "letsAll", "(I)I"⟩, 32), (⟨"GatesBentModel", "isSo", "(I)Z"⟩, 32), (⟨"GatesBentModel", "isAllSo", "(I)Z"⟩, 32), (⟨"GatesBentModel", "all", "(III)I"⟩, 32), (⟨"GatesBentModel", "byKind", "(IIII)I"⟩, 32), (⟨"GatesBentModel", "body", "(I)I"⟩, 32)]
theorem lw_r5 : ∀ q ∈ lw_privs_5, lw_okq q := List.forall_mem_cons.mpr ⟨lw_p64, List.forall_mem_cons.mpr ⟨lw_p65, List.forall_mem_cons.mpr ⟨lw_p66, List.forall_mem_cons.mpr ⟨lw_p67, List.forall_mem_cons.mpr ⟨lw_p68, List.forall_mem_cons.mpr ⟨lw_p69, List.forall_mem_cons.mpr ⟨lw_p70, fun _ h => absurd h List.not_mem_nil⟩⟩⟩⟩⟩⟩⟩
def lw_privs : List (MethodName × Nat) := lw_privs_1 ++ (lw_privs_2 ++ (lw_privs_3 ++ (lw_privs_4 ++ (lw_privs_5))))
def lw_tbl : List Cond := k2_sels lw_privs ++ tables_1
theorem lw_privs_ok : ∀ q ∈ lw_privs, lw_okq q := by
  show ∀ q ∈ lw_privs_1 ++ (lw_privs_2 ++ (lw_privs_3 ++ (lw_privs_4 ++ (lw_privs_5)))), lw_okq q
  exact List.forall_mem_append.mpr ⟨lw_r1, List.forall_mem_append.mpr ⟨lw_r2, List.forall_mem_append.mpr ⟨lw_r3, List.forall_mem_append.mpr ⟨lw_r4, lw_r5⟩⟩⟩⟩
def RX0 : String := "GatesBent$Comer"
def TX0 : u_T := fun k => match k with
  | 0 => ("GatesBent$Comer", "number", "I", false)
  | 1 => ("GatesBent$Comer", "kind", "I", false)
  | 2 => ("GatesBent$Comer", "v", "I", false)
  | 3 => ("GatesBent$Comer", "walk", "I", false)
  | 4 => ("GatesBent$Comer", "gate", "I", false)
  | 5 => ("GatesBent$Comer", "tries", "I", false)
  | 6 => ("GatesBent$Comer", "passed", "I", false)
  | _ => ("GatesBent$Comer", "row", "[I", true)
def tyX0 : Nat → FieldType := fun k => match k with
  | 0 => .int
  | 1 => .int
  | 2 => .int
  | 3 => .int
  | 4 => .int
  | 5 => .int
  | 6 => .int
  | _ => .array .int
abbrev wsX00 : List Cond := u_ws RX0 TX0 8
theorem nmX0 : ∀ a, a < 8 → ∀ b, b < 8 → a ≠ b → (TX0 a).2.1 ≠ (TX0 b).2.1 := by decide +kernel
theorem tyX0_ok : ∀ k, k < 8 → parseFieldDescriptor (TX0 k).2.2.1 = some (tyX0 k) := by decide +kernel
abbrev cX0_init : ByteArray := prog_2_method_1_code
def yX0_init : MethodName := ⟨RX0, "<init>", "(I)V"⟩
abbrev cX0_become : ByteArray := prog_2_method_2_code
def yX0_become : MethodName := ⟨RX0, "become", "(LGatesBent$Comer;)V"⟩
abbrev cX0_begin : ByteArray := prog_2_method_3_code
def yX0_begin : MethodName := ⟨RX0, "begin", "(IIII)V"⟩
def RX1 : String := "GatesBent$Gate"
def TX1 : u_T := fun k => match k with
  | 0 => ("GatesBent$Gate", "walks", "[I", true)
  | _ => ("GatesBent$Gate", "known", "I", false)
def tyX1 : Nat → FieldType := fun k => match k with
  | 0 => .array .int
  | _ => .int
abbrev wsX10 : List Cond := u_ws RX1 TX1 2
theorem nmX1 : ∀ a, a < 2 → ∀ b, b < 2 → a ≠ b → (TX1 a).2.1 ≠ (TX1 b).2.1 := by decide +kernel
theorem tyX1_ok : ∀ k, k < 2 → parseFieldDescriptor (TX1 k).2.2.1 = some (tyX1 k) := by decide +kernel
abbrev cX1_init : ByteArray := prog_3_method_1_code
def yX1_init : MethodName := ⟨RX1, "<init>", "()V"⟩
abbrev cX1_become : ByteArray := prog_3_method_2_code
def yX1_become : MethodName := ⟨RX1, "become", "(LGatesBent$Gate;)V"⟩
abbrev cX1_learn : ByteArray := prog_3_method_3_code
def yX1_learn : MethodName := ⟨RX1, "learn", "(I)I"⟩
abbrev cX1_leastAlike : ByteArray := prog_3_method_4_code
def yX1_leastAlike : MethodName := ⟨RX1, "leastAlike", "(I)I"⟩
abbrev cX1_knowsAlike : ByteArray := prog_3_method_5_code
def yX1_knowsAlike : MethodName := ⟨RX1, "knowsAlike", "(II)Z"⟩
def RX2 : String := "GatesBent$House"
def TX2 : u_T := fun k => match k with
  | 0 => ("GatesBent$House", "ops", "[I", true)
  | 1 => ("GatesBent$House", "numbers", "[I", true)
  | 2 => ("GatesBent$House", "length", "I", false)
  | 3 => ("GatesBent$House", "need", "I", false)
  | _ => ("GatesBent$House", "age", "I", false)
def tyX2 : Nat → FieldType := fun k => match k with
  | 0 => .array .int
  | 1 => .array .int
  | 2 => .int
  | 3 => .int
  | _ => .int
abbrev wsX20 : List Cond := u_ws RX2 TX2 5
theorem nmX2 : ∀ a, a < 5 → ∀ b, b < 5 → a ≠ b → (TX2 a).2.1 ≠ (TX2 b).2.1 := by decide +kernel
theorem tyX2_ok : ∀ k, k < 5 → parseFieldDescriptor (TX2 k).2.2.1 = some (tyX2 k) := by decide +kernel
abbrev cX2_init : ByteArray := prog_4_method_1_code
def yX2_init : MethodName := ⟨RX2, "<init>", "(I)V"⟩
abbrev cX2_clear : ByteArray := prog_4_method_2_code
def yX2_clear : MethodName := ⟨RX2, "clear", "()V"⟩
abbrev cX2_put : ByteArray := prog_4_method_3_code
def yX2_put : MethodName := ⟨RX2, "put", "(II)V"⟩
abbrev cX2_bonus : ByteArray := prog_4_method_4_code
def yX2_bonus : MethodName := ⟨RX2, "bonus", "(LGatesBent$Comer;II)I"⟩
abbrev cX2_valueOf : ByteArray := prog_4_method_5_code
def yX2_valueOf : MethodName := ⟨RX2, "valueOf", "(ILGatesBent$Comer;II)I"⟩
abbrev cX2_isSo : ByteArray := prog_4_method_6_code
def yX2_isSo : MethodName := ⟨RX2, "isSo", "(III)Z"⟩
def RX3 : String := "GatesBent$Reader"
def TX3 : u_T := fun k => match k with
  | 0 => ("GatesBent$Reader", "text", "[B", true)
  | 1 => ("GatesBent$Reader", "length", "I", false)
  | 2 => ("GatesBent$Reader", "place", "I", false)
  | _ => ("GatesBent$Reader", "house", "LGatesBent$House;", false)
def tyX3 : Nat → FieldType := fun k => match k with
  | 0 => .array .byte
  | 1 => .int
  | 2 => .int
  | _ => .object "GatesBent$House"
abbrev wsX30 : List Cond := u_ws RX3 TX3 4
theorem nmX3 : ∀ a, a < 4 → ∀ b, b < 4 → a ≠ b → (TX3 a).2.1 ≠ (TX3 b).2.1 := by decide +kernel
theorem tyX3_ok : ∀ k, k < 4 → parseFieldDescriptor (TX3 k).2.2.1 = some (tyX3 k) := by decide +kernel
abbrev cX3_init : ByteArray := prog_5_method_1_code
def yX3_init : MethodName := ⟨RX3, "<init>", "()V"⟩
abbrev cX3_readHouse : ByteArray := prog_5_method_2_code
def yX3_readHouse : MethodName := ⟨RX3, "readHouse", "(LGatesBent$House;)Z"⟩
abbrev cX3_readClause : ByteArray := prog_5_method_3_code
def yX3_readClause : MethodName := ⟨RX3, "readClause", "()Z"⟩
abbrev cX3_readWord : ByteArray := prog_5_method_4_code
def yX3_readWord : MethodName := ⟨RX3, "readWord", "()I"⟩
abbrev cX3_wordOf : ByteArray := prog_5_method_5_code
def yX3_wordOf : MethodName := ⟨RX3, "wordOf", "(I)Ljava/lang/String;"⟩
abbrev cX3_sameSigns : ByteArray := prog_5_method_6_code
def yX3_sameSigns : MethodName := ⟨RX3, "sameSigns", "(Ljava/lang/String;)I"⟩
abbrev cX3_readEither : ByteArray := prog_5_method_7_code
def yX3_readEither : MethodName := ⟨RX3, "readEither", "(I)Z"⟩
abbrev cX3_readFactor : ByteArray := prog_5_method_8_code
def yX3_readFactor : MethodName := ⟨RX3, "readFactor", "(I)Z"⟩
abbrev cX3_readTest : ByteArray := prog_5_method_9_code
def yX3_readTest : MethodName := ⟨RX3, "readTest", "()Z"⟩
abbrev cX3_readNumber : ByteArray := prog_5_method_10_code
def yX3_readNumber : MethodName := ⟨RX3, "readNumber", "()I"⟩
abbrev cX3_readOneOf : ByteArray := prog_5_method_11_code
def yX3_readOneOf : MethodName := ⟨RX3, "readOneOf", "(Ljava/lang/String;)I"⟩
abbrev cX3_readSign : ByteArray := prog_5_method_12_code
def yX3_readSign : MethodName := ⟨RX3, "readSign", "(I)Z"⟩
abbrev cX3_signAt : ByteArray := prog_5_method_13_code
def yX3_signAt : MethodName := ⟨RX3, "signAt", "()I"⟩
def RX4 : String := "GatesBent$Rows"
def TX4 : u_T := fun k => match k with
  | 0 => ("GatesBent$Rows", "first", "[I", true)
  | 1 => ("GatesBent$Rows", "second", "[I", true)
  | 2 => ("GatesBent$Rows", "third", "[I", true)
  | _ => ("GatesBent$Rows", "many", "I", false)
def tyX4 : Nat → FieldType := fun k => match k with
  | 0 => .array .int
  | 1 => .array .int
  | 2 => .array .int
  | _ => .int
abbrev wsX40 : List Cond := u_ws RX4 TX4 4
theorem nmX4 : ∀ a, a < 4 → ∀ b, b < 4 → a ≠ b → (TX4 a).2.1 ≠ (TX4 b).2.1 := by decide +kernel
theorem tyX4_ok : ∀ k, k < 4 → parseFieldDescriptor (TX4 k).2.2.1 = some (tyX4 k) := by decide +kernel
abbrev cX4_init : ByteArray := prog_6_method_1_code
def yX4_init : MethodName := ⟨RX4, "<init>", "(I)V"⟩
abbrev cX4_become : ByteArray := prog_6_method_2_code
def yX4_become : MethodName := ⟨RX4, "become", "(LGatesBent$Rows;)V"⟩
abbrev cX4_add : ByteArray := prog_6_method_3_code
def yX4_add : MethodName := ⟨RX4, "add", "(III)I"⟩
abbrev cX4_clear : ByteArray := prog_6_method_4_code
def yX4_clear : MethodName := ⟨RX4, "clear", "()I"⟩
def RX5 : String := "GatesBent$Tape"
def TX5 : u_T := fun k => match k with
  | 0 => ("GatesBent$Tape", "items", "[J", true)
  | 1 => ("GatesBent$Tape", "sort", "I", false)
  | _ => ("GatesBent$Tape", "length", "I", false)
def tyX5 : Nat → FieldType := fun k => match k with
  | 0 => .array .long
  | 1 => .int
  | _ => .int
abbrev wsX50 : List Cond := u_ws RX5 TX5 3
theorem nmX5 : ∀ a, a < 3 → ∀ b, b < 3 → a ≠ b → (TX5 a).2.1 ≠ (TX5 b).2.1 := by decide +kernel
theorem tyX5_ok : ∀ k, k < 3 → parseFieldDescriptor (TX5 k).2.2.1 = some (tyX5 k) := by decide +kernel
abbrev cX5_init : ByteArray := prog_7_method_1_code
def yX5_init : MethodName := ⟨RX5, "<init>", "()V"⟩
abbrev cX5_become : ByteArray := prog_7_method_2_code
def yX5_become : MethodName := ⟨RX5, "become", "(II)V"⟩
abbrev cX5_hasPlace : ByteArray := prog_7_method_3_code
def yX5_hasPlace : MethodName := ⟨RX5, "hasPlace", "(I)Z"⟩
abbrev cX5_hasPlaces : ByteArray := prog_7_method_4_code
def yX5_hasPlaces : MethodName := ⟨RX5, "hasPlaces", "(II)Z"⟩
abbrev cX5_put : ByteArray := prog_7_method_5_code
def yX5_put : MethodName := ⟨RX5, "put", "(IJ)V"⟩
abbrev cX5_cut : ByteArray := prog_7_method_6_code
def yX5_cut : MethodName := ⟨RX5, "cut", "(J)J"⟩
def RX6 : String := "GatesBent$Town"
def TX6 : u_T := fun k => match k with
  | 0 => ("GatesBent$Town", "gates", "[LGatesBent$Gate;", true)
  | 1 => ("GatesBent$Town", "comers", "[LGatesBent$Comer;", true)
  | 2 => ("GatesBent$Town", "seen", "LGatesBent$Rows;", true)
  | 3 => ("GatesBent$Town", "plan", "LGatesBent$Rows;", true)
  | 4 => ("GatesBent$Town", "book", "LGatesBent$Rows;", true)
  | 5 => ("GatesBent$Town", "many", "I", false)
  | 6 => ("GatesBent$Town", "day", "I", false)
  | _ => ("GatesBent$Town", "house", "LGatesBent$House;", false)
def tyX6 : Nat → FieldType := fun k => match k with
  | 0 => .array (.object "GatesBent$Gate")
  | 1 => .array (.object "GatesBent$Comer")
  | 2 => .object "GatesBent$Rows"
  | 3 => .object "GatesBent$Rows"
  | 4 => .object "GatesBent$Rows"
  | 5 => .int
  | 6 => .int
  | _ => .object "GatesBent$House"
abbrev wsX60 : List Cond := u_ws RX6 TX6 8
theorem nmX6 : ∀ a, a < 8 → ∀ b, b < 8 → a ≠ b → (TX6 a).2.1 ≠ (TX6 b).2.1 := by decide +kernel
theorem tyX6_ok : ∀ k, k < 8 → parseFieldDescriptor (TX6 k).2.2.1 = some (tyX6 k) := by decide +kernel
abbrev cX6_init : ByteArray := prog_8_method_1_code
def yX6_init : MethodName := ⟨RX6, "<init>", "(LGatesBent$House;)V"⟩
abbrev cX6_become : ByteArray := prog_8_method_2_code
def yX6_become : MethodName := ⟨RX6, "become", "(LGatesBent$Town;)V"⟩
abbrev cX6_likeToWalk : ByteArray := prog_8_method_3_code
def yX6_likeToWalk : MethodName := ⟨RX6, "likeToWalk", "(LGatesBent$Comer;II)I"⟩
abbrev cX6_likeBySum : ByteArray := prog_8_method_4_code
def yX6_likeBySum : MethodName := ⟨RX6, "likeBySum", "(LGatesBent$Comer;II)I"⟩
abbrev cX6_marksNeeded : ByteArray := prog_8_method_5_code
def yX6_marksNeeded : MethodName := ⟨RX6, "marksNeeded", "(LGatesBent$Comer;I)I"⟩
abbrev cX6_letsBy : ByteArray := prog_8_method_6_code
def yX6_letsBy : MethodName := ⟨RX6, "letsBy", "(LGatesBent$Comer;I)Z"⟩
abbrev cX6_whoIsLet : ByteArray := prog_8_method_7_code
def yX6_whoIsLet : MethodName := ⟨RX6, "whoIsLet", "()I"⟩
abbrev cX6_passedTogether : ByteArray := prog_8_method_8_code
def yX6_passedTogether : MethodName := ⟨RX6, "passedTogether", "()I"⟩
abbrev cX6_goDays : ByteArray := prog_8_method_9_code
def yX6_goDays : MethodName := ⟨RX6, "goDays", "(I)V"⟩
abbrev cX6_spendDay : ByteArray := prog_8_method_10_code
def yX6_spendDay : MethodName := ⟨RX6, "spendDay", "(LGatesBent$Comer;)V"⟩
abbrev cX6_goByPlan : ByteArray := prog_8_method_11_code
def yX6_goByPlan : MethodName := ⟨RX6, "goByPlan", "()V"⟩
def RX7 : String := "GatesBent"
def TX7 : u_T := fun k => match k with
  | 0 => ("GatesBent", "now", "LGatesBent$Town;", true)
  | 1 => ("GatesBent", "kept", "LGatesBent$Town;", true)
  | 2 => ("GatesBent", "ahead", "LGatesBent$Town;", true)
  | 3 => ("GatesBent", "isImageTaken", "Z", false)
  | 4 => ("GatesBent", "reader", "LGatesBent$Reader;", true)
  | 5 => ("GatesBent", "houses", "[LGatesBent$House;", true)
  | 6 => ("GatesBent", "houseCount", "I", false)
  | 7 => ("GatesBent", "bodies", "[I", true)
  | 8 => ("GatesBent", "bodiesRun", "I", false)
  | 9 => ("GatesBent", "tapes", "[LGatesBent$Tape;", true)
  | 10 => ("GatesBent", "trial", "LGatesBent$Gate;", true)
  | 11 => ("GatesBent", "probe", "LGatesBent$Comer;", true)
  | 12 => ("GatesBent", "neededByComer", "[I", true)
  | _ => ("GatesBent", "neededByGate", "[I", true)
def tyX7 : Nat → FieldType := fun k => match k with
  | 0 => .object "GatesBent$Town"
  | 1 => .object "GatesBent$Town"
  | 2 => .object "GatesBent$Town"
  | 3 => .boolean
  | 4 => .object "GatesBent$Reader"
  | 5 => .array (.object "GatesBent$House")
  | 6 => .int
  | 7 => .array .int
  | 8 => .int
  | 9 => .array (.object "GatesBent$Tape")
  | 10 => .object "GatesBent$Gate"
  | 11 => .object "GatesBent$Comer"
  | 12 => .array .int
  | _ => .array .int
abbrev wsX70 : List Cond := u_ws RX7 TX7 14
theorem nmX7 : ∀ a, a < 14 → ∀ b, b < 14 → a ≠ b → (TX7 a).2.1 ≠ (TX7 b).2.1 := by decide +kernel
theorem tyX7_ok : ∀ k, k < 14 → parseFieldDescriptor (TX7 k).2.2.1 = some (tyX7 k) := by decide +kernel
abbrev cX7_init : ByteArray := prog_1_method_1_code
def yX7_init : MethodName := ⟨RX7, "<init>", "()V"⟩
abbrev cX7_alike : ByteArray := prog_1_method_2_code
def yX7_alike : MethodName := ⟨RX7, "alike", "(II)I"⟩
abbrev cX7_isIn : ByteArray := prog_1_method_3_code
def yX7_isIn : MethodName := ⟨RX7, "isIn", "(II)Z"⟩
abbrev cX7_isComer : ByteArray := prog_1_method_4_code
def yX7_isComer : MethodName := ⟨RX7, "isComer", "(I)Z"⟩
abbrev cX7_lowest : ByteArray := prog_1_method_5_code
def yX7_lowest : MethodName := ⟨RX7, "lowest", "(III)J"⟩
abbrev cX7_aheadBy : ByteArray := prog_1_method_6_code
def yX7_aheadBy : MethodName := ⟨RX7, "aheadBy", "(I)LGatesBent$Town;"⟩
abbrev cX7_comer : ByteArray := prog_1_method_7_code
def yX7_comer : MethodName := ⟨RX7, "comer", "(IIII)I"⟩
abbrev cX7_of : ByteArray := prog_1_method_8_code
def yX7_of : MethodName := ⟨RX7, "of", "(II)I"⟩
abbrev cX7_nearest : ByteArray := prog_1_method_9_code
def yX7_nearest : MethodName := ⟨RX7, "nearest", "(LGatesBent$Comer;I)I"⟩
abbrev cX7_daysUntilOut : ByteArray := prog_1_method_10_code
def yX7_daysUntilOut : MethodName := ⟨RX7, "daysUntilOut", "(I)I"⟩
abbrev cX7_set : ByteArray := prog_1_method_11_code
def yX7_set : MethodName := ⟨RX7, "set", "(III)I"⟩
abbrev cX7_like : ByteArray := prog_1_method_12_code
def yX7_like : MethodName := ⟨RX7, "like", "(III)I"⟩
abbrev cX7_teach : ByteArray := prog_1_method_13_code
def yX7_teach : MethodName := ⟨RX7, "teach", "(II)I"⟩
abbrev cX7_forget : ByteArray := prog_1_method_14_code
def yX7_forget : MethodName := ⟨RX7, "forget", "(I)I"⟩
abbrev cX7_row : ByteArray := prog_1_method_15_code
def yX7_row : MethodName := ⟨RX7, "row", "(III)I"⟩
abbrev cX7_feed : ByteArray := prog_1_method_16_code
def yX7_feed : MethodName := ⟨RX7, "feed", "(I)I"⟩
abbrev cX7_house : ByteArray := prog_1_method_17_code
def yX7_house : MethodName := ⟨RX7, "house", "()I"⟩
abbrev cX7_told : ByteArray := prog_1_method_18_code
def yX7_told : MethodName := ⟨RX7, "told", "(I)I"⟩
abbrev cX7_askNeededByComer : ByteArray := prog_1_method_19_code
def yX7_askNeededByComer : MethodName := ⟨RX7, "askNeededByComer", "(I)V"⟩
abbrev cX7_master : ByteArray := prog_1_method_20_code
def yX7_master : MethodName := ⟨RX7, "master", "(I)I"⟩
abbrev cX7_letByWalkAlone : ByteArray := prog_1_method_21_code
def yX7_letByWalkAlone : MethodName := ⟨RX7, "letByWalkAlone", "(I)I"⟩
abbrev cX7_pass : ByteArray := prog_1_method_22_code
def yX7_pass : MethodName := ⟨RX7, "pass", "(I)I"⟩
abbrev cX7_on : ByteArray := prog_1_method_23_code
def yX7_on : MethodName := ⟨RX7, "on", "(II)I"⟩
abbrev cX7_lessons : ByteArray := prog_1_method_24_code
def yX7_lessons : MethodName := ⟨RX7, "lessons", "(III)I"⟩
abbrev cX7_bestLessons : ByteArray := prog_1_method_25_code
def yX7_bestLessons : MethodName := ⟨RX7, "bestLessons", "(II)I"⟩
abbrev cX7_pupil : ByteArray := prog_1_method_26_code
def yX7_pupil : MethodName := ⟨RX7, "pupil", "(III)I"⟩
abbrev cX7_letByLessons : ByteArray := prog_1_method_27_code
def yX7_letByLessons : MethodName := ⟨RX7, "letByLessons", "(III)I"⟩
abbrev cX7_feign : ByteArray := prog_1_method_28_code
def yX7_feign : MethodName := ⟨RX7, "feign", "(III)I"⟩
abbrev cX7_see : ByteArray := prog_1_method_29_code
def yX7_see : MethodName := ⟨RX7, "see", "(IIZ)I"⟩
abbrev cX7_wrong : ByteArray := prog_1_method_30_code
def yX7_wrong : MethodName := ⟨RX7, "wrong", "()I"⟩
abbrev cX7_can : ByteArray := prog_1_method_31_code
def yX7_can : MethodName := ⟨RX7, "can", "(III)I"⟩
abbrev cX7_walksBySeen : ByteArray := prog_1_method_32_code
def yX7_walksBySeen : MethodName := ⟨RX7, "walksBySeen", "(II)I"⟩
abbrev cX7_numbersBySeen : ByteArray := prog_1_method_33_code
def yX7_numbersBySeen : MethodName := ⟨RX7, "numbersBySeen", "(II)I"⟩
abbrev cX7_askNeededByGate : ByteArray := prog_1_method_34_code
def yX7_askNeededByGate : MethodName := ⟨RX7, "askNeededByGate", "()V"⟩
abbrev cX7_isAllSeenSo : ByteArray := prog_1_method_35_code
def yX7_isAllSeenSo : MethodName := ⟨RX7, "isAllSeenSo", "()Z"⟩
abbrev cX7_odds : ByteArray := prog_1_method_36_code
def yX7_odds : MethodName := ⟨RX7, "odds", "(III)J"⟩
abbrev cX7_mean : ByteArray := prog_1_method_37_code
def yX7_mean : MethodName := ⟨RX7, "mean", "(II)J"⟩
abbrev cX7_plan : ByteArray := prog_1_method_38_code
def yX7_plan : MethodName := ⟨RX7, "plan", "(II)I"⟩
abbrev cX7_isInPlan : ByteArray := prog_1_method_39_code
def yX7_isInPlan : MethodName := ⟨RX7, "isInPlan", "(II)Z"⟩
abbrev cX7_ends : ByteArray := prog_1_method_40_code
def yX7_ends : MethodName := ⟨RX7, "ends", "(I)I"⟩
abbrev cX7_book : ByteArray := prog_1_method_41_code
def yX7_book : MethodName := ⟨RX7, "book", "(II)I"⟩
abbrev cX7_looked : ByteArray := prog_1_method_42_code
def yX7_looked : MethodName := ⟨RX7, "looked", "()I"⟩
abbrev cX7_judge : ByteArray := prog_1_method_43_code
def yX7_judge : MethodName := ⟨RX7, "judge", "(II)I"⟩
abbrev cX7_image : ByteArray := prog_1_method_44_code
def yX7_image : MethodName := ⟨RX7, "image", "()I"⟩
abbrev cX7_undo : ByteArray := prog_1_method_45_code
def yX7_undo : MethodName := ⟨RX7, "undo", "()I"⟩
abbrev cX7_act : ByteArray := prog_1_method_46_code
def yX7_act : MethodName := ⟨RX7, "act", "(III)I"⟩
abbrev cX7_startBody : ByteArray := prog_1_method_47_code
def yX7_startBody : MethodName := ⟨RX7, "startBody", "(I)V"⟩
abbrev cX7_walks : ByteArray := prog_1_method_48_code
def yX7_walks : MethodName := ⟨RX7, "walks", "(LGatesBent$Comer;III)I"⟩
abbrev cX7_knocks : ByteArray := prog_1_method_49_code
def yX7_knocks : MethodName := ⟨RX7, "knocks", "(LGatesBent$Comer;III)I"⟩
abbrev cX7_tells : ByteArray := prog_1_method_50_code
def yX7_tells : MethodName := ⟨RX7, "tells", "(LGatesBent$Comer;III)I"⟩
abbrev cX7_trace : ByteArray := prog_1_method_51_code
def yX7_trace : MethodName := ⟨RX7, "trace", "(I)I"⟩
abbrev cX7_taken : ByteArray := prog_1_method_52_code
def yX7_taken : MethodName := ⟨RX7, "taken", "(II)I"⟩
abbrev cX7_kindAbove : ByteArray := prog_1_method_53_code
def yX7_kindAbove : MethodName := ⟨RX7, "kindAbove", "(I)I"⟩
abbrev cX7_count : ByteArray := prog_1_method_54_code
def yX7_count : MethodName := ⟨RX7, "count", "(I)I"⟩
abbrev cX7_tape : ByteArray := prog_1_method_55_code
def yX7_tape : MethodName := ⟨RX7, "tape", "(III)I"⟩
abbrev cX7_item : ByteArray := prog_1_method_56_code
def yX7_item : MethodName := ⟨RX7, "item", "(IIJ)I"⟩
abbrev cX7_read : ByteArray := prog_1_method_57_code
def yX7_read : MethodName := ⟨RX7, "read", "(II)J"⟩
abbrev cX7_shift : ByteArray := prog_1_method_58_code
def yX7_shift : MethodName := ⟨RX7, "shift", "(IIIII)I"⟩
def RX8 : String := "GatesBentModel"
def TX8 : u_T := fun k => match k with
  | 0 => ("GatesBentModel", "now", "[I", true)
  | 1 => ("GatesBentModel", "minds", "[I", true)
  | 2 => ("GatesBentModel", "then", "[I", true)
  | 3 => ("GatesBentModel", "kept", "Z", false)
  | 4 => ("GatesBentModel", "text", "[I", true)
  | 5 => ("GatesBentModel", "texted", "I", false)
  | 6 => ("GatesBentModel", "rules", "[I", true)
  | 7 => ("GatesBentModel", "sizes", "[I", true)
  | 8 => ("GatesBentModel", "ruled", "I", false)
  | 9 => ("GatesBentModel", "read", "[I", true)
  | 10 => ("GatesBentModel", "size", "I", false)
  | 11 => ("GatesBentModel", "at", "I", false)
  | 12 => ("GatesBentModel", "well", "Z", false)
  | 13 => ("GatesBentModel", "within", "I", false)
  | 14 => ("GatesBentModel", "sum", "I", false)
  | 15 => ("GatesBentModel", "need", "I", false)
  | 16 => ("GatesBentModel", "age", "I", false)
  | 17 => ("GatesBentModel", "names", "[I", true)
  | 18 => ("GatesBentModel", "letters", "[C", true)
  | 19 => ("GatesBentModel", "words", "[C", true)
  | 20 => ("GatesBentModel", "given", "[I", true)
  | 21 => ("GatesBentModel", "best", "[I", true)
  | 22 => ("GatesBentModel", "most", "I", false)
  | 23 => ("GatesBentModel", "helped", "[I", true)
  | 24 => ("GatesBentModel", "above", "[I", true)
  | 25 => ("GatesBentModel", "bodies", "[I", true)
  | 26 => ("GatesBentModel", "trace", "[I", true)
  | 27 => ("GatesBentModel", "ran", "I", false)
  | 28 => ("GatesBentModel", "sorts", "[I", true)
  | 29 => ("GatesBentModel", "lengths", "[I", true)
  | 30 => ("GatesBentModel", "items", "[J", true)
  | _ => ("GatesBentModel", "moved", "[J", true)
def tyX8 : Nat → FieldType := fun k => match k with
  | 0 => .array .int
  | 1 => .array .int
  | 2 => .array .int
  | 3 => .boolean
  | 4 => .array .int
  | 5 => .int
  | 6 => .array .int
  | 7 => .array .int
  | 8 => .int
  | 9 => .array .int
  | 10 => .int
  | 11 => .int
  | 12 => .boolean
  | 13 => .int
  | 14 => .int
  | 15 => .int
  | 16 => .int
  | 17 => .array .int
  | 18 => .array .char
  | 19 => .array .char
  | 20 => .array .int
  | 21 => .array .int
  | 22 => .int
  | 23 => .array .int
  | 24 => .array .int
  | 25 => .array .int
  | 26 => .array .int
  | 27 => .int
  | 28 => .array .int
  | 29 => .array .int
  | 30 => .array .long
  | _ => .array .long
abbrev wsX80 : List Cond := u_ws RX8 TX8 32
theorem nmX8 : ∀ a, a < 32 → ∀ b, b < 32 → a ≠ b → (TX8 a).2.1 ≠ (TX8 b).2.1 := by decide +kernel
theorem tyX8_ok : ∀ k, k < 32 → parseFieldDescriptor (TX8 k).2.2.1 = some (tyX8 k) := by decide +kernel
abbrev cX8_init : ByteArray := prog_10_method_1_code
def yX8_init : MethodName := ⟨RX8, "<init>", "()V"⟩
abbrev cX8_isIn : ByteArray := prog_10_method_2_code
def yX8_isIn : MethodName := ⟨RX8, "isIn", "(III)Z"⟩
abbrev cX8_keep : ByteArray := prog_10_method_3_code
def yX8_keep : MethodName := ⟨RX8, "keep", "(I)V"⟩
abbrev cX8_lay : ByteArray := prog_10_method_4_code
def yX8_lay : MethodName := ⟨RX8, "lay", "(I)V"⟩
abbrev cX8_image : ByteArray := prog_10_method_5_code
def yX8_image : MethodName := ⟨RX8, "image", "()I"⟩
abbrev cX8_undo : ByteArray := prog_10_method_6_code
def yX8_undo : MethodName := ⟨RX8, "undo", "()I"⟩
abbrev cX8_isComer : ByteArray := prog_10_method_7_code
def yX8_isComer : MethodName := ⟨RX8, "isComer", "(I)Z"⟩
abbrev cX8_isGate : ByteArray := prog_10_method_8_code
def yX8_isGate : MethodName := ⟨RX8, "isGate", "(I)Z"⟩
abbrev cX8_one : ByteArray := prog_10_method_9_code
def yX8_one : MethodName := ⟨RX8, "one", "(II)I"⟩
abbrev cX8_change : ByteArray := prog_10_method_10_code
def yX8_change : MethodName := ⟨RX8, "change", "(III)I"⟩
abbrev cX8_known : ByteArray := prog_10_method_11_code
def yX8_known : MethodName := ⟨RX8, "known", "(I)I"⟩
abbrev cX8_walkAt : ByteArray := prog_10_method_12_code
def yX8_walkAt : MethodName := ⟨RX8, "walkAt", "(II)I"⟩
abbrev cX8_many : ByteArray := prog_10_method_13_code
def yX8_many : MethodName := ⟨RX8, "many", "(I)I"⟩
abbrev cX8_comer : ByteArray := prog_10_method_14_code
def yX8_comer : MethodName := ⟨RX8, "comer", "(IIII)I"⟩
abbrev cX8_of : ByteArray := prog_10_method_15_code
def yX8_of : MethodName := ⟨RX8, "of", "(II)I"⟩
abbrev cX8_set : ByteArray := prog_10_method_16_code
def yX8_set : MethodName := ⟨RX8, "set", "(III)I"⟩
abbrev cX8_like : ByteArray := prog_10_method_17_code
def yX8_like : MethodName := ⟨RX8, "like", "(III)I"⟩
abbrev cX8_forget : ByteArray := prog_10_method_18_code
def yX8_forget : MethodName := ⟨RX8, "forget", "(I)I"⟩
abbrev cX8_row : ByteArray := prog_10_method_19_code
def yX8_row : MethodName := ⟨RX8, "row", "(III)I"⟩
abbrev cX8_feed : ByteArray := prog_10_method_20_code
def yX8_feed : MethodName := ⟨RX8, "feed", "(I)I"⟩
abbrev cX8_isAt : ByteArray := prog_10_method_21_code
def yX8_isAt : MethodName := ⟨RX8, "isAt", "(I)Z"⟩
abbrev cX8_takes : ByteArray := prog_10_method_22_code
def yX8_takes : MethodName := ⟨RX8, "takes", "(I)V"⟩
abbrev cX8_isDigit : ByteArray := prog_10_method_23_code
def yX8_isDigit : MethodName := ⟨RX8, "isDigit", "()Z"⟩
abbrev cX8_number : ByteArray := prog_10_method_24_code
def yX8_number : MethodName := ⟨RX8, "number", "()I"⟩
abbrev cX8_test : ByteArray := prog_10_method_25_code
def yX8_test : MethodName := ⟨RX8, "test", "()Z"⟩
abbrev cX8_factor : ByteArray := prog_10_method_26_code
def yX8_factor : MethodName := ⟨RX8, "factor", "()Z"⟩
abbrev cX8_both : ByteArray := prog_10_method_27_code
def yX8_both : MethodName := ⟨RX8, "both", "()Z"⟩
abbrev cX8_any : ByteArray := prog_10_method_28_code
def yX8_any : MethodName := ⟨RX8, "any", "()Z"⟩
abbrev cX8_clause : ByteArray := prog_10_method_29_code
def yX8_clause : MethodName := ⟨RX8, "clause", "()V"⟩
abbrev cX8_readAll : ByteArray := prog_10_method_30_code
def yX8_readAll : MethodName := ⟨RX8, "readAll", "()Z"⟩
abbrev cX8_readFor : ByteArray := prog_10_method_31_code
def yX8_readFor : MethodName := ⟨RX8, "readFor", "(II)V"⟩
abbrev cX8_house : ByteArray := prog_10_method_32_code
def yX8_house : MethodName := ⟨RX8, "house", "()I"⟩
abbrev cX8_helps : ByteArray := prog_10_method_33_code
def yX8_helps : MethodName := ⟨RX8, "helps", "(II)I"⟩
abbrev cX8_needNow : ByteArray := prog_10_method_34_code
def yX8_needNow : MethodName := ⟨RX8, "needNow", "()I"⟩
abbrev cX8_ageNow : ByteArray := prog_10_method_35_code
def yX8_ageNow : MethodName := ⟨RX8, "ageNow", "()I"⟩
abbrev cX8_likeTo : ByteArray := prog_10_method_36_code
def yX8_likeTo : MethodName := ⟨RX8, "likeTo", "(IIII)I"⟩
abbrev cX8_lets : ByteArray := prog_10_method_37_code
def yX8_lets : MethodName := ⟨RX8, "lets", "(II)Z"⟩
abbrev cX8_isBy : ByteArray := prog_10_method_38_code
def yX8_isBy : MethodName := ⟨RX8, "isBy", "(I)Z"⟩
abbrev cX8_nearest : ByteArray := prog_10_method_39_code
def yX8_nearest : MethodName := ⟨RX8, "nearest", "(II)I"⟩
abbrev cX8_bys : ByteArray := prog_10_method_40_code
def yX8_bys : MethodName := ⟨RX8, "bys", "()I"⟩
abbrev cX8_passes : ByteArray := prog_10_method_41_code
def yX8_passes : MethodName := ⟨RX8, "passes", "()I"⟩
abbrev cX8_taught : ByteArray := prog_10_method_42_code
def yX8_taught : MethodName := ⟨RX8, "taught", "(II)I"⟩
abbrev cX8_teach : ByteArray := prog_10_method_43_code
def yX8_teach : MethodName := ⟨RX8, "teach", "(II)I"⟩
abbrev cX8_day : ByteArray := prog_10_method_44_code
def yX8_day : MethodName := ⟨RX8, "day", "()V"⟩
abbrev cX8_days : ByteArray := prog_10_method_45_code
def yX8_days : MethodName := ⟨RX8, "days", "(I)V"⟩
abbrev cX8_out : ByteArray := prog_10_method_46_code
def yX8_out : MethodName := ⟨RX8, "out", "(I)I"⟩
abbrev cX8_told : ByteArray := prog_10_method_47_code
def yX8_told : MethodName := ⟨RX8, "told", "(I)I"⟩
abbrev cX8_pass : ByteArray := prog_10_method_48_code
def yX8_pass : MethodName := ⟨RX8, "pass", "(I)I"⟩
abbrev cX8_on : ByteArray := prog_10_method_49_code
def yX8_on : MethodName := ⟨RX8, "on", "(II)I"⟩
abbrev cX8_letsAll : ByteArray := prog_10_method_50_code
def yX8_letsAll : MethodName := ⟨RX8, "letsAll", "(I)I"⟩
abbrev cX8_learn : ByteArray := prog_10_method_51_code
def yX8_learn : MethodName := ⟨RX8, "learn", "(III)V"⟩
abbrev cX8_lessons : ByteArray := prog_10_method_52_code
def yX8_lessons : MethodName := ⟨RX8, "lessons", "(III)I"⟩
abbrev cX8_master : ByteArray := prog_10_method_53_code
def yX8_master : MethodName := ⟨RX8, "master", "(IZ)I"⟩
abbrev cX8_feign : ByteArray := prog_10_method_54_code
def yX8_feign : MethodName := ⟨RX8, "feign", "(III)I"⟩
abbrev cX8_see : ByteArray := prog_10_method_55_code
def yX8_see : MethodName := ⟨RX8, "see", "(IIZ)I"⟩
abbrev cX8_isSo : ByteArray := prog_10_method_56_code
def yX8_isSo : MethodName := ⟨RX8, "isSo", "(I)Z"⟩
abbrev cX8_wrong : ByteArray := prog_10_method_57_code
def yX8_wrong : MethodName := ⟨RX8, "wrong", "()I"⟩
abbrev cX8_isAllSo : ByteArray := prog_10_method_58_code
def yX8_isAllSo : MethodName := ⟨RX8, "isAllSo", "(I)Z"⟩
abbrev cX8_can : ByteArray := prog_10_method_59_code
def yX8_can : MethodName := ⟨RX8, "can", "(III)I"⟩
abbrev cX8_fraction : ByteArray := prog_10_method_60_code
def yX8_fraction : MethodName := ⟨RX8, "fraction", "(JJI)J"⟩
abbrev cX8_odds : ByteArray := prog_10_method_61_code
def yX8_odds : MethodName := ⟨RX8, "odds", "(III)J"⟩
abbrev cX8_mean : ByteArray := prog_10_method_62_code
def yX8_mean : MethodName := ⟨RX8, "mean", "(II)J"⟩
abbrev cX8_plan : ByteArray := prog_10_method_63_code
def yX8_plan : MethodName := ⟨RX8, "plan", "(II)I"⟩
abbrev cX8_ends : ByteArray := prog_10_method_64_code
def yX8_ends : MethodName := ⟨RX8, "ends", "(I)I"⟩
abbrev cX8_book : ByteArray := prog_10_method_65_code
def yX8_book : MethodName := ⟨RX8, "book", "(II)I"⟩
abbrev cX8_looked : ByteArray := prog_10_method_66_code
def yX8_looked : MethodName := ⟨RX8, "looked", "()I"⟩
abbrev cX8_body : ByteArray := prog_10_method_67_code
def yX8_body : MethodName := ⟨RX8, "body", "(I)I"⟩
abbrev cX8_all : ByteArray := prog_10_method_68_code
def yX8_all : MethodName := ⟨RX8, "all", "(III)I"⟩
abbrev cX8_byKind : ByteArray := prog_10_method_69_code
def yX8_byKind : MethodName := ⟨RX8, "byKind", "(IIII)I"⟩
abbrev cX8_act : ByteArray := prog_10_method_70_code
def yX8_act : MethodName := ⟨RX8, "act", "(III)I"⟩
abbrev cX8_trace : ByteArray := prog_10_method_71_code
def yX8_trace : MethodName := ⟨RX8, "trace", "(I)I"⟩
abbrev cX8_taken : ByteArray := prog_10_method_72_code
def yX8_taken : MethodName := ⟨RX8, "taken", "(II)I"⟩
abbrev cX8_count : ByteArray := prog_10_method_73_code
def yX8_count : MethodName := ⟨RX8, "count", "(I)I"⟩
abbrev cX8_isTape : ByteArray := prog_10_method_74_code
def yX8_isTape : MethodName := ⟨RX8, "isTape", "(I)Z"⟩
abbrev cX8_tape : ByteArray := prog_10_method_75_code
def yX8_tape : MethodName := ⟨RX8, "tape", "(III)I"⟩
abbrev cX8_item : ByteArray := prog_10_method_76_code
def yX8_item : MethodName := ⟨RX8, "item", "(IIJ)I"⟩
abbrev cX8_read : ByteArray := prog_10_method_77_code
def yX8_read : MethodName := ⟨RX8, "read", "(II)J"⟩
abbrev cX8_shift : ByteArray := prog_10_method_78_code
def yX8_shift : MethodName := ⟨RX8, "shift", "(IIIII)I"⟩
abbrev cX8_judge : ByteArray := prog_10_method_79_code
def yX8_judge : MethodName := ⟨RX8, "judge", "(II)I"⟩
def RJ6 : String := "java/lang/Integer"
def TJ6 : u_T := fun k => match k with
  | _ => ("", "", "", false)
def tyJ6 : Nat → FieldType := fun k => match k with
  | _ => .int
abbrev wsJ60 : List Cond := u_ws RJ6 TJ6 0
theorem nmJ6 : ∀ a, a < 0 → ∀ b, b < 0 → a ≠ b → (TJ6 a).2.1 ≠ (TJ6 b).2.1 := by decide +kernel
theorem tyJ6_ok : ∀ k, k < 0 → parseFieldDescriptor (TJ6 k).2.2.1 = some (tyJ6 k) := by decide +kernel
abbrev cJ6_bitCount_0f7a4 : ByteArray := prog_11_method_49_code
def yJ6_bitCount_0f7a4 : MethodName := ⟨RJ6, "bitCount", "(I)I"⟩
def RJ9 : String := "java/lang/Math"
def TJ9 : u_T := fun k => match k with
  | _ => ("", "", "", false)
def tyJ9 : Nat → FieldType := fun k => match k with
  | _ => .int
abbrev wsJ90 : List Cond := u_ws RJ9 TJ9 0
theorem nmJ9 : ∀ a, a < 0 → ∀ b, b < 0 → a ≠ b → (TJ9 a).2.1 ≠ (TJ9 b).2.1 := by decide +kernel
theorem tyJ9_ok : ∀ k, k < 0 → parseFieldDescriptor (TJ9 k).2.2.1 = some (tyJ9 k) := by decide +kernel
abbrev cJ9_max_7cf53 : ByteArray := prog_12_method_65_code
def yJ9_max_7cf53 : MethodName := ⟨RJ9, "max", "(II)I"⟩
abbrev cJ9_min_7cf53 : ByteArray := prog_12_method_69_code
def yJ9_min_7cf53 : MethodName := ⟨RJ9, "min", "(II)I"⟩
def RJ0 : String := "java/lang/String"
def TJ0 : u_T := fun k => match k with
  | _ => ("", "", "", false)
def tyJ0 : Nat → FieldType := fun k => match k with
  | _ => .int
abbrev wsJ00 : List Cond := u_ws RJ0 TJ0 0
theorem nmJ0 : ∀ a, a < 0 → ∀ b, b < 0 → a ≠ b → (TJ0 a).2.1 ≠ (TJ0 b).2.1 := by decide +kernel
theorem tyJ0_ok : ∀ k, k < 0 → parseFieldDescriptor (TJ0 k).2.2.1 = some (tyJ0 k) := by decide +kernel
abbrev cJ0_length_8abf5 : ByteArray := prog_13_method_54_code
def yJ0_length_8abf5 : MethodName := ⟨RJ0, "length", "()I"⟩
abbrev cJ0_charAt_5068e : ByteArray := prog_13_method_56_code
def yJ0_charAt_5068e : MethodName := ⟨RJ0, "charAt", "(I)C"⟩
abbrev cJ0_coder_7d493 : ByteArray := prog_13_method_152_code
def yJ0_coder_7d493 : MethodName := ⟨RJ0, "coder", "()B"⟩
abbrev cJ0_isLatin1_aae02 : ByteArray := prog_13_method_154_code
def yJ0_isLatin1_aae02 : MethodName := ⟨RJ0, "isLatin1", "()Z"⟩
abbrev cJ0_checkIndex_df160 : ByteArray := prog_13_method_155_code
def yJ0_checkIndex_df160 : MethodName := ⟨RJ0, "checkIndex", "(II)V"⟩
def RJ1 : String := "java/lang/StringLatin1"
def TJ1 : u_T := fun k => match k with
  | _ => ("", "", "", false)
def tyJ1 : Nat → FieldType := fun k => match k with
  | _ => .int
abbrev wsJ10 : List Cond := u_ws RJ1 TJ1 0
theorem nmJ1 : ∀ a, a < 0 → ∀ b, b < 0 → a ≠ b → (TJ1 a).2.1 ≠ (TJ1 b).2.1 := by decide +kernel
theorem tyJ1_ok : ∀ k, k < 0 → parseFieldDescriptor (TJ1 k).2.2.1 = some (tyJ1 k) := by decide +kernel
abbrev cJ1_charAt_3b067 : ByteArray := prog_14_method_2_code
def yJ1_charAt_3b067 : MethodName := ⟨RJ1, "charAt", "([BI)C"⟩
def RJ2 : String := "java/lang/StringUTF16"
def TJ2 : u_T := fun k => match k with
  | _ => ("", "", "", false)
def tyJ2 : Nat → FieldType := fun k => match k with
  | _ => .int
abbrev wsJ20 : List Cond := u_ws RJ2 TJ2 0
theorem nmJ2 : ∀ a, a < 0 → ∀ b, b < 0 → a ≠ b → (TJ2 a).2.1 ≠ (TJ2 b).2.1 := by decide +kernel
theorem tyJ2_ok : ∀ k, k < 0 → parseFieldDescriptor (TJ2 k).2.2.1 = some (tyJ2 k) := by decide +kernel
abbrev cJ2_getChar_3b067 : ByteArray := prog_15_method_5_code
def yJ2_getChar_3b067 : MethodName := ⟨RJ2, "getChar", "([BI)C"⟩
abbrev cJ2_length_9d52b : ByteArray := prog_15_method_6_code
def yJ2_length_9d52b : MethodName := ⟨RJ2, "length", "([B)I"⟩
abbrev cJ2_charAt_3b067 : ByteArray := prog_15_method_83_code
def yJ2_charAt_3b067 : MethodName := ⟨RJ2, "charAt", "([BI)C"⟩
abbrev cJ2_checkIndex_2214a : ByteArray := prog_15_method_91_code
def yJ2_checkIndex_2214a : MethodName := ⟨RJ2, "checkIndex", "(I[B)V"⟩
def RJ10 : String := "java/lang/System"
def TJ10 : u_T := fun k => match k with
  | _ => ("", "", "", false)
def tyJ10 : Nat → FieldType := fun k => match k with
  | _ => .int
abbrev wsJ100 : List Cond := u_ws RJ10 TJ10 0
theorem nmJ10 : ∀ a, a < 0 → ∀ b, b < 0 → a ≠ b → (TJ10 a).2.1 ≠ (TJ10 b).2.1 := by decide +kernel
theorem tyJ10_ok : ∀ k, k < 0 → parseFieldDescriptor (TJ10 k).2.2.1 = some (tyJ10 k) := by decide +kernel
def RJ3 : String := "jdk/internal/util/Preconditions"
def TJ3 : u_T := fun k => match k with
  | _ => ("", "", "", false)
def tyJ3 : Nat → FieldType := fun k => match k with
  | _ => .int
abbrev wsJ30 : List Cond := u_ws RJ3 TJ3 0
theorem nmJ3 : ∀ a, a < 0 → ∀ b, b < 0 → a ≠ b → (TJ3 a).2.1 ≠ (TJ3 b).2.1 := by decide +kernel
theorem tyJ3_ok : ∀ k, k < 0 → parseFieldDescriptor (TJ3 k).2.2.1 = some (tyJ3 k) := by decide +kernel
abbrev cJ3_checkIndex_8e157 : ByteArray := prog_17_method_11_code
def yJ3_checkIndex_8e157 : MethodName := ⟨RJ3, "checkIndex", "(IILjava/util/function/BiFunction;)I"⟩
def RL : String := "GatesBentLaw"
abbrev cL_law : ByteArray := code
def yL_law : MethodName := ⟨RL, "law", "([I)Z"⟩
abbrev vwCl : List vw_C := [(RX0, TX0, 8), (RX1, TX1, 2), (RX2, TX2, 5), (RX3, TX3, 4), (RX4, TX4, 4), (RX5, TX5, 3), (RX6, TX6, 8), (RX7, TX7, 14), (RX8, TX8, 32)]
/-- the words that every method is given: those of the tables that hold under way -/
def wA : List Cond := lw_tbl.filter goodWord
theorem wA_of {w : Cond} (h : w ∈ lw_tbl) (g : goodWord w = true) : w ∈ wA := List.mem_filter.mpr ⟨h, g⟩
theorem wA_in {w : Cond} (h : w ∈ wA) : w ∈ lw_tbl := (List.mem_filter.mp h).1
theorem wA_good {w : Cond} (h : w ∈ wA) : goodWord w = true := (List.mem_filter.mp h).2
theorem wA_gi {ws : List Cond} (h : ∀ w ∈ ws, w ∈ wA) : GoodIn wA ws := fun w hw => ⟨h w hw, good_of_word (wA_good (h w hw))⟩
