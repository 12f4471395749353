section
-- ===== PART A: goes FIRST, ahead of the names: the tables' words, and 'selects' of the private methods out of them =====
/-- a private method of a class that the tables say can be made, by its rows of tables_1 -/
def lw_okq (q : MethodName × Nat) : Prop := (q.1.cls ≠ "java/lang/invoke/MethodHandle" ∧ q.1.cls ≠ "java/lang/invoke/VarHandle") ∧ Cond.instantiable q.1.cls q.2 ∈ tables_1 ∧ Cond.privateMethod q.1 ∈ tables_1 ∧ Cond.instanceMethod q.1 ∈ tables_1
theorem lw_p0 : lw_okq (⟨"GatesBent", "isComer", "(I)Z"⟩, 14) := ⟨⟨by decide +kernel, by decide +kernel⟩, List.mem_of_getElem? (i := 18) (by decide +kernel), List.mem_of_getElem? (i := 295) (by decide +kernel), List.mem_of_getElem? (i := 296) (by decide +kernel)⟩
theorem lw_p1 : lw_okq (⟨"GatesBent$Town", "likeBySum", "(LGatesBent$Comer;II)I"⟩, 8) := ⟨⟨by decide +kernel, by decide +kernel⟩, List.mem_of_getElem? (i := 148) (by decide +kernel), List.mem_of_getElem? (i := 317) (by decide +kernel), List.mem_of_getElem? (i := 318) (by decide +kernel)⟩
theorem lw_p2 : lw_okq (⟨"GatesBent", "nearest", "(LGatesBent$Comer;I)I"⟩, 14) := ⟨⟨by decide +kernel, by decide +kernel⟩, List.mem_of_getElem? (i := 18) (by decide +kernel), List.mem_of_getElem? (i := 337) (by decide +kernel), List.mem_of_getElem? (i := 338) (by decide +kernel)⟩
theorem lw_p3 : lw_okq (⟨"GatesBent", "daysUntilOut", "(I)I"⟩, 14) := ⟨⟨by decide +kernel, by decide +kernel⟩, List.mem_of_getElem? (i := 18) (by decide +kernel), List.mem_of_getElem? (i := 346) (by decide +kernel), List.mem_of_getElem? (i := 347) (by decide +kernel)⟩
theorem lw_p4 : lw_okq (⟨"GatesBent$Gate", "leastAlike", "(I)I"⟩, 2) := ⟨⟨by decide +kernel, by decide +kernel⟩, List.mem_of_getElem? (i := 53) (by decide +kernel), List.mem_of_getElem? (i := 392) (by decide +kernel), List.mem_of_getElem? (i := 393) (by decide +kernel)⟩
theorem lw_p5 : lw_okq (⟨"GatesBent$Reader", "readClause", "()Z"⟩, 4) := ⟨⟨by decide +kernel, by decide +kernel⟩, List.mem_of_getElem? (i := 26) (by decide +kernel), List.mem_of_getElem? (i := 420) (by decide +kernel), List.mem_of_getElem? (i := 421) (by decide +kernel)⟩
theorem lw_p6 : lw_okq (⟨"GatesBent$Reader", "readWord", "()I"⟩, 4) := ⟨⟨by decide +kernel, by decide +kernel⟩, List.mem_of_getElem? (i := 26) (by decide +kernel), List.mem_of_getElem? (i := 424) (by decide +kernel), List.mem_of_getElem? (i := 425) (by decide +kernel)⟩
theorem lw_p7 : lw_okq (⟨"GatesBent$Reader", "sameSigns", "(Ljava/lang/String;)I"⟩, 4) := ⟨⟨by decide +kernel, by decide +kernel⟩, List.mem_of_getElem? (i := 26) (by decide +kernel), List.mem_of_getElem? (i := 435) (by decide +kernel), List.mem_of_getElem? (i := 436) (by decide +kernel)⟩
theorem lw_p8 : lw_okq (⟨"GatesBent$Reader", "readSign", "(I)Z"⟩, 4) := ⟨⟨by decide +kernel, by decide +kernel⟩, List.mem_of_getElem? (i := 26) (by decide +kernel), List.mem_of_getElem? (i := 490) (by decide +kernel), List.mem_of_getElem? (i := 491) (by decide +kernel)⟩
theorem lw_p9 : lw_okq (⟨"GatesBent$Reader", "signAt", "()I"⟩, 4) := ⟨⟨by decide +kernel, by decide +kernel⟩, List.mem_of_getElem? (i := 26) (by decide +kernel), List.mem_of_getElem? (i := 494) (by decide +kernel), List.mem_of_getElem? (i := 495) (by decide +kernel)⟩
theorem lw_p10 : lw_okq (⟨"GatesBent$Reader", "readNumber", "()I"⟩, 4) := ⟨⟨by decide +kernel, by decide +kernel⟩, List.mem_of_getElem? (i := 26) (by decide +kernel), List.mem_of_getElem? (i := 498) (by decide +kernel), List.mem_of_getElem? (i := 499) (by decide +kernel)⟩
theorem lw_p11 : lw_okq (⟨"GatesBent$Reader", "readEither", "(I)Z"⟩, 4) := ⟨⟨by decide +kernel, by decide +kernel⟩, List.mem_of_getElem? (i := 26) (by decide +kernel), List.mem_of_getElem? (i := 502) (by decide +kernel), List.mem_of_getElem? (i := 503) (by decide +kernel)⟩
theorem lw_p12 : lw_okq (⟨"GatesBent$Reader", "readFactor", "(I)Z"⟩, 4) := ⟨⟨by decide +kernel, by decide +kernel⟩, List.mem_of_getElem? (i := 26) (by decide +kernel), List.mem_of_getElem? (i := 506) (by decide +kernel), List.mem_of_getElem? (i := 507) (by decide +kernel)⟩
theorem lw_p13 : lw_okq (⟨"GatesBent$Reader", "readTest", "()Z"⟩, 4) := ⟨⟨by decide +kernel, by decide +kernel⟩, List.mem_of_getElem? (i := 26) (by decide +kernel), List.mem_of_getElem? (i := 510) (by decide +kernel), List.mem_of_getElem? (i := 511) (by decide +kernel)⟩
theorem lw_p14 : lw_okq (⟨"GatesBent$Reader", "readOneOf", "(Ljava/lang/String;)I"⟩, 4) := ⟨⟨by decide +kernel, by decide +kernel⟩, List.mem_of_getElem? (i := 26) (by decide +kernel), List.mem_of_getElem? (i := 515) (by decide +kernel), List.mem_of_getElem? (i := 516) (by decide +kernel)⟩
theorem lw_p15 : lw_okq (⟨"GatesBent", "master", "(I)I"⟩, 14) := ⟨⟨by decide +kernel, by decide +kernel⟩, List.mem_of_getElem? (i := 18) (by decide +kernel), List.mem_of_getElem? (i := 528) (by decide +kernel), List.mem_of_getElem? (i := 529) (by decide +kernel)⟩
def lw_privs_1 : List (MethodName × Nat) := [(⟨"GatesBent", "isComer", "(I)Z"⟩, 14), (⟨"GatesBent$Town", "likeBySum", "(LGatesBent$Comer;II)I"⟩, 8), (⟨"GatesBent", "nearest", "(LGatesBent$Comer;I)I"⟩, 14), (⟨"GatesBent", "daysUntilOut", "(I)I"⟩, 14), (⟨"GatesBent$Gate", "leastAlike", "(I)I"⟩, 2), (⟨"GatesBent$Reader", "readClause", "()Z"⟩, 4), (⟨"GatesBent$Reader", "readWord", "()I"⟩, 4), (⟨"GatesBent$Reader", "sameSigns", "(Ljava/lang/String;)I"⟩, 4), (⟨"GatesBent$Reader", "readSign", "(I)Z"⟩, 4), (⟨"GatesBent$Reader", "signAt", "()I"⟩, 4), (⟨"GatesBent$Reader", "readNumber", "()I"⟩, 4), (⟨"GatesBent$Reader", "readEither", "(I)Z"⟩, 4), (⟨"GatesBent$Reader", "readFactor", "(I)Z"⟩, 4), (⟨"GatesBent$Reader", "readTest", "()Z"⟩, 4), (⟨"GatesBent$Reader", "readOneOf", "(Ljava/lang/String;)I"⟩, 4), (⟨"GatesBent", "master", "(I)I"⟩, 14)]
theorem lw_r1 : ∀ q ∈ lw_privs_1, lw_okq q := List.forall_mem_cons.mpr ⟨lw_p0, List.forall_mem_cons.mpr ⟨lw_p1, List.forall_mem_cons.mpr ⟨lw_p2, List.forall_mem_cons.mpr ⟨lw_p3, List.forall_mem_cons.mpr ⟨lw_p4, List.forall_mem_cons.mpr ⟨lw_p5, List.forall_mem_cons.mpr ⟨lw_p6, List.forall_mem_cons.mpr ⟨lw_p7, List.forall_mem_cons.mpr ⟨lw_p8, List.forall_mem_cons.mpr ⟨lw_p9, List.forall_mem_cons.mpr ⟨lw_p10, List.forall_mem_cons.mpr ⟨lw_p11, List.forall_mem_cons.mpr ⟨lw_p12, List.forall_mem_cons.mpr ⟨lw_p13, List.forall_mem_cons.mpr ⟨lw_p14, List.forall_mem_cons.mpr ⟨lw_p15, fun _ h => absurd h List.not_mem_nil⟩⟩⟩⟩⟩⟩⟩⟩⟩⟩⟩⟩⟩⟩⟩⟩
theorem lw_p16 : lw_okq (⟨"GatesBent", "askNeededByComer", "(I)V"⟩, 14) := ⟨⟨by decide +kernel, by decide +kernel⟩, List.mem_of_getElem? (i := 18) (by decide +kernel), List.mem_of_getElem? (i := 532) (by decide +kernel), List.mem_of_getElem? (i := 533) (by decide +kernel)⟩
theorem lw_p17 : lw_okq (⟨"GatesBent", "letByWalkAlone", "(I)I"⟩, 14) := ⟨⟨by decide +kernel, by decide +kernel⟩, List.mem_of_getElem? (i := 18) (by decide +kernel), List.mem_of_getElem? (i := 537) (by decide +kernel), List.mem_of_getElem? (i := 538) (by decide +kernel)⟩
theorem lw_p18 : lw_okq (⟨"GatesBent", "aheadBy", "(I)LGatesBent$Town;"⟩, 14) := ⟨⟨by decide +kernel, by decide +kernel⟩, List.mem_of_getElem? (i := 18) (by decide +kernel), List.mem_of_getElem? (i := 563) (by decide +kernel), List.mem_of_getElem? (i := 564) (by decide +kernel)⟩
theorem lw_p19 : lw_okq (⟨"GatesBent", "bestLessons", "(II)I"⟩, 14) := ⟨⟨by decide +kernel, by decide +kernel⟩, List.mem_of_getElem? (i := 18) (by decide +kernel), List.mem_of_getElem? (i := 571) (by decide +kernel), List.mem_of_getElem? (i := 572) (by decide +kernel)⟩
theorem lw_p20 : lw_okq (⟨"GatesBent", "letByLessons", "(III)I"⟩, 14) := ⟨⟨by decide +kernel, by decide +kernel⟩, List.mem_of_getElem? (i := 18) (by decide +kernel), List.mem_of_getElem? (i := 575) (by decide +kernel), List.mem_of_getElem? (i := 576) (by decide +kernel)⟩
theorem lw_p21 : lw_okq (⟨"GatesBent", "pupil", "(III)I"⟩, 14) := ⟨⟨by decide +kernel, by decide +kernel⟩, List.mem_of_getElem? (i := 18) (by decide +kernel), List.mem_of_getElem? (i := 580) (by decide +kernel), List.mem_of_getElem? (i := 581) (by decide +kernel)⟩
theorem lw_p22 : lw_okq (⟨"GatesBent", "walksBySeen", "(II)I"⟩, 14) := ⟨⟨by decide +kernel, by decide +kernel⟩, List.mem_of_getElem? (i := 18) (by decide +kernel), List.mem_of_getElem? (i := 609) (by decide +kernel), List.mem_of_getElem? (i := 610) (by decide +kernel)⟩
theorem lw_p23 : lw_okq (⟨"GatesBent", "askNeededByGate", "()V"⟩, 14) := ⟨⟨by decide +kernel, by decide +kernel⟩, List.mem_of_getElem? (i := 18) (by decide +kernel), List.mem_of_getElem? (i := 614) (by decide +kernel), List.mem_of_getElem? (i := 615) (by decide +kernel)⟩
theorem lw_p24 : lw_okq (⟨"GatesBent", "isAllSeenSo", "()Z"⟩, 14) := ⟨⟨by decide +kernel, by decide +kernel⟩, List.mem_of_getElem? (i := 18) (by decide +kernel), List.mem_of_getElem? (i := 618) (by decide +kernel), List.mem_of_getElem? (i := 619) (by decide +kernel)⟩
theorem lw_p25 : lw_okq (⟨"GatesBent", "numbersBySeen", "(II)I"⟩, 14) := ⟨⟨by decide +kernel, by decide +kernel⟩, List.mem_of_getElem? (i := 18) (by decide +kernel), List.mem_of_getElem? (i := 622) (by decide +kernel), List.mem_of_getElem? (i := 623) (by decide +kernel)⟩
theorem lw_p26 : lw_okq (⟨"GatesBent", "isInPlan", "(II)Z"⟩, 14) := ⟨⟨by decide +kernel, by decide +kernel⟩, List.mem_of_getElem? (i := 18) (by decide +kernel), List.mem_of_getElem? (i := 642) (by decide +kernel), List.mem_of_getElem? (i := 643) (by decide +kernel)⟩
theorem lw_p27 : lw_okq (⟨"GatesBent", "walks", "(LGatesBent$Comer;III)I"⟩, 14) := ⟨⟨by decide +kernel, by decide +kernel⟩, List.mem_of_getElem? (i := 18) (by decide +kernel), List.mem_of_getElem? (i := 684) (by decide +kernel), List.mem_of_getElem? (i := 685) (by decide +kernel)⟩
theorem lw_p28 : lw_okq (⟨"GatesBent", "startBody", "(I)V"⟩, 14) := ⟨⟨by decide +kernel, by decide +kernel⟩, List.mem_of_getElem? (i := 18) (by decide +kernel), List.mem_of_getElem? (i := 688) (by decide +kernel), List.mem_of_getElem? (i := 689) (by decide +kernel)⟩
theorem lw_p29 : lw_okq (⟨"GatesBent", "knocks", "(LGatesBent$Comer;III)I"⟩, 14) := ⟨⟨by decide +kernel, by decide +kernel⟩, List.mem_of_getElem? (i := 18) (by decide +kernel), List.mem_of_getElem? (i := 692) (by decide +kernel), List.mem_of_getElem? (i := 693) (by decide +kernel)⟩
theorem lw_p30 : lw_okq (⟨"GatesBent", "tells", "(LGatesBent$Comer;III)I"⟩, 14) := ⟨⟨by decide +kernel, by decide +kernel⟩, List.mem_of_getElem? (i := 18) (by decide +kernel), List.mem_of_getElem? (i := 696) (by decide +kernel), List.mem_of_getElem? (i := 697) (by decide +kernel)⟩
theorem lw_p31 : lw_okq (⟨"GatesBent$Tape", "cut", "(J)J"⟩, 3) := ⟨⟨by decide +kernel, by decide +kernel⟩, List.mem_of_getElem? (i := 218) (by decide +kernel), List.mem_of_getElem? (i := 733) (by decide +kernel), List.mem_of_getElem? (i := 734) (by decide +kernel)⟩
def lw_privs_2 : List (MethodName × Nat) := [(⟨"GatesBent", "askNeededByComer", "(I)V"⟩, 14), (⟨"GatesBent", "letByWalkAlone", "(I)I"⟩, 14), (⟨"GatesBent", "aheadBy", "(I)LGatesBent$Town;"⟩, 14), (⟨"GatesBent", "bestLessons", "(II)I"⟩, 14), (⟨"GatesBent", "letByLessons", "(III)I"⟩, 14), (⟨"GatesBent", "pupil", "(III)I"⟩, 14), (⟨"GatesBent", "walksBySeen", "(II)I"⟩, 14), (⟨"GatesBent", "askNeededByGate", "()V"⟩, 14), (⟨"GatesBent", "isAllSeenSo", "()Z"⟩, 14), (⟨"GatesBent", "numbersBySeen", "(II)I"⟩, 14), (⟨"GatesBent", "isInPlan", "(II)Z"⟩, 14), (⟨"GatesBent", "walks", "(LGatesBent$Comer;III)I"⟩, 14), (⟨"GatesBent", "startBody", "(I)V"⟩, 14), (⟨"GatesBent", "knocks", "(LGatesBent$Comer;III)I"⟩, 14), (⟨"GatesBent", "tells", "(LGatesBent$Comer;III)I"⟩, 14), (⟨"GatesBent$Tape", "cut", "(J)J"⟩, 3)]
theorem lw_r2 : ∀ q ∈ lw_privs_2, lw_okq q := List.forall_mem_cons.mpr ⟨lw_p16, List.forall_mem_cons.mpr ⟨lw_p17, List.forall_mem_cons.mpr ⟨lw_p18, List.forall_mem_cons.mpr ⟨lw_p19, List.forall_mem_cons.mpr ⟨lw_p20, List.forall_mem_cons.mpr ⟨lw_p21, List.forall_mem_cons.mpr ⟨lw_p22, List.forall_mem_cons.mpr ⟨lw_p23, List.forall_mem_cons.mpr ⟨lw_p24, List.forall_mem_cons.mpr ⟨lw_p25, List.forall_mem_cons.mpr ⟨lw_p26, List.forall_mem_cons.mpr ⟨lw_p27, List.forall_mem_cons.mpr ⟨lw_p28, List.forall_mem_cons.mpr ⟨lw_p29, List.forall_mem_cons.mpr ⟨lw_p30, List.forall_mem_cons.mpr ⟨lw_p31, fun _ h => absurd h List.not_mem_nil⟩⟩⟩⟩⟩⟩⟩⟩⟩⟩⟩⟩⟩⟩⟩⟩
theorem lw_p32 : lw_okq (⟨"GatesBentModel", "change", "(III)I"⟩, 32) := ⟨⟨by decide +kernel, by decide +kernel⟩, List.mem_of_getElem? (i := 750) (by decide +kernel), List.mem_of_getElem? (i := 872) (by decide +kernel), List.mem_of_getElem? (i := 873) (by decide +kernel)⟩
theorem lw_p33 : lw_okq (⟨"GatesBentModel", "one", "(II)I"⟩, 32) := ⟨⟨by decide +kernel, by decide +kernel⟩, List.mem_of_getElem? (i := 750) (by decide +kernel), List.mem_of_getElem? (i := 876) (by decide +kernel), List.mem_of_getElem? (i := 877) (by decide +kernel)⟩
theorem lw_p34 : lw_okq (⟨"GatesBentModel", "isComer", "(I)Z"⟩, 32) := ⟨⟨by decide +kernel, by decide +kernel⟩, List.mem_of_getElem? (i := 750) (by decide +kernel), List.mem_of_getElem? (i := 884) (by decide +kernel), List.mem_of_getElem? (i := 885) (by decide +kernel)⟩
theorem lw_p35 : lw_okq (⟨"GatesBentModel", "out", "(I)I"⟩, 32) := ⟨⟨by decide +kernel, by decide +kernel⟩, List.mem_of_getElem? (i := 750) (by decide +kernel), List.mem_of_getElem? (i := 888) (by decide +kernel), List.mem_of_getElem? (i := 889) (by decide +kernel)⟩
theorem lw_p36 : lw_okq (⟨"GatesBentModel", "keep", "(I)V"⟩, 32) := ⟨⟨by decide +kernel, by decide +kernel⟩, List.mem_of_getElem? (i := 750) (by decide +kernel), List.mem_of_getElem? (i := 892) (by decide +kernel), List.mem_of_getElem? (i := 893) (by decide +kernel)⟩
theorem lw_p37 : lw_okq (⟨"GatesBentModel", "isBy", "(I)Z"⟩, 32) := ⟨⟨by decide +kernel, by decide +kernel⟩, List.mem_of_getElem? (i := 750) (by decide +kernel), List.mem_of_getElem? (i := 896) (by decide +kernel), List.mem_of_getElem? (i := 897) (by decide +kernel)⟩
theorem lw_p38 : lw_okq (⟨"GatesBentModel", "lets", "(II)Z"⟩, 32) := ⟨⟨by decide +kernel, by decide +kernel⟩, List.mem_of_getElem? (i := 750) (by decide +kernel), List.mem_of_getElem? (i := 900) (by decide +kernel), List.mem_of_getElem? (i := 901) (by decide +kernel)⟩
theorem lw_p39 : lw_okq (⟨"GatesBentModel", "helps", "(II)I"⟩, 32) := ⟨⟨by decide +kernel, by decide +kernel⟩, List.mem_of_getElem? (i := 750) (by decide +kernel), List.mem_of_getElem? (i := 904) (by decide +kernel), List.mem_of_getElem? (i := 905) (by decide +kernel)⟩
theorem lw_p40 : lw_okq (⟨"GatesBentModel", "readFor", "(II)V"⟩, 32) := ⟨⟨by decide +kernel, by decide +kernel⟩, List.mem_of_getElem? (i := 750) (by decide +kernel), List.mem_of_getElem? (i := 908) (by decide +kernel), List.mem_of_getElem? (i := 909) (by decide +kernel)⟩
theorem lw_p41 : lw_okq (⟨"GatesBentModel", "readAll", "()Z"⟩, 32) := ⟨⟨by decide +kernel, by decide +kernel⟩, List.mem_of_getElem? (i := 750) (by decide +kernel), List.mem_of_getElem? (i := 912) (by decide +kernel), List.mem_of_getElem? (i := 913) (by decide +kernel)⟩
theorem lw_p42 : lw_okq (⟨"GatesBentModel", "clause", "()V"⟩, 32) := ⟨⟨by decide +kernel, by decide +kernel⟩, List.mem_of_getElem? (i := 750) (by decide +kernel), List.mem_of_getElem? (i := 916) (by decide +kernel), List.mem_of_getElem? (i := 917) (by decide +kernel)⟩
theorem lw_p43 : lw_okq (⟨"GatesBentModel", "isAt", "(I)Z"⟩, 32) := ⟨⟨by decide +kernel, by decide +kernel⟩, List.mem_of_getElem? (i := 750) (by decide +kernel), List.mem_of_getElem? (i := 920) (by decide +kernel), List.mem_of_getElem? (i := 921) (by decide +kernel)⟩
theorem lw_p44 : lw_okq (⟨"GatesBentModel", "takes", "(I)V"⟩, 32) := ⟨⟨by decide +kernel, by decide +kernel⟩, List.mem_of_getElem? (i := 750) (by decide +kernel), List.mem_of_getElem? (i := 924) (by decide +kernel), List.mem_of_getElem? (i := 925) (by decide +kernel)⟩
theorem lw_p45 : lw_okq (⟨"GatesBentModel", "number", "()I"⟩, 32) := ⟨⟨by decide +kernel, by decide +kernel⟩, List.mem_of_getElem? (i := 750) (by decide +kernel), List.mem_of_getElem? (i := 928) (by decide +kernel), List.mem_of_getElem? (i := 929) (by decide +kernel)⟩
theorem lw_p46 : lw_okq (⟨"GatesBentModel", "isDigit", "()Z"⟩, 32) := ⟨⟨by decide +kernel, by decide +kernel⟩, List.mem_of_getElem? (i := 750) (by decide +kernel), List.mem_of_getElem? (i := 932) (by decide +kernel), List.mem_of_getElem? (i := 933) (by decide +kernel)⟩
theorem lw_p47 : lw_okq (⟨"GatesBentModel", "any", "()Z"⟩, 32) := ⟨⟨by decide +kernel, by decide +kernel⟩, List.mem_of_getElem? (i := 750) (by decide +kernel), List.mem_of_getElem? (i := 936) (by decide +kernel), List.mem_of_getElem? (i := 937) (by decide +kernel)⟩
def lw_privs_3 : List (MethodName × Nat) := [(⟨"GatesBentModel", "change", "(III)I"⟩, 32), (⟨"GatesBentModel", "one", "(II)I"⟩, 32), (⟨"GatesBentModel", "isComer", "(I)Z"⟩, 32), (⟨"GatesBentModel", "out", "(I)I"⟩, 32), (⟨"GatesBentModel", "keep", "(I)V"⟩, 32), (⟨"GatesBentModel", "isBy", "(I)Z"⟩, 32), (⟨"GatesBentModel", "lets", "(II)Z"⟩, 32), (⟨"GatesBentModel", "helps", "(II)I"⟩, 32), (⟨"GatesBentModel", "readFor", "(II)V"⟩, 32), (⟨"GatesBentModel", "readAll", "()Z"⟩, 32), (⟨"GatesBentModel", "clause", "()V"⟩, 32), (⟨"GatesBentModel", "isAt", "(I)Z"⟩, 32), (⟨"GatesBentModel", "takes", "(I)V"⟩, 32), (⟨"GatesBentModel", "number", "()I"⟩, 32), (⟨"GatesBentModel", "isDigit", "()Z"⟩, 32), (⟨"GatesBentModel", "any", "()Z"⟩, 32)]
theorem lw_r3 : ∀ q ∈ lw_privs_3, lw_okq q := List.forall_mem_cons.mpr ⟨lw_p32, List.forall_mem_cons.mpr ⟨lw_p33, List.forall_mem_cons.mpr ⟨lw_p34, List.forall_mem_cons.mpr ⟨lw_p35, List.forall_mem_cons.mpr ⟨lw_p36, List.forall_mem_cons.mpr ⟨lw_p37, List.forall_mem_cons.mpr ⟨lw_p38, List.forall_mem_cons.mpr ⟨lw_p39, List.forall_mem_cons.mpr ⟨lw_p40, List.forall_mem_cons.mpr ⟨lw_p41, List.forall_mem_cons.mpr ⟨lw_p42, List.forall_mem_cons.mpr ⟨lw_p43, List.forall_mem_cons.mpr ⟨lw_p44, List.forall_mem_cons.mpr ⟨lw_p45, List.forall_mem_cons.mpr ⟨lw_p46, List.forall_mem_cons.mpr ⟨lw_p47, fun _ h => absurd h List.not_mem_nil⟩⟩⟩⟩⟩⟩⟩⟩⟩⟩⟩⟩⟩⟩⟩⟩
theorem lw_p48 : lw_okq (⟨"GatesBentModel", "both", "()Z"⟩, 32) := ⟨⟨by decide +kernel, by decide +kernel⟩, List.mem_of_getElem? (i := 750) (by decide +kernel), List.mem_of_getElem? (i := 940) (by decide +kernel), List.mem_of_getElem? (i := 941) (by decide +kernel)⟩
theorem lw_p49 : lw_okq (⟨"GatesBentModel", "factor", "()Z"⟩, 32) := ⟨⟨by decide +kernel, by decide +kernel⟩, List.mem_of_getElem? (i := 750) (by decide +kernel), List.mem_of_getElem? (i := 944) (by decide +kernel), List.mem_of_getElem? (i := 945) (by decide +kernel)⟩
theorem lw_p50 : lw_okq (⟨"GatesBentModel", "test", "()Z"⟩, 32) := ⟨⟨by decide +kernel, by decide +kernel⟩, List.mem_of_getElem? (i := 750) (by decide +kernel), List.mem_of_getElem? (i := 948) (by decide +kernel), List.mem_of_getElem? (i := 949) (by decide +kernel)⟩
theorem lw_p51 : lw_okq (⟨"GatesBentModel", "known", "(I)I"⟩, 32) := ⟨⟨by decide +kernel, by decide +kernel⟩, List.mem_of_getElem? (i := 750) (by decide +kernel), List.mem_of_getElem? (i := 952) (by decide +kernel), List.mem_of_getElem? (i := 953) (by decide +kernel)⟩
theorem lw_p52 : lw_okq (⟨"GatesBentModel", "walkAt", "(II)I"⟩, 32) := ⟨⟨by decide +kernel, by decide +kernel⟩, List.mem_of_getElem? (i := 750) (by decide +kernel), List.mem_of_getElem? (i := 956) (by decide +kernel), List.mem_of_getElem? (i := 957) (by decide +kernel)⟩
theorem lw_p53 : lw_okq (⟨"GatesBentModel", "likeTo", "(IIII)I"⟩, 32) := ⟨⟨by decide +kernel, by decide +kernel⟩, List.mem_of_getElem? (i := 750) (by decide +kernel), List.mem_of_getElem? (i := 960) (by decide +kernel), List.mem_of_getElem? (i := 961) (by decide +kernel)⟩
theorem lw_p54 : lw_okq (⟨"GatesBentModel", "day", "()V"⟩, 32) := ⟨⟨by decide +kernel, by decide +kernel⟩, List.mem_of_getElem? (i := 750) (by decide +kernel), List.mem_of_getElem? (i := 968) (by decide +kernel), List.mem_of_getElem? (i := 969) (by decide +kernel)⟩
theorem lw_p55 : lw_okq (⟨"GatesBentModel", "ageNow", "()I"⟩, 32) := ⟨⟨by decide +kernel, by decide +kernel⟩, List.mem_of_getElem? (i := 750) (by decide +kernel), List.mem_of_getElem? (i := 972) (by decide +kernel), List.mem_of_getElem? (i := 973) (by decide +kernel)⟩
theorem lw_p56 : lw_okq (⟨"GatesBentModel", "lay", "(I)V"⟩, 32) := ⟨⟨by decide +kernel, by decide +kernel⟩, List.mem_of_getElem? (i := 750) (by decide +kernel), List.mem_of_getElem? (i := 976) (by decide +kernel), List.mem_of_getElem? (i := 977) (by decide +kernel)⟩
theorem lw_p57 : lw_okq (⟨"GatesBentModel", "nearest", "(II)I"⟩, 32) := ⟨⟨by decide +kernel, by decide +kernel⟩, List.mem_of_getElem? (i := 750) (by decide +kernel), List.mem_of_getElem? (i := 980) (by decide +kernel), List.mem_of_getElem? (i := 981) (by decide +kernel)⟩
theorem lw_p58 : lw_okq (⟨"GatesBentModel", "taught", "(II)I"⟩, 32) := ⟨⟨by decide +kernel, by decide +kernel⟩, List.mem_of_getElem? (i := 750) (by decide +kernel), List.mem_of_getElem? (i := 1012) (by decide +kernel), List.mem_of_getElem? (i := 1013) (by decide +kernel)⟩
theorem lw_p59 : lw_okq (⟨"GatesBentModel", "needNow", "()I"⟩, 32) := ⟨⟨by decide +kernel, by decide +kernel⟩, List.mem_of_getElem? (i := 750) (by decide +kernel), List.mem_of_getElem? (i := 1020) (by decide +kernel), List.mem_of_getElem? (i := 1021) (by decide +kernel)⟩
theorem lw_p60 : lw_okq (⟨"GatesBentModel", "bys", "()I"⟩, 32) := ⟨⟨by decide +kernel, by decide +kernel⟩, List.mem_of_getElem? (i := 750) (by decide +kernel), List.mem_of_getElem? (i := 1024) (by decide +kernel), List.mem_of_getElem? (i := 1025) (by decide +kernel)⟩
theorem lw_p61 : lw_okq (⟨"GatesBentModel", "passes", "()I"⟩, 32) := ⟨⟨by decide +kernel, by decide +kernel⟩, List.mem_of_getElem? (i := 750) (by decide +kernel), List.mem_of_getElem? (i := 1028) (by decide +kernel), List.mem_of_getElem? (i := 1029) (by decide +kernel)⟩
theorem lw_p62 : lw_okq (⟨"GatesBentModel", "master", "(IZ)I"⟩, 32) := ⟨⟨by decide +kernel, by decide +kernel⟩, List.mem_of_getElem? (i := 750) (by decide +kernel), List.mem_of_getElem? (i := 1032) (by decide +kernel), List.mem_of_getElem? (i := 1033) (by decide +kernel)⟩
theorem lw_p63 : lw_okq (⟨"GatesBentModel", "days", "(I)V"⟩, 32) := ⟨⟨by decide +kernel, by decide +kernel⟩, List.mem_of_getElem? (i := 750) (by decide +kernel), List.mem_of_getElem? (i := 1041) (by decide +kernel), List.mem_of_getElem? (i := 1042) (by decide +kernel)⟩
def lw_privs_4 : List (MethodName × Nat) := [(⟨"GatesBentModel", "both", "()Z"⟩, 32), (⟨"GatesBentModel", "factor", "()Z"⟩, 32), (⟨"GatesBentModel", "test", "()Z"⟩, 32), (⟨"GatesBentModel", "known", "(I)I"⟩, 32), (⟨"GatesBentModel", "walkAt", "(II)I"⟩, 32), (⟨"GatesBentModel", "likeTo", "(IIII)I"⟩, 32), (⟨"GatesBentModel", "day", "()V"⟩, 32), (⟨"GatesBentModel", "ageNow", "()I"⟩, 32), (⟨"GatesBentModel", "lay", "(I)V"⟩, 32), (⟨"GatesBentModel", "nearest", "(II)I"⟩, 32), (⟨"GatesBentModel", "taught", "(II)I"⟩, 32), (⟨"GatesBentModel", "needNow", "()I"⟩, 32), (⟨"GatesBentModel", "bys", "()I"⟩, 32), (⟨"GatesBentModel", "passes", "()I"⟩, 32), (⟨"GatesBentModel", "master", "(IZ)I"⟩, 32), (⟨"GatesBentModel", "days", "(I)V"⟩, 32)]
theorem lw_r4 : ∀ q ∈ lw_privs_4, lw_okq q := List.forall_mem_cons.mpr ⟨lw_p48, List.forall_mem_cons.mpr ⟨lw_p49, List.forall_mem_cons.mpr ⟨lw_p50, List.forall_mem_cons.mpr ⟨lw_p51, List.forall_mem_cons.mpr ⟨lw_p52, List.forall_mem_cons.mpr ⟨lw_p53, List.forall_mem_cons.mpr ⟨lw_p54, List.forall_mem_cons.mpr ⟨lw_p55, List.forall_mem_cons.mpr ⟨lw_p56, List.forall_mem_cons.mpr ⟨lw_p57, List.forall_mem_cons.mpr ⟨lw_p58, List.forall_mem_cons.mpr ⟨lw_p59, List.forall_mem_cons.mpr ⟨lw_p60, List.forall_mem_cons.mpr ⟨lw_p61, List.forall_mem_cons.mpr ⟨lw_p62, List.forall_mem_cons.mpr ⟨lw_p63, fun _ h => absurd h List.not_mem_nil⟩⟩⟩⟩⟩⟩⟩⟩⟩⟩⟩⟩⟩⟩⟩⟩
theorem lw_p64 : lw_okq (⟨"GatesBentModel", "learn", "(III)V"⟩, 32) := ⟨⟨by decide +kernel, by decide +kernel⟩, List.mem_of_getElem? (i := 750) (by decide +kernel), List.mem_of_getElem? (i := 1053) (by decide +kernel), List.mem_of_getElem? (i := 1054) (by decide +kernel)⟩
theorem lw_p65 : lw_okq (⟨"GatesBentModel", "letsAll", "(I)I"⟩, 32) := ⟨⟨by decide +kernel, by decide +kernel⟩, List.mem_of_getElem? (i := 750) (by decide +kernel), List.mem_of_getElem? (i := 1057) (by decide +kernel), List.mem_of_getElem? (i := 1058) (by decide +kernel)⟩
theorem lw_p66 : lw_okq (⟨"GatesBentModel", "isSo", "(I)Z"⟩, 32) := ⟨⟨by decide +kernel, by decide +kernel⟩, List.mem_of_getElem? (i := 750) (by decide +kernel), List.mem_of_getElem? (i := 1073) (by decide +kernel), List.mem_of_getElem? (i := 1074) (by decide +kernel)⟩
theorem lw_p67 : lw_okq (⟨"GatesBentModel", "isAllSo", "(I)Z"⟩, 32) := ⟨⟨by decide +kernel, by decide +kernel⟩, List.mem_of_getElem? (i := 750) (by decide +kernel), List.mem_of_getElem? (i := 1081) (by decide +kernel), List.mem_of_getElem? (i := 1082) (by decide +kernel)⟩
theorem lw_p68 : lw_okq (⟨"GatesBentModel", "all", "(III)I"⟩, 32) := ⟨⟨by decide +kernel, by decide +kernel⟩, List.mem_of_getElem? (i := 750) (by decide +kernel), List.mem_of_getElem? (i := 1118) (by decide +kernel), List.mem_of_getElem? (i := 1119) (by decide +kernel)⟩
theorem lw_p69 : lw_okq (⟨"GatesBentModel", "byKind", "(IIII)I"⟩, 32) := ⟨⟨by decide +kernel, by decide +kernel⟩, List.mem_of_getElem? (i := 750) (by decide +kernel), List.mem_of_getElem? (i := 1122) (by decide +kernel), List.mem_of_getElem? (i := 1123) (by decide +kernel)⟩
theorem lw_p70 : lw_okq (⟨"GatesBentModel", "body", "(I)I"⟩, 32) := ⟨⟨by decide +kernel, by decide +kernel⟩, List.mem_of_getElem? (i := 750) (by decide +kernel), List.mem_of_getElem? (i := 1126) (by decide +kernel), List.mem_of_getElem? (i := 1127) (by decide +kernel)⟩
def lw_privs_5 : List (MethodName × Nat) := [(⟨"GatesBentModel", "learn", "(III)V"⟩, 32), (⟨"GatesBentModel", "letsAll", "(I)I"⟩, 32), (⟨"GatesBentModel", "isSo", "(I)Z"⟩, 32), (⟨"GatesBentModel", "isAllSo", "(I)Z"⟩, 32), (⟨"GatesBentModel", "all", "(III)I"⟩, 32), (⟨"GatesBentModel", "byKind", "(IIII)I"⟩, 32), (⟨"GatesBentModel", "body", "(I)I"⟩, 32)]
theorem lw_r5 : ∀ q ∈ lw_privs_5, lw_okq q := List.forall_mem_cons.mpr ⟨lw_p64, List.forall_mem_cons.mpr ⟨lw_p65, List.forall_mem_cons.mpr ⟨lw_p66, List.forall_mem_cons.mpr ⟨lw_p67, List.forall_mem_cons.mpr ⟨lw_p68, List.forall_mem_cons.mpr ⟨lw_p69, List.forall_mem_cons.mpr ⟨lw_p70, fun _ h => absurd h List.not_mem_nil⟩⟩⟩⟩⟩⟩⟩
def lw_privs : List (MethodName × Nat) := lw_privs_1 ++ (lw_privs_2 ++ (lw_privs_3 ++ (lw_privs_4 ++ (lw_privs_5))))
def lw_tbl : List Cond := k2_sels lw_privs ++ tables_1
theorem lw_privs_ok : ∀ q ∈ lw_privs, lw_okq q := by
  show ∀ q ∈ lw_privs_1 ++ (lw_privs_2 ++ (lw_privs_3 ++ (lw_privs_4 ++ (lw_privs_5)))), lw_okq q
  exact List.forall_mem_append.mpr ⟨lw_r1, List.forall_mem_append.mpr ⟨lw_r2, List.forall_mem_append.mpr ⟨lw_r3, List.forall_mem_append.mpr ⟨lw_r4, lw_r5⟩⟩⟩⟩
def RX0 : String := "GatesBent$Comer"
def TX0 : u_T := fun k => match k with
  | 0 => ("GatesBent$Comer", "number", "I", false)
  | 1 => ("GatesBent$Comer", "kind", "I", false)
  | 2 => ("GatesBent$Comer", "v", "I", false)
  | 3 => ("GatesBent$Comer", "walk", "I", false)
  | 4 => ("GatesBent$Comer", "gate", "I", false)
  | 5 => ("GatesBent$Comer", "tries", "I", false)
  | 6 => ("GatesBent$Comer", "passed", "I", false)
  | _ => ("GatesBent$Comer", "row", "[I", true)
def tyX0 : Nat → FieldType := fun k => match k with
  | 0 => .int
  | 1 => .int
  | 2 => .int
  | 3 => .int
  | 4 => .int
  | 5 => .int
  | 6 => .int
  | _ => .array .int
abbrev wsX00 : List Cond := u_ws RX0 TX0 8
theorem nmX0 : ∀ a, a < 8 → ∀ b, b < 8 → a ≠ b → (TX0 a).2.1 ≠ (TX0 b).2.1 := by decide +kernel
theorem tyX0_ok : ∀ k, k < 8 → parseFieldDescriptor (TX0 k).2.2.1 = some (tyX0 k) := by decide +kernel
abbrev cX0_init : ByteArray := prog_2_method_1_code
def yX0_init : MethodName := ⟨RX0, "<init>", "(I)V"⟩
abbrev cX0_become : ByteArray := prog_2_method_2_code
def yX0_become : MethodName := ⟨RX0, "become", "(LGatesBent$Comer;)V"⟩
abbrev cX0_begin : ByteArray := prog_2_method_3_code
def yX0_begin : MethodName := ⟨RX0, "begin", "(IIII)V"⟩
def RX1 : String := "GatesBent$Gate"
def TX1 : u_T := fun k => match k with
  | 0 => ("GatesBent$Gate", "walks", "[I", true)
  | _ => ("GatesBent$Gate", "known", "I", false)
def tyX1 : Nat → FieldType := fun k => match k with
  | 0 => .array .int
  | _ => .int
abbrev wsX10 : List Cond := u_ws RX1 TX1 2
theorem nmX1 : ∀ a, a < 2 → ∀ b, b < 2 → a ≠ b → (TX1 a).2.1 ≠ (TX1 b).2.1 := by decide +kernel
theorem tyX1_ok : ∀ k, k < 2 → parseFieldDescriptor (TX1 k).2.2.1 = some (tyX1 k) := by decide +kernel
abbrev cX1_init : ByteArray := prog_3_method_1_code
def yX1_init : MethodName := ⟨RX1, "<init>", "()V"⟩
abbrev cX1_become : ByteArray := prog_3_method_2_code
def yX1_become : MethodName := ⟨RX1, "become", "(LGatesBent$Gate;)V"⟩
abbrev cX1_learn : ByteArray := prog_3_method_3_code
def yX1_learn : MethodName := ⟨RX1, "learn", "(I)I"⟩
abbrev cX1_leastAlike : ByteArray := prog_3_method_4_code
def yX1_leastAlike : MethodName := ⟨RX1, "leastAlike", "(I)I"⟩
abbrev cX1_knowsAlike : ByteArray := prog_3_method_5_code
def yX1_knowsAlike : MethodName := ⟨RX1, "knowsAlike", "(II)Z"⟩
def RX2 : String := "GatesBent$House"
def TX2 : u_T := fun k => match k with
  | 0 => ("GatesBent$House", "ops", "[I", true)
  | 1 => ("GatesBent$House", "numbers", "[I", true)
  | 2 => ("GatesBent$House", "length", "I", false)
  | 3 => ("GatesBent$House", "need", "I", false)
  | _ => ("GatesBent$House", "age", "I", false)
def tyX2 : Nat → FieldType := fun k => match k with
  | 0 => .array .int
  | 1 => .array .int
  | 2 => .int
  | 3 => .int
  | _ => .int
abbrev wsX20 : List Cond := u_ws RX2 TX2 5
theorem nmX2 : ∀ a, a < 5 → ∀ b, b < 5 → a ≠ b → (TX2 a).2.1 ≠ (TX2 b).2.1 := by decide +kernel
theorem tyX2_ok : ∀ k, k < 5 → parseFieldDescriptor (TX2 k).2.2.1 = some (tyX2 k) := by decide +kernel
abbrev cX2_init : ByteArray := prog_4_method_1_code
def yX2_init : MethodName := ⟨RX2, "<init>", "(I)V"⟩
abbrev cX2_clear : ByteArray := prog_4_method_2_code
def yX2_clear : MethodName := ⟨RX2, "clear", "()V"⟩
abbrev cX2_put : ByteArray := prog_4_method_3_code
def yX2_put : MethodName := ⟨RX2, "put", "(II)V"⟩
abbrev cX2_bonus : ByteArray := prog_4_method_4_code
def yX2_bonus : MethodName := ⟨RX2, "bonus", "(LGatesBent$Comer;II)I"⟩
abbrev cX2_valueOf : ByteArray := prog_4_method_5_code
def yX2_valueOf : MethodName := ⟨RX2, "valueOf", "(ILGatesBent$Comer;II)I"⟩
abbrev cX2_isSo : ByteArray := prog_4_method_6_code
def yX2_isSo : MethodName := ⟨RX2, "isSo", "(III)Z"⟩
def RX3 : String := "GatesBent$Reader"
def TX3 : u_T := fun k => match k with
  | 0 => ("GatesBent$Reader", "text", "[B", true)
  | 1 => ("GatesBent$Reader", "length", "I", false)
  | 2 => ("GatesBent$Reader", "place", "I", false)
  | _ => ("GatesBent$Reader", "house", "LGatesBent$House;", false)
def tyX3 : Nat → FieldType := fun k => match k with
  | 0 => .array .byte
  | 1 => .int
  | 2 => .int
  | _ => .object "GatesBent$House"
abbrev wsX30 : List Cond := u_ws RX3 TX3 4
theorem nmX3 : ∀ a, a < 4 → ∀ b, b < 4 → a ≠ b → (TX3 a).2.1 ≠ (TX3 b).2.1 := by decide +kernel
theorem tyX3_ok : ∀ k, k < 4 → parseFieldDescriptor (TX3 k).2.2.1 = some (tyX3 k) := by decide +kernel
abbrev cX3_init : ByteArray := prog_5_method_1_code
def yX3_init : MethodName := ⟨RX3, "<init>", "()V"⟩
abbrev cX3_readHouse : ByteArray := prog_5_method_2_code
def yX3_readHouse : MethodName := ⟨RX3, "readHouse", "(LGatesBent$House;)Z"⟩
abbrev cX3_readClause : ByteArray := prog_5_method_3_code
def yX3_readClause : MethodName := ⟨RX3, "readClause", "()Z"⟩
abbrev cX3_readWord : ByteArray := prog_5_method_4_code
def yX3_readWord : MethodName := ⟨RX3, "readWord", "()I"⟩
abbrev cX3_wordOf : ByteArray := prog_5_method_5_code
def yX3_wordOf : MethodName := ⟨RX3, "wordOf", "(I)Ljava/lang/String;"⟩
abbrev cX3_sameSigns : ByteArray := prog_5_method_6_code
def yX3_sameSigns : MethodName := ⟨RX3, "sameSigns", "(Ljava/lang/String;)I"⟩
abbrev cX3_readEither : ByteArray := prog_5_method_7_code
def yX3_readEither : MethodName := ⟨RX3, "readEither", "(I)Z"⟩
abbrev cX3_readFactor : ByteArray := prog_5_method_8_code
def yX3_readFactor : MethodName := ⟨RX3, "readFactor", "(I)Z"⟩
abbrev cX3_readTest : ByteArray := prog_5_method_9_code
def yX3_readTest : MethodName := ⟨RX3, "readTest", "()Z"⟩
abbrev cX3_readNumber : ByteArray := prog_5_method_10_code
def yX3_readNumber : MethodName := ⟨RX3, "readNumber", "()I"⟩
abbrev cX3_readOneOf : ByteArray := prog_5_method_11_code
def yX3_readOneOf : MethodName := ⟨RX3, "readOneOf", "(Ljava/lang/String;)I"⟩
abbrev cX3_readSign : ByteArray := prog_5_method_12_code
def yX3_readSign : MethodName := ⟨RX3, "readSign", "(I)Z"⟩
abbrev cX3_signAt : ByteArray := prog_5_method_13_code
def yX3_signAt : MethodName := ⟨RX3, "signAt", "()I"⟩
def RX4 : String := "GatesBent$Rows"
def TX4 : u_T := fun k => match k with
  | 0 => ("GatesBent$Rows", "first", "[I", true)
  | 1 => ("GatesBent$Rows", "second", "[I", true)
  | 2 => ("GatesBent$Rows", "third", "[I", true)
  | _ => ("GatesBent$Rows", "many", "I", false)
def tyX4 : Nat → FieldType := fun k => match k with
  | 0 => .array .int
  | 1 => .array .int
  | 2 => .array .int
  | _ => .int
abbrev wsX40 : List Cond := u_ws RX4 TX4 4
theorem nmX4 : ∀ a, a < 4 → ∀ b, b < 4 → a ≠ b → (TX4 a).2.1 ≠ (TX4 b).2.1 := by decide +kernel
theorem tyX4_ok : ∀ k, k < 4 → parseFieldDescriptor (TX4 k).2.2.1 = some (tyX4 k) := by decide +kernel
abbrev cX4_init : ByteArray := prog_6_method_1_code
def yX4_init : MethodName := ⟨RX4, "<init>", "(I)V"⟩
abbrev cX4_become : ByteArray := prog_6_method_2_code
def yX4_become : MethodName := ⟨RX4, "become", "(LGatesBent$Rows;)V"⟩
abbrev cX4_add : ByteArray := prog_6_method_3_code
def yX4_add : MethodName := ⟨RX4, "add", "(III)I"⟩
abbrev cX4_clear : ByteArray := prog_6_method_4_code
def yX4_clear : MethodName := ⟨RX4, "clear", "()I"⟩
def RX5 : String := "GatesBent$Tape"
def TX5 : u_T := fun k => match k with
  | 0 => ("GatesBent$Tape", "items", "[J", true)
  | 1 => ("GatesBent$Tape", "sort", "I", false)
  | _ => ("GatesBent$Tape", "length", "I", false)
def tyX5 : Nat → FieldType := fun k => match k with
  | 0 => .array .long
  | 1 => .int
  | _ => .int
abbrev wsX50 : List Cond := u_ws RX5 TX5 3
theorem nmX5 : ∀ a, a < 3 → ∀ b, b < 3 → a ≠ b → (TX5 a).2.1 ≠ (TX5 b).2.1 := by decide +kernel
theorem tyX5_ok : ∀ k, k < 3 → parseFieldDescriptor (TX5 k).2.2.1 = some (tyX5 k) := by decide +kernel
abbrev cX5_init : ByteArray := prog_7_method_1_code
def yX5_init : MethodName := ⟨RX5, "<init>", "()V"⟩
abbrev cX5_become : ByteArray := prog_7_method_2_code
def yX5_become : MethodName := ⟨RX5, "become", "(II)V"⟩
abbrev cX5_hasPlace : ByteArray := prog_7_method_3_code
def yX5_hasPlace : MethodName := ⟨RX5, "hasPlace", "(I)Z"⟩
abbrev cX5_hasPlaces : ByteArray := prog_7_method_4_code
def yX5_hasPlaces : MethodName := ⟨RX5, "hasPlaces", "(II)Z"⟩
abbrev cX5_put : ByteArray := prog_7_method_5_code
def yX5_put : MethodName := ⟨RX5, "put", "(IJ)V"⟩
abbrev cX5_cut : ByteArray := prog_7_method_6_code
def yX5_cut : MethodName := ⟨RX5, "cut", "(J)J"⟩
def RX6 : String := "GatesBent$Town"
def TX6 : u_T := fun k => match k with
  | 0 => ("GatesBent$Town", "gates", "[LGatesBent$Gate;", true)
  | 1 => ("GatesBent$Town", "comers", "[LGatesBent$Comer;", true)
  | 2 => ("GatesBent$Town", "seen", "LGatesBent$Rows;", true)
  | 3 => ("GatesBent$Town", "plan", "LGatesBent$Rows;", true)
  | 4 => ("GatesBent$Town", "book", "LGatesBent$Rows;", true)
  | 5 => ("GatesBent$Town", "many", "I", false)
  | 6 => ("GatesBent$Town", "day", "I", false)
  | _ => ("GatesBent$Town", "house", "LGatesBent$House;", false)
def tyX6 : Nat → FieldType := fun k => match k with
  | 0 => .array (.object "GatesBent$Gate")
  | 1 => .array (.object "GatesBent$Comer")
  | 2 => .object "GatesBent$Rows"
  | 3 => .object "GatesBent$Rows"
  | 4 => .object "GatesBent$Rows"
  | 5 => .int
  | 6 => .int
  | _ => .object "GatesBent$House"
abbrev wsX60 : List Cond := u_ws RX6 TX6 8
theorem nmX6 : ∀ a, a < 8 → ∀ b, b < 8 → a ≠ b → (TX6 a).2.1 ≠ (TX6 b).2.1 := by decide +kernel
theorem tyX6_ok : ∀ k, k < 8 → parseFieldDescriptor (TX6 k).2.2.1 = some (tyX6 k) := by decide +kernel
abbrev cX6_init : ByteArray := prog_8_method_1_code
def yX6_init : MethodName := ⟨RX6, "<init>", "(LGatesBent$House;)V"⟩
abbrev cX6_become : ByteArray := prog_8_method_2_code
def yX6_become : MethodName := ⟨RX6, "become", "(LGatesBent$Town;)V"⟩
abbrev cX6_likeToWalk : ByteArray := prog_8_method_3_code
def yX6_likeToWalk : MethodName := ⟨RX6, "likeToWalk", "(LGatesBent$Comer;II)I"⟩
abbrev cX6_likeBySum : ByteArray := prog_8_method_4_code
def yX6_likeBySum : MethodName := ⟨RX6, "likeBySum", "(LGatesBent$Comer;II)I"⟩
abbrev cX6_marksNeeded : ByteArray := prog_8_method_5_code
def yX6_marksNeeded : MethodName := ⟨RX6, "marksNeeded", "(LGatesBent$Comer;I)I"⟩
abbrev cX6_letsBy : ByteArray := prog_8_method_6_code
def yX6_letsBy : MethodName := ⟨RX6, "letsBy", "(LGatesBent$Comer;I)Z"⟩
abbrev cX6_whoIsLet : ByteArray := prog_8_method_7_code
def yX6_whoIsLet : MethodName := ⟨RX6, "whoIsLet", "()I"⟩
abbrev cX6_passedTogether : ByteArray := prog_8_method_8_code
def yX6_passedTogether : MethodName := ⟨RX6, "passedTogether", "()I"⟩
abbrev cX6_goDays : ByteArray := prog_8_method_9_code
def yX6_goDays : MethodName := ⟨RX6, "goDays", "(I)V"⟩
abbrev cX6_spendDay : ByteArray := prog_8_method_10_code
def yX6_spendDay : MethodName := ⟨RX6, "spendDay", "(LGatesBent$Comer;)V"⟩
abbrev cX6_goByPlan : ByteArray := prog_8_method_11_code
def yX6_goByPlan : MethodName := ⟨RX6, "goByPlan", "()V"⟩
def RX7 : String := "GatesBent"
def TX7 : u_T := fun k => match k with
  | 0 => ("GatesBent", "now", "LGatesBent$Town;", true)
  | 1 => ("GatesBent", "kept", "LGatesBent$Town;", true)
  | 2 => ("GatesBent", "ahead", "LGatesBent$Town;", true)
  | 3 => ("GatesBent", "isImageTaken", "Z", false)
  | 4 => ("GatesBent", "reader", "LGatesBent$Reader;", true)
  | 5 => ("GatesBent", "houses", "[LGatesBent$House;", true)
  | 6 => ("GatesBent", "houseCount", "I", false)
  | 7 => ("GatesBent", "bodies", "[I", true)
  | 8 => ("GatesBent", "bodiesRun", "I", false)
  | 9 => ("GatesBent", "tapes", "[LGatesBent$Tape;", true)
  | 10 => ("GatesBent", "trial", "LGatesBent$Gate;", true)
  | 11 => ("GatesBent", "probe", "LGatesBent$Comer;", true)
  | 12 => ("GatesBent", "neededByComer", "[I", true)
  | _ => ("GatesBent", "neededByGate", "[I", true)
def tyX7 : Nat → FieldType := fun k => match k with
  | 0 => .object "GatesBent$Town"
  | 1 => .object "GatesBent$Town"
  | 2 => .object "GatesBent$Town"
  | 3 => .boolean
  | 4 => .object "GatesBent$Reader"
  | 5 => .array (.object "GatesBent$House")
  | 6 => .int
  | 7 => .array .int
  | 8 => .int
  | 9 => .array (.object "GatesBent$Tape")
  | 10 => .object "GatesBent$Gate"
  | 11 => .object "GatesBent$Comer"
  | 12 => .array .int
  | _ => .array .int
abbrev wsX70 : List Cond := u_ws RX7 TX7 14
theorem nmX7 : ∀ a, a < 14 → ∀ b, b < 14 → a ≠ b → (TX7 a).2.1 ≠ (TX7 b).2.1 := by decide +kernel
theorem tyX7_ok : ∀ k, k < 14 → parseFieldDescriptor (TX7 k).2.2.1 = some (tyX7 k) := by decide +kernel
abbrev cX7_init : ByteArray := prog_1_method_1_code
def yX7_init : MethodName := ⟨RX7, "<init>", "()V"⟩
abbrev cX7_alike : ByteArray := prog_1_method_2_code
def yX7_alike : MethodName := ⟨RX7, "alike", "(II)I"⟩
abbrev cX7_isIn : ByteArray := prog_1_method_3_code
def yX7_isIn : MethodName := ⟨RX7, "isIn", "(II)Z"⟩
abbrev cX7_isComer : ByteArray := prog_1_method_4_code
def yX7_isComer : MethodName := ⟨RX7, "isComer", "(I)Z"⟩
abbrev cX7_lowest : ByteArray := prog_1_method_5_code
def yX7_lowest : MethodName := ⟨RX7, "lowest", "(III)J"⟩
abbrev cX7_aheadBy : ByteArray := prog_1_method_6_code
def yX7_aheadBy : MethodName := ⟨RX7, "aheadBy", "(I)LGatesBent$Town;"⟩
abbrev cX7_comer : ByteArray := prog_1_method_7_code
def yX7_comer : MethodName := ⟨RX7, "comer", "(IIII)I"⟩
abbrev cX7_of : ByteArray := prog_1_method_8_code
def yX7_of : MethodName := ⟨RX7, "of", "(II)I"⟩
abbrev cX7_nearest : ByteArray := prog_1_method_9_code
def yX7_nearest : MethodName := ⟨RX7, "nearest", "(LGatesBent$Comer;I)I"⟩
abbrev cX7_daysUntilOut : ByteArray := prog_1_method_10_code
def yX7_daysUntilOut : MethodName := ⟨RX7, "daysUntilOut", "(I)I"⟩
abbrev cX7_set : ByteArray := prog_1_method_11_code
def yX7_set : MethodName := ⟨RX7, "set", "(III)I"⟩
abbrev cX7_like : ByteArray := prog_1_method_12_code
def yX7_like : MethodName := ⟨RX7, "like", "(III)I"⟩
abbrev cX7_teach : ByteArray := prog_1_method_13_code
def yX7_teach : MethodName := ⟨RX7, "teach", "(II)I"⟩
abbrev cX7_forget : ByteArray := prog_1_method_14_code
def yX7_forget : MethodName := ⟨RX7, "forget", "(I)I"⟩
abbrev cX7_row : ByteArray := prog_1_method_15_code
def yX7_row : MethodName := ⟨RX7, "row", "(III)I"⟩
abbrev cX7_feed : ByteArray := prog_1_method_16_code
def yX7_feed : MethodName := ⟨RX7, "feed", "(I)I"⟩
abbrev cX7_house : ByteArray := prog_1_method_17_code
def yX7_house : MethodName := ⟨RX7, "house", "()I"⟩
abbrev cX7_told : ByteArray := prog_1_method_18_code
def yX7_told : MethodName := ⟨RX7, "told", "(I)I"⟩
abbrev cX7_askNeededByComer : ByteArray := prog_1_method_19_code
def yX7_askNeededByComer : MethodName := ⟨RX7, "askNeededByComer", "(I)V"⟩
abbrev cX7_master : ByteArray := prog_1_method_20_code
def yX7_master : MethodName := ⟨RX7, "master", "(I)I"⟩
abbrev cX7_letByWalkAlone : ByteArray := prog_1_method_21_code
def yX7_letByWalkAlone : MethodName := ⟨RX7, "letByWalkAlone", "(I)I"⟩
abbrev cX7_pass : ByteArray := prog_1_method_22_code
def yX7_pass : MethodName := ⟨RX7, "pass", "(I)I"⟩
abbrev cX7_on : ByteArray := prog_1_method_23_code
def yX7_on : MethodName := ⟨RX7, "on", "(II)I"⟩
abbrev cX7_lessons : ByteArray := prog_1_method_24_code
def yX7_lessons : MethodName := ⟨RX7, "lessons", "(III)I"⟩
abbrev cX7_bestLessons : ByteArray := prog_1_method_25_code
def yX7_bestLessons : MethodName := ⟨RX7, "bestLessons", "(II)I"⟩
abbrev cX7_pupil : ByteArray := prog_1_method_26_code
def yX7_pupil : MethodName := ⟨RX7, "pupil", "(III)I"⟩
abbrev cX7_letByLessons : ByteArray := prog_1_method_27_code
def yX7_letByLessons : MethodName := ⟨RX7, "letByLessons", "(III)I"⟩
abbrev cX7_feign : ByteArray := prog_1_method_28_code
def yX7_feign : MethodName := ⟨RX7, "feign", "(III)I"⟩
abbrev cX7_see : ByteArray := prog_1_method_29_code
def yX7_see : MethodName := ⟨RX7, "see", "(IIZ)I"⟩
abbrev cX7_wrong : ByteArray := prog_1_method_30_code
def yX7_wrong : MethodName := ⟨RX7, "wrong", "()I"⟩
abbrev cX7_can : ByteArray := prog_1_method_31_code
def yX7_can : MethodName := ⟨RX7, "can", "(III)I"⟩
abbrev cX7_walksBySeen : ByteArray := prog_1_method_32_code
def yX7_walksBySeen : MethodName := ⟨RX7, "walksBySeen", "(II)I"⟩
abbrev cX7_numbersBySeen : ByteArray := prog_1_method_33_code
def yX7_numbersBySeen : MethodName := ⟨RX7, "numbersBySeen", "(II)I"⟩
abbrev cX7_askNeededByGate : ByteArray := prog_1_method_34_code
def yX7_askNeededByGate : MethodName := ⟨RX7, "askNeededByGate", "()V"⟩
abbrev cX7_isAllSeenSo : ByteArray := prog_1_method_35_code
def yX7_isAllSeenSo : MethodName := ⟨RX7, "isAllSeenSo", "()Z"⟩
abbrev cX7_odds : ByteArray := prog_1_method_36_code
def yX7_odds : MethodName := ⟨RX7, "odds", "(III)J"⟩
abbrev cX7_mean : ByteArray := prog_1_method_37_code
def yX7_mean : MethodName := ⟨RX7, "mean", "(II)J"⟩
abbrev cX7_plan : ByteArray := prog_1_method_38_code
def yX7_plan : MethodName := ⟨RX7, "plan", "(II)I"⟩
abbrev cX7_isInPlan : ByteArray := prog_1_method_39_code
def yX7_isInPlan : MethodName := ⟨RX7, "isInPlan", "(II)Z"⟩
abbrev cX7_ends : ByteArray := prog_1_method_40_code
def yX7_ends : MethodName := ⟨RX7, "ends", "(I)I"⟩
abbrev cX7_book : ByteArray := prog_1_method_41_code
def yX7_book : MethodName := ⟨RX7, "book", "(II)I"⟩
abbrev cX7_looked : ByteArray := prog_1_method_42_code
def yX7_looked : MethodName := ⟨RX7, "looked", "()I"⟩
abbrev cX7_judge : ByteArray := prog_1_method_43_code
def yX7_judge : MethodName := ⟨RX7, "judge", "(II)I"⟩
abbrev cX7_image : ByteArray := prog_1_method_44_code
def yX7_image : MethodName := ⟨RX7, "image", "()I"⟩
abbrev cX7_undo : ByteArray := prog_1_method_45_code
def yX7_undo : MethodName := ⟨RX7, "undo", "()I"⟩
abbrev cX7_act : ByteArray := prog_1_method_46_code
def yX7_act : MethodName := ⟨RX7, "act", "(III)I"⟩
abbrev cX7_startBody : ByteArray := prog_1_method_47_code
def yX7_startBody : MethodName := ⟨RX7, "startBody", "(I)V"⟩
abbrev cX7_walks : ByteArray := prog_1_method_48_code
def yX7_walks : MethodName := ⟨RX7, "walks", "(LGatesBent$Comer;III)I"⟩
abbrev cX7_knocks : ByteArray := prog_1_method_49_code
def yX7_knocks : MethodName := ⟨RX7, "knocks", "(LGatesBent$Comer;III)I"⟩
abbrev cX7_tells : ByteArray := prog_1_method_50_code
def yX7_tells : MethodName := ⟨RX7, "tells", "(LGatesBent$Comer;III)I"⟩
abbrev cX7_trace : ByteArray := prog_1_method_51_code
def yX7_trace : MethodName := ⟨RX7, "trace", "(I)I"⟩
abbrev cX7_taken : ByteArray := prog_1_method_52_code
def yX7_taken : MethodName := ⟨RX7, "taken", "(II)I"⟩
abbrev cX7_kindAbove : ByteArray := prog_1_method_53_code
def yX7_kindAbove : MethodName := ⟨RX7, "kindAbove", "(I)I"⟩
abbrev cX7_count : ByteArray := prog_1_method_54_code
def yX7_count : MethodName := ⟨RX7, "count", "(I)I"⟩
abbrev cX7_tape : ByteArray := prog_1_method_55_code
def yX7_tape : MethodName := ⟨RX7, "tape", "(III)I"⟩
abbrev cX7_item : ByteArray := prog_1_method_56_code
def yX7_item : MethodName := ⟨RX7, "item", "(IIJ)I"⟩
abbrev cX7_read : ByteArray := prog_1_method_57_code
def yX7_read : MethodName := ⟨RX7, "read", "(II)J"⟩
abbrev cX7_shift : ByteArray := prog_1_method_58_code
def yX7_shift : MethodName := ⟨RX7, "shift", "(IIIII)I"⟩
def RX8 : String := "GatesBentModel"
def TX8 : u_T := fun k => match k with
  | 0 => ("GatesBentModel", "now", "[I", true)
  | 1 => ("GatesBentModel", "minds", "[I", true)
  | 2 => ("GatesBentModel", "then", "[I", true)
  | 3 => ("GatesBentModel", "kept", "Z", false)
  | 4 => ("GatesBentModel", "text", "[I", true)
  | 5 => ("GatesBentModel", "texted", "I", false)
  | 6 => ("GatesBentModel", "rules", "[I", true)
  | 7 => ("GatesBentModel", "sizes", "[I", true)
  | 8 => ("GatesBentModel", "ruled", "I", false)
  | 9 => ("GatesBentModel", "read", "[I", true)
  | 10 => ("GatesBentModel", "size", "I", false)
  | 11 => ("GatesBentModel", "at", "I", false)
  | 12 => ("GatesBentModel", "well", "Z", false)
  | 13 => ("GatesBentModel", "within", "I", false)
  | 14 => ("GatesBentModel", "sum", "I", false)
  | 15 => ("GatesBentModel", "need", "I", false)
  | 16 => ("GatesBentModel", "age", "I", false)
  | 17 => ("GatesBentModel", "names", "[I", true)
  | 18 => ("GatesBentModel", "letters", "[C", true)
  | 19 => ("GatesBentModel", "words", "[C", true)
  | 20 => ("GatesBentModel", "given", "[I", true)
  | 21 => ("GatesBentModel", "best", "[I", true)
  | 22 => ("GatesBentModel", "most", "I", false)
  | 23 => ("GatesBentModel", "helped", "[I", true)
  | 24 => ("GatesBentModel", "above", "[I", true)
  | 25 => ("GatesBentModel", "bodies", "[I", true)
  | 26 => ("GatesBentModel", "trace", "[I", true)
  | 27 => ("GatesBentModel", "ran", "I", false)
  | 28 => ("GatesBentModel", "sorts", "[I", true)
  | 29 => ("GatesBentModel", "lengths", "[I", true)
  | 30 => ("GatesBentModel", "items", "[J", true)
  | _ => ("GatesBentModel", "moved", "[J", true)
def tyX8 : Nat → FieldType := fun k => match k with
  | 0 => .array .int
  | 1 => .array .int
  | 2 => .array .int
  | 3 => .boolean
  | 4 => .array .int
  | 5 => .int
  | 6 => .array .int
  | 7 => .array .int
  | 8 => .int
  | 9 => .array .int
  | 10 => .int
  | 11 => .int
  | 12 => .boolean
  | 13 => .int
  | 14 => .int
  | 15 => .int
  | 16 => .int
  | 17 => .array .int
  | 18 => .array .char
  | 19 => .array .char
  | 20 => .array .int
  | 21 => .array .int
  | 22 => .int
  | 23 => .array .int
  | 24 => .array .int
  | 25 => .array .int
  | 26 => .array .int
  | 27 => .int
  | 28 => .array .int
  | 29 => .array .int
  | 30 => .array .long
  | _ => .array .long
abbrev wsX80 : List Cond := u_ws RX8 TX8 32
theorem nmX8 : ∀ a, a < 32 → ∀ b, b < 32 → a ≠ b → (TX8 a).2.1 ≠ (TX8 b).2.1 := by decide +kernel
theorem tyX8_ok : ∀ k, k < 32 → parseFieldDescriptor (TX8 k).2.2.1 = some (tyX8 k) := by decide +kernel
abbrev cX8_init : ByteArray := prog_10_method_1_code
def yX8_init : MethodName := ⟨RX8, "<init>", "()V"⟩
abbrev cX8_isIn : ByteArray := prog_10_method_2_code
def yX8_isIn : MethodName := ⟨RX8, "isIn", "(III)Z"⟩
abbrev cX8_keep : ByteArray := prog_10_method_3_code
def yX8_keep : MethodName := ⟨RX8, "keep", "(I)V"⟩
abbrev cX8_lay : ByteArray := prog_10_method_4_code
def yX8_lay : MethodName := ⟨RX8, "lay", "(I)V"⟩
abbrev cX8_image : ByteArray := prog_10_method_5_code
def yX8_image : MethodName := ⟨RX8, "image", "()I"⟩
abbrev cX8_undo : ByteArray := prog_10_method_6_code
def yX8_undo : MethodName := ⟨RX8, "undo", "()I"⟩
abbrev cX8_isComer : ByteArray := prog_10_method_7_code
def yX8_isComer : MethodName := ⟨RX8, "isComer", "(I)Z"⟩
abbrev cX8_isGate : ByteArray := prog_10_method_8_code
def yX8_isGate : MethodName := ⟨RX8, "isGate", "(I)Z"⟩
abbrev cX8_one : ByteArray := prog_10_method_9_code
def yX8_one : MethodName := ⟨RX8, "one", "(II)I"⟩
abbrev cX8_change : ByteArray := prog_10_method_10_code
def yX8_change : MethodName := ⟨RX8, "change", "(III)I"⟩
abbrev cX8_known : ByteArray := prog_10_method_11_code
def yX8_known : MethodName := ⟨RX8, "known", "(I)I"⟩
abbrev cX8_walkAt : ByteArray := prog_10_method_12_code
def yX8_walkAt : MethodName := ⟨RX8, "walkAt", "(II)I"⟩
abbrev cX8_many : ByteArray := prog_10_method_13_code
def yX8_many : MethodName := ⟨RX8, "many", "(I)I"⟩
abbrev cX8_comer : ByteArray := prog_10_method_14_code
def yX8_comer : MethodName := ⟨RX8, "comer", "(IIII)I"⟩
abbrev cX8_of : ByteArray := prog_10_method_15_code
def yX8_of : MethodName := ⟨RX8, "of", "(II)I"⟩
abbrev cX8_set : ByteArray := prog_10_method_16_code
def yX8_set : MethodName := ⟨RX8, "set", "(III)I"⟩
abbrev cX8_like : ByteArray := prog_10_method_17_code
def yX8_like : MethodName := ⟨RX8, "like", "(III)I"⟩
abbrev cX8_forget : ByteArray := prog_10_method_18_code
def yX8_forget : MethodName := ⟨RX8, "forget", "(I)I"⟩
abbrev cX8_row : ByteArray := prog_10_method_19_code
def yX8_row : MethodName := ⟨RX8, "row", "(III)I"⟩
abbrev cX8_feed : ByteArray := prog_10_method_20_code
def yX8_feed : MethodName := ⟨RX8, "feed", "(I)I"⟩
abbrev cX8_isAt : ByteArray := prog_10_method_21_code
def yX8_isAt : MethodName := ⟨RX8, "isAt", "(I)Z"⟩
abbrev cX8_takes : ByteArray := prog_10_method_22_code
def yX8_takes : MethodName := ⟨RX8, "takes", "(I)V"⟩
abbrev cX8_isDigit : ByteArray := prog_10_method_23_code
def yX8_isDigit : MethodName := ⟨RX8, "isDigit", "()Z"⟩
abbrev cX8_number : ByteArray := prog_10_method_24_code
def yX8_number : MethodName := ⟨RX8, "number", "()I"⟩
abbrev cX8_test : ByteArray := prog_10_method_25_code
def yX8_test : MethodName := ⟨RX8, "test", "()Z"⟩
abbrev cX8_factor : ByteArray := prog_10_method_26_code
def yX8_factor : MethodName := ⟨RX8, "factor", "()Z"⟩
abbrev cX8_both : ByteArray := prog_10_method_27_code
def yX8_both : MethodName := ⟨RX8, "both", "()Z"⟩
abbrev cX8_any : ByteArray := prog_10_method_28_code
def yX8_any : MethodName := ⟨RX8, "any", "()Z"⟩
abbrev cX8_clause : ByteArray := prog_10_method_29_code
def yX8_clause : MethodName := ⟨RX8, "clause", "()V"⟩
abbrev cX8_readAll : ByteArray := prog_10_method_30_code
def yX8_readAll : MethodName := ⟨RX8, "readAll", "()Z"⟩
abbrev cX8_readFor : ByteArray := prog_10_method_31_code
def yX8_readFor : MethodName := ⟨RX8, "readFor", "(II)V"⟩
abbrev cX8_house : ByteArray := prog_10_method_32_code
def yX8_house : MethodName := ⟨RX8, "house", "()I"⟩
abbrev cX8_helps : ByteArray := prog_10_method_33_code
def yX8_helps : MethodName := ⟨RX8, "helps", "(II)I"⟩
abbrev cX8_needNow : ByteArray := prog_10_method_34_code
def yX8_needNow : MethodName := ⟨RX8, "needNow", "()I"⟩
abbrev cX8_ageNow : ByteArray := prog_10_method_35_code
def yX8_ageNow : MethodName := ⟨RX8, "ageNow", "()I"⟩
abbrev cX8_likeTo : ByteArray := prog_10_method_36_code
def yX8_likeTo : MethodName := ⟨RX8, "likeTo", "(IIII)I"⟩
abbrev cX8_lets : ByteArray := prog_10_method_37_code
def yX8_lets : MethodName := ⟨RX8, "lets", "(II)Z"⟩
abbrev cX8_isBy : ByteArray := prog_10_method_38_code
def yX8_isBy : MethodName := ⟨RX8, "isBy", "(I)Z"⟩
abbrev cX8_nearest : ByteArray := prog_10_method_39_code
def yX8_nearest : MethodName := ⟨RX8, "nearest", "(II)I"⟩
abbrev cX8_bys : ByteArray := prog_10_method_40_code
def yX8_bys : MethodName := ⟨RX8, "bys", "()I"⟩
abbrev cX8_passes : ByteArray := prog_10_method_41_code
def yX8_passes : MethodName := ⟨RX8, "passes", "()I"⟩
abbrev cX8_taught : ByteArray := prog_10_method_42_code
def yX8_taught : MethodName := ⟨RX8, "taught", "(II)I"⟩
abbrev cX8_teach : ByteArray := prog_10_method_43_code
def yX8_teach : MethodName := ⟨RX8, "teach", "(II)I"⟩
abbrev cX8_day : ByteArray := prog_10_method_44_code
def yX8_day : MethodName := ⟨RX8, "day", "()V"⟩
abbrev cX8_days : ByteArray := prog_10_method_45_code
def yX8_days : MethodName := ⟨RX8, "days", "(I)V"⟩
abbrev cX8_out : ByteArray := prog_10_method_46_code
def yX8_out : MethodName := ⟨RX8, "out", "(I)I"⟩
abbrev cX8_told : ByteArray := prog_10_method_47_code
def yX8_told : MethodName := ⟨RX8, "told", "(I)I"⟩
abbrev cX8_pass : ByteArray := prog_10_method_48_code
def yX8_pass : MethodName := ⟨RX8, "pass", "(I)I"⟩
abbrev cX8_on : ByteArray := prog_10_method_49_code
def yX8_on : MethodName := ⟨RX8, "on", "(II)I"⟩
abbrev cX8_letsAll : ByteArray := prog_10_method_50_code
def yX8_letsAll : MethodName := ⟨RX8, "letsAll", "(I)I"⟩
abbrev cX8_learn : ByteArray := prog_10_method_51_code
def yX8_learn : MethodName := ⟨RX8, "learn", "(III)V"⟩
abbrev cX8_lessons : ByteArray := prog_10_method_52_code
def yX8_lessons : MethodName := ⟨RX8, "lessons", "(III)I"⟩
abbrev cX8_master : ByteArray := prog_10_method_53_code
def yX8_master : MethodName := ⟨RX8, "master", "(IZ)I"⟩
abbrev cX8_feign : ByteArray := prog_10_method_54_code
def yX8_feign : MethodName := ⟨RX8, "feign", "(III)I"⟩
abbrev cX8_see : ByteArray := prog_10_method_55_code
def yX8_see : MethodName := ⟨RX8, "see", "(IIZ)I"⟩
abbrev cX8_isSo : ByteArray := prog_10_method_56_code
def yX8_isSo : MethodName := ⟨RX8, "isSo", "(I)Z"⟩
abbrev cX8_wrong : ByteArray := prog_10_method_57_code
def yX8_wrong : MethodName := ⟨RX8, "wrong", "()I"⟩
abbrev cX8_isAllSo : ByteArray := prog_10_method_58_code
def yX8_isAllSo : MethodName := ⟨RX8, "isAllSo", "(I)Z"⟩
abbrev cX8_can : ByteArray := prog_10_method_59_code
def yX8_can : MethodName := ⟨RX8, "can", "(III)I"⟩
abbrev cX8_fraction : ByteArray := prog_10_method_60_code
def yX8_fraction : MethodName := ⟨RX8, "fraction", "(JJI)J"⟩
abbrev cX8_odds : ByteArray := prog_10_method_61_code
def yX8_odds : MethodName := ⟨RX8, "odds", "(III)J"⟩
abbrev cX8_mean : ByteArray := prog_10_method_62_code
def yX8_mean : MethodName := ⟨RX8, "mean", "(II)J"⟩
abbrev cX8_plan : ByteArray := prog_10_method_63_code
def yX8_plan : MethodName := ⟨RX8, "plan", "(II)I"⟩
abbrev cX8_ends : ByteArray := prog_10_method_64_code
def yX8_ends : MethodName := ⟨RX8, "ends", "(I)I"⟩
abbrev cX8_book : ByteArray := prog_10_method_65_code
def yX8_book : MethodName := ⟨RX8, "book", "(II)I"⟩
abbrev cX8_looked : ByteArray := prog_10_method_66_code
def yX8_looked : MethodName := ⟨RX8, "looked", "()I"⟩
abbrev cX8_body : ByteArray := prog_10_method_67_code
def yX8_body : MethodName := ⟨RX8, "body", "(I)I"⟩
abbrev cX8_all : ByteArray := prog_10_method_68_code
def yX8_all : MethodName := ⟨RX8, "all", "(III)I"⟩
abbrev cX8_byKind : ByteArray := prog_10_method_69_code
def yX8_byKind : MethodName := ⟨RX8, "byKind", "(IIII)I"⟩
abbrev cX8_act : ByteArray := prog_10_method_70_code
def yX8_act : MethodName := ⟨RX8, "act", "(III)I"⟩
abbrev cX8_trace : ByteArray := prog_10_method_71_code
def yX8_trace : MethodName := ⟨RX8, "trace", "(I)I"⟩
abbrev cX8_taken : ByteArray := prog_10_method_72_code
def yX8_taken : MethodName := ⟨RX8, "taken", "(II)I"⟩
abbrev cX8_count : ByteArray := prog_10_method_73_code
def yX8_count : MethodName := ⟨RX8, "count", "(I)I"⟩
abbrev cX8_isTape : ByteArray := prog_10_method_74_code
def yX8_isTape : MethodName := ⟨RX8, "isTape", "(I)Z"⟩
abbrev cX8_tape : ByteArray := prog_10_method_75_code
def yX8_tape : MethodName := ⟨RX8, "tape", "(III)I"⟩
abbrev cX8_item : ByteArray := prog_10_method_76_code
def yX8_item : MethodName := ⟨RX8, "item", "(IIJ)I"⟩
abbrev cX8_read : ByteArray := prog_10_method_77_code
def yX8_read : MethodName := ⟨RX8, "read", "(II)J"⟩
abbrev cX8_shift : ByteArray := prog_10_method_78_code
def yX8_shift : MethodName := ⟨RX8, "shift", "(IIIII)I"⟩
abbrev cX8_judge : ByteArray := prog_10_method_79_code
def yX8_judge : MethodName := ⟨RX8, "judge", "(II)I"⟩
def RJ6 : String := "java/lang/Integer"
def TJ6 : u_T := fun k => match k with
  | _ => ("", "", "", false)
def tyJ6 : Nat → FieldType := fun k => match k with
  | _ => .int
abbrev wsJ60 : List Cond := u_ws RJ6 TJ6 0
theorem nmJ6 : ∀ a, a < 0 → ∀ b, b < 0 → a ≠ b → (TJ6 a).2.1 ≠ (TJ6 b).2.1 := by decide +kernel
theorem tyJ6_ok : ∀ k, k < 0 → parseFieldDescriptor (TJ6 k).2.2.1 = some (tyJ6 k) := by decide +kernel
abbrev cJ6_bitCount_0f7a4 : ByteArray := prog_11_method_49_code
def yJ6_bitCount_0f7a4 : MethodName := ⟨RJ6, "bitCount", "(I)I"⟩
def RJ9 : String := "java/lang/Math"
def TJ9 : u_T := fun k => match k with
  | _ => ("", "", "", false)
def tyJ9 : Nat → FieldType := fun k => match k with
  | _ => .int
abbrev wsJ90 : List Cond := u_ws RJ9 TJ9 0
theorem nmJ9 : ∀ a, a < 0 → ∀ b, b < 0 → a ≠ b → (TJ9 a).2.1 ≠ (TJ9 b).2.1 := by decide +kernel
theorem tyJ9_ok : ∀ k, k < 0 → parseFieldDescriptor (TJ9 k).2.2.1 = some (tyJ9 k) := by decide +kernel
abbrev cJ9_max_7cf53 : ByteArray := prog_12_method_65_code
def yJ9_max_7cf53 : MethodName := ⟨RJ9, "max", "(II)I"⟩
abbrev cJ9_min_7cf53 : ByteArray := prog_12_method_69_code
def yJ9_min_7cf53 : MethodName := ⟨RJ9, "min", "(II)I"⟩
def RJ0 : String := "java/lang/String"
def TJ0 : u_T := fun k => match k with
  | _ => ("", "", "", false)
def tyJ0 : Nat → FieldType := fun k => match k with
  | _ => .int
abbrev wsJ00 : List Cond := u_ws RJ0 TJ0 0
theorem nmJ0 : ∀ a, a < 0 → ∀ b, b < 0 → a ≠ b → (TJ0 a).2.1 ≠ (TJ0 b).2.1 := by decide +kernel
theorem tyJ0_ok : ∀ k, k < 0 → parseFieldDescriptor (TJ0 k).2.2.1 = some (tyJ0 k) := by decide +kernel
abbrev cJ0_length_8abf5 : ByteArray := prog_13_method_54_code
def yJ0_length_8abf5 : MethodName := ⟨RJ0, "length", "()I"⟩
abbrev cJ0_charAt_5068e : ByteArray := prog_13_method_56_code
def yJ0_charAt_5068e : MethodName := ⟨RJ0, "charAt", "(I)C"⟩
abbrev cJ0_coder_7d493 : ByteArray := prog_13_method_152_code
def yJ0_coder_7d493 : MethodName := ⟨RJ0, "coder", "()B"⟩
abbrev cJ0_isLatin1_aae02 : ByteArray := prog_13_method_154_code
def yJ0_isLatin1_aae02 : MethodName := ⟨RJ0, "isLatin1", "()Z"⟩
abbrev cJ0_checkIndex_df160 : ByteArray := prog_13_method_155_code
def yJ0_checkIndex_df160 : MethodName := ⟨RJ0, "checkIndex", "(II)V"⟩
def RJ1 : String := "java/lang/StringLatin1"
def TJ1 : u_T := fun k => match k with
  | _ => ("", "", "", false)
def tyJ1 : Nat → FieldType := fun k => match k with
  | _ => .int
abbrev wsJ10 : List Cond := u_ws RJ1 TJ1 0
theorem nmJ1 : ∀ a, a < 0 → ∀ b, b < 0 → a ≠ b → (TJ1 a).2.1 ≠ (TJ1 b).2.1 := by decide +kernel
theorem tyJ1_ok : ∀ k, k < 0 → parseFieldDescriptor (TJ1 k).2.2.1 = some (tyJ1 k) := by decide +kernel
abbrev cJ1_charAt_3b067 : ByteArray := prog_14_method_2_code
def yJ1_charAt_3b067 : MethodName := ⟨RJ1, "charAt", "([BI)C"⟩
def RJ2 : String := "java/lang/StringUTF16"
def TJ2 : u_T := fun k => match k with
  | _ => ("", "", "", false)
def tyJ2 : Nat → FieldType := fun k => match k with
  | _ => .int
abbrev wsJ20 : List Cond := u_ws RJ2 TJ2 0
theorem nmJ2 : ∀ a, a < 0 → ∀ b, b < 0 → a ≠ b → (TJ2 a).2.1 ≠ (TJ2 b).2.1 := by decide +kernel
theorem tyJ2_ok : ∀ k, k < 0 → parseFieldDescriptor (TJ2 k).2.2.1 = some (tyJ2 k) := by decide +kernel
abbrev cJ2_getChar_3b067 : ByteArray := prog_15_method_5_code
def yJ2_getChar_3b067 : MethodName := ⟨RJ2, "getChar", "([BI)C"⟩
abbrev cJ2_length_9d52b : ByteArray := prog_15_method_6_code
def yJ2_length_9d52b : MethodName := ⟨RJ2, "length", "([B)I"⟩
abbrev cJ2_charAt_3b067 : ByteArray := prog_15_method_83_code
def yJ2_charAt_3b067 : MethodName := ⟨RJ2, "charAt", "([BI)C"⟩
abbrev cJ2_checkIndex_2214a : ByteArray := prog_15_method_91_code
def yJ2_checkIndex_2214a : MethodName := ⟨RJ2, "checkIndex", "(I[B)V"⟩
def RJ10 : String := "java/lang/System"
def TJ10 : u_T := fun k => match k with
  | _ => ("", "", "", false)
def tyJ10 : Nat → FieldType := fun k => match k with
  | _ => .int
abbrev wsJ100 : List Cond := u_ws RJ10 TJ10 0
theorem nmJ10 : ∀ a, a < 0 → ∀ b, b < 0 → a ≠ b → (TJ10 a).2.1 ≠ (TJ10 b).2.1 := by decide +kernel
theorem tyJ10_ok : ∀ k, k < 0 → parseFieldDescriptor (TJ10 k).2.2.1 = some (tyJ10 k) := by decide +kernel
def RJ3 : String := "jdk/internal/util/Preconditions"
def TJ3 : u_T := fun k => match k with
  | _ => ("", "", "", false)
def tyJ3 : Nat → FieldType := fun k => match k with
  | _ => .int
abbrev wsJ30 : List Cond := u_ws RJ3 TJ3 0
theorem nmJ3 : ∀ a, a < 0 → ∀ b, b < 0 → a ≠ b → (TJ3 a).2.1 ≠ (TJ3 b).2.1 := by decide +kernel
theorem tyJ3_ok : ∀ k, k < 0 → parseFieldDescriptor (TJ3 k).2.2.1 = some (tyJ3 k) := by decide +kernel
abbrev cJ3_checkIndex_8e157 : ByteArray := prog_17_method_11_code
def yJ3_checkIndex_8e157 : MethodName := ⟨RJ3, "checkIndex", "(IILjava/util/function/BiFunction;)I"⟩
def RL : String := "GatesBentLaw"
abbrev cL_law : ByteArray := code
def yL_law : MethodName := ⟨RL, "law", "([I)Z"⟩
abbrev vwCl : List vw_C := [(RX0, TX0, 8), (RX1, TX1, 2), (RX2, TX2, 5), (RX3, TX3, 4), (RX4, TX4, 4), (RX5, TX5, 3), (RX6, TX6, 8), (RX7, TX7, 14), (RX8, TX8, 32)]
/-- the words that every method is given: those of the tables that hold under way -/
def wA : List Cond := lw_tbl.filter goodWord
theorem wA_of {w : Cond} (h : w ∈ lw_tbl) (g : goodWord w = true) : w ∈ wA := List.mem_filter.mpr ⟨h, g⟩
theorem wA_in {w : Cond} (h : w ∈ wA) : w ∈ lw_tbl := (List.mem_filter.mp h).1
theorem wA_good {w : Cond} (h : w ∈ wA) : goodWord w = true := (List.mem_filter.mp h).2
theorem wA_gi {ws : List Cond} (h : ∀ w ∈ ws, w ∈ wA) : GoodIn wA ws := fun w hw => ⟨h w hw, good_of_word (wA_good (h w hw))⟩
end
section
/-! ===== THE FRAME: objects by names (tag, i, j), a memory of values, the judgement XX (W over every heap that holds the memory) ===== -/
abbrev Ob : Type := Nat × Nat × Nat
abbrev Me : Type := Ob → Nat → Int
abbrev Mv : Type := Ob → Nat → Value
/-- the classes' numbers and slots; the array classes; where our cells begin; the String constants and their bytes -/
abbrev Ev : Type := va_G × (Nat → ClassId) × Nat × (Nat → Nat) × (Nat → Nat)
/-- an int, a long by a whole number (wrapping) -/
def I (z : Int) : Int32 := Int32.ofInt z
def J (z : Int) : Int64 := Int64.ofInt z
/-- 0 or 1 -/
def bI (b : Bool) : Int := cond b 1 0
/-- the shape of an object: a class by its place in vwCl, or an array (0 int, 1 long, 2 byte, 3 char, 4 Gate, 5 Comer, 6 House, 7 Tape) and its length -/
def shp (o : Ob) : Nat ⊕ (Nat × Nat) := match o.1 with
  | 0 => .inl 7
  | 1 => .inl 6
  | 2 => .inl 1
  | 3 => .inr (0, 3)
  | 4 => .inl 0
  | 5 => .inr (0, 4)
  | 6 => .inl 4
  | 7 => .inr (0, match o.2.2 with | 0 => 5 | 1 => 10 | _ => 8)
  | 8 => .inr (0, match o.2.2 with | 0 => 5 | 1 => 10 | _ => 8)
  | 9 => .inr (0, match o.2.2 with | 0 => 5 | 1 => 10 | _ => 8)
  | 10 => .inr (4, 4)
  | 11 => .inr (5, 6)
  | 12 => .inl 2
  | 13 => .inr (0, match o.2.1 with | 6 => 0 | _ => 100)
  | 14 => .inr (0, match o.2.1 with | 6 => 0 | _ => 100)
  | 15 => .inl 3
  | 16 => .inr (2, 100)
  | 17 => .inr (6, 6)
  | 18 => .inr (0, 20)
  | 19 => .inr (7, 6)
  | 20 => .inl 5
  | 21 => .inr (1, 60)
  | 22 => .inr (0, 6)
  | 23 => .inr (0, 4)
  | 30 => .inl 8
  | 31 => .inr (0, 133)
  | 32 => .inr (0, 532)
  | 33 => .inr (0, 133)
  | 34 => .inr (0, 100)
  | 35 => .inr (0, 600)
  | 36 => .inr (0, 6)
  | 37 => .inr (0, 100)
  | 38 => .inr (0, 6)
  | 39 => .inr (3, 6)
  | 40 => .inr (3, 24)
  | 41 => .inr (0, 3)
  | 42 => .inr (0, 3)
  | 43 => .inr (0, 6)
  | 44 => .inr (0, 7)
  | 45 => .inr (0, 21)
  | 46 => .inr (0, 20)
  | 47 => .inr (0, 6)
  | 48 => .inr (0, 6)
  | 49 => .inr (1, 360)
  | _ => .inr (1, 60)
/-- what a slot is: inl 0 an int, inl 1 a long, inl 2 a House by its number (7: null), inr v: always v -/
def sk (ad : Ob → Nat) (o : Ob) (k : Nat) : Nat ⊕ Value := match o.1 with
  | 0 => match k with
    | 0 => .inr (.ref (ad (1, 0, 0)))
    | 1 => .inr (.ref (ad (1, 1, 0)))
    | 2 => .inr (.ref (ad (1, 2, 0)))
    | 4 => .inr (.ref (ad (15, 0, 0)))
    | 5 => .inr (.ref (ad (17, 0, 0)))
    | 7 => .inr (.ref (ad (18, 0, 0)))
    | 9 => .inr (.ref (ad (19, 0, 0)))
    | 10 => .inr (.ref (ad (2, 3, 0)))
    | 11 => .inr (.ref (ad (4, 3, 0)))
    | 12 => .inr (.ref (ad (22, 0, 0)))
    | 13 => .inr (.ref (ad (23, 0, 0)))
    | _ => .inl 0
  | 1 => match k with
    | 0 => .inr (.ref (ad (10, o.2.1, 0)))
    | 1 => .inr (.ref (ad (11, o.2.1, 0)))
    | 2 => .inr (.ref (ad (6, o.2.1, 0)))
    | 3 => .inr (.ref (ad (6, o.2.1, 1)))
    | 4 => .inr (.ref (ad (6, o.2.1, 2)))
    | 7 => .inl 2
    | _ => .inl 0
  | 2 => match k with
    | 0 => .inr (.ref (ad (3, o.2.1, o.2.2)))
    | _ => .inl 0
  | 4 => match k with
    | 7 => .inr (.ref (ad (5, o.2.1, o.2.2)))
    | _ => .inl 0
  | 6 => match k with
    | 0 => .inr (.ref (ad (7, o.2.1, o.2.2)))
    | 1 => .inr (.ref (ad (8, o.2.1, o.2.2)))
    | 2 => .inr (.ref (ad (9, o.2.1, o.2.2)))
    | _ => .inl 0
  | 10 => .inr (.ref (ad (2, o.2.1, k)))
  | 11 => .inr (.ref (ad (4, o.2.1, k)))
  | 12 => match k with
    | 0 => .inr (.ref (ad (13, o.2.1, 0)))
    | 1 => .inr (.ref (ad (14, o.2.1, 0)))
    | _ => .inl 0
  | 15 => match k with
    | 0 => .inr (.ref (ad (16, 0, 0)))
    | 3 => .inl 2
    | _ => .inl 0
  | 17 => .inl 2
  | 19 => .inr (.ref (ad (20, k, 0)))
  | 20 => match k with
    | 0 => .inr (.ref (ad (21, o.2.1, 0)))
    | _ => .inl 0
  | 21 => .inl 1
  | 30 => match k with
    | 0 => .inr (.ref (ad (31, 0, 0)))
    | 1 => .inr (.ref (ad (32, 0, 0)))
    | 2 => .inr (.ref (ad (33, 0, 0)))
    | 4 => .inr (.ref (ad (34, 0, 0)))
    | 6 => .inr (.ref (ad (35, 0, 0)))
    | 7 => .inr (.ref (ad (36, 0, 0)))
    | 9 => .inr (.ref (ad (37, 0, 0)))
    | 17 => .inr (.ref (ad (38, 0, 0)))
    | 18 => .inr (.ref (ad (39, 0, 0)))
    | 19 => .inr (.ref (ad (40, 0, 0)))
    | 20 => .inr (.ref (ad (41, 0, 0)))
    | 21 => .inr (.ref (ad (42, 0, 0)))
    | 23 => .inr (.ref (ad (43, 0, 0)))
    | 24 => .inr (.ref (ad (44, 0, 0)))
    | 25 => .inr (.ref (ad (45, 0, 0)))
    | 26 => .inr (.ref (ad (46, 0, 0)))
    | 28 => .inr (.ref (ad (47, 0, 0)))
    | 29 => .inr (.ref (ad (48, 0, 0)))
    | 30 => .inr (.ref (ad (49, 0, 0)))
    | 31 => .inr (.ref (ad (50, 0, 0)))
    | _ => .inl 0
  | 49 => .inl 1
  | 50 => .inl 1
  | _ => .inl 0
/-- a House by its number -/
def hvl (ad : Ob → Nat) (z : Int) : Value := if z = 7 then .null else .ref (ad (12, z.toNat, 0))
def vof (ad : Ob → Nat) (q : Nat ⊕ Value) (z : Int) : Value := match q with
  | .inl 0 => .int (I z)
  | .inl 1 => .long (J z)
  | .inl _ => hvl ad z
  | .inr v => v
/-- the memory's values -/
def vl (ad : Ob → Nat) (μ : Me) : Mv := fun o k => vof ad (sk ad o k) (μ o k)
def upM (μ : Me) (o : Ob) (k : Nat) (z : Int) : Me := fun o' k' => if o' = o ∧ k' = k then z else μ o' k'
def upV (ν : Mv) (o : Ob) (k : Nat) (v : Value) : Mv := fun o' k' => if o' = o ∧ k' = k then v else ν o' k'
theorem upV_vl {ad : Ob → Nat} {μ : Me} {o : Ob} {k : Nat} {z : Int} {v : Value} (h : vof ad (sk ad o k) z = v) : upV (vl ad μ) o k v = vl ad (upM μ o k z) := by
  funext o' k'
  by_cases hq : o' = o ∧ k' = k
  · obtain ⟨rfl, rfl⟩ := hq
    simp [upV, vl, upM, h]
  · simp [upV, vl, upM, hq]
theorem vl_st {ad : Ob → Nat} {μ : Me} {o : Ob} {k : Nat} {v : Value} (h : sk ad o k = .inr v) : vl ad μ o k = v := by simp only [vl, h, vof]
theorem vl_i {ad : Ob → Nat} {μ : Me} {o : Ob} {k : Nat} (h : sk ad o k = .inl 0) : vl ad μ o k = .int (I (μ o k)) := by simp only [vl, h, vof]
theorem vl_l {ad : Ob → Nat} {μ : Me} {o : Ob} {k : Nat} (h : sk ad o k = .inl 1) : vl ad μ o k = .long (J (μ o k)) := by simp only [vl, h, vof]
theorem vl_h {ad : Ob → Nat} {μ : Me} {o : Ob} {k : Nat} (h : sk ad o k = .inl 2) : vl ad μ o k = hvl ad (μ o k) := by simp only [vl, h, vof]
/-- an object's cell -/
def cOK (E : Ev) (ad : Ob → Nat) (f : Nat → Value) (o : Ob) (H : Heap) : Prop := match shp o with
  | .inl ci => ∃ r : vw_C, vwCl[ci]? = some r ∧ t_OB (ad o) (E.1.1 ci) r.2.2 (E.1.2 ci) H f
  | .inr (ti, n) => H[ad o]? = some (arrV (E.2.1 ti) n f)
def Wd (E : Ev) (V : Ob → Prop) (ad : Ob → Nat) (ν : Mv) (H : Heap) : Prop :=
  (∀ o, V o → cOK E ad (ν o) o H) ∧ (∀ o o', V o → V o' → ad o = ad o' → o = o') ∧ ∀ o, V o → E.2.2.1 ≤ ad o
def tyA (k : Nat) : FieldType := match k with
  | 0 => .int
  | 1 => .long
  | 2 => .byte
  | 3 => .char
  | 4 => .object "GatesBent$Gate"
  | 5 => .object "GatesBent$Comer"
  | 6 => .object "GatesBent$House"
  | _ => .object "GatesBent$Tape"
def tysE (E : Ev) : List (ClassId × FieldType) := [(E.2.1 0, tyA 0), (E.2.1 1, tyA 1), (E.2.1 2, tyA 2), (E.2.1 3, tyA 3), (E.2.1 4, tyA 4), (E.2.1 5, tyA 5), (E.2.1 6, tyA 6), (E.2.1 7, tyA 7)]
/-- our part of the heap -/
def A0 (E : Ev) : Nat → Prop := fun q => E.2.2.1 ≤ q
def nestW : List Cond := [Cond.methodLinkNest "GatesBent" 11 yX3_init "GatesBent", Cond.methodLinkNest "GatesBent" 36 yX1_init "GatesBent", Cond.methodLinkNest "GatesBent$Town" 42 yX1_init "GatesBent", Cond.methodLinkNest "GatesBent" 72 yX5_init "GatesBent", Cond.methodLinkNest "GatesBent$Gate" 29 yX7_alike "GatesBent", Cond.methodLinkNest "GatesBent$Town" 64 yX7_alike "GatesBent"]
def strW : List (Nat × String) := [(77, "help"), (79, "hinder"), (81, "need"), (82, "age"), (96, "pkvgtd"), (101, "<=>")]
def strLen : List Nat := [4, 6, 4, 3, 6, 3]
def strByt : List (List Int32) := [[104, 101, 108, 112], [104, 105, 110, 100, 101, 114], [110, 101, 101, 100], [97, 103, 101], [112, 107, 118, 103, 116, 100], [60, 61, 62]]
/-- the Strings and the JDK's statics that stand below -/
def Sx (E : Ev) (U : State) : Prop :=
  (∀ i q, strW[i]? = some q → vk_R "GatesBent$Reader" q.1 q.2 (E.2.2.2.1 i) U) ∧ vk_S 6 strLen strByt E.2.2.2.1 E.2.2.2.2 (A0 E) U U.heap ∧
  va_Z "java/lang/String" "COMPACT_STRINGS" "Z" (.int 1) (A0 E) U U.heap ∧ va_Zq "jdk/internal/util/Preconditions" "SIOOBE_FORMATTER" "Ljava/util/function/BiFunction;" (A0 E) U U.heap
def Kn (E : Ev) (U : State) : Prop := va_K E.1 vwCl (tysE E) U ∧ (∀ w ∈ nestW, va_Nw w U) ∧ Sx E U

theorem Kn.next {E : Ev} {s U : State} {H : Heap} {locs : List Loc} {A : Nat → Prop} (h : Kn E s) (hA : ∀ q, A q → A0 E q) (hS : va_S A s.heap H locs) (hU : U.heap = H) (hW : s.WarmedH U.vm) : Kn E U := by
  obtain ⟨h1, h2, h3, h4, h5, h6⟩ := h
  have hq : ∀ a : Nat, a < s.heap.size → ¬ A0 E a → U.heap[a]? = s.heap[a]? := fun a ha hn => by rw [hU]; exact hS.2.1 a ha (fun z => hn (hA a z))
  refine ⟨h1.moved hW.alike, fun w hw => ?_, fun i q hi => (h3 i q hi).warm hW, (h4.moved hW.alike).kept hq, (h5.moved hW.alike).kept hq, (h6.moved hW.alike).kept hq⟩
  have hz := h2 w hw
  simp only [nestW, List.mem_cons, List.not_mem_nil, or_false] at hw
  rcases hw with rfl | rfl | rfl | rfl | rfl | rfl <;> exact hz.warmM hW
theorem Kn.blind {E : Ev} {U : State} (g : JFrame) (mk : MethodId) (a : Array Value) (h : Kn E U) : Kn E (U.calling g mk a) := by
  obtain ⟨h1, h2, h3, h4, h5, h6⟩ := h
  refine ⟨h1.moved (u := U) (U := U.calling g mk a) (Vm.Alike.refl U.vm), fun w hw => ?_, fun i q hi => (h3 i q hi).same (u := U) rfl, h4.moved (u := U) (U := U.calling g mk a) (Vm.Alike.refl U.vm), h5.moved (u := U) (U := U.calling g mk a) (Vm.Alike.refl U.vm), h6.moved (u := U) (U := U.calling g mk a) (Vm.Alike.refl U.vm)⟩
  have hz := h2 w hw
  simp only [nestW, List.mem_cons, List.not_mem_nil, or_false] at hw
  rcases hw with rfl | rfl | rfl | rfl | rfl | rfl <;> exact hz.same rfl (u := U) rfl
/-! the judgement -/
abbrev Ct : Type := Program × Launch × Env × Room × State × MethodId × Array Value × List Frame × Method × Code × (Nat → Prop) × (State → Prop) × Ev
abbrev Pq : Type := Option Value → (Ob → Prop) → (Ob → Nat) → Mv → Prop
def rmD (d mc ms : Nat) : Room := { frames := d, cells := mc, slots := ms, locals := 40 * d }
def QG (E : Ev) (P : Pq) (A : Nat → Prop) : Array Value → State → Outcome → State → Prop := fun _ st oc t => (∃ (v : Option Value) (V : Ob → Prop) (ad : Ob → Nat) (ν : Mv), oc = .returned v ∧ P v V ad ν ∧ Wd E V ad ν t.heap ∧ ∀ o, V o → A (ad o)) ∧ va_F A st t
def XX (Γ : Ct) (nL : Nat) (V : Ob → Prop) (ad : Ob → Nat) (ν : Mv) (cs sl : Nat) (pc : Nat) (L : List (Nat × Value)) (st : List Value) : Prop := match Γ with
  | (p, l, e, R, s, m, args, below, meth, c, A, Q, E) => ∀ (H : Heap) (locs : List Loc) (ls : Array Slot), Wd E V ad ν H → (∀ o, V o → A (ad o)) → va_S A s.heap H locs → lv_has ls nL L → W p l e R s m args below meth c H locs cs sl Q (F0 m pc ls st)
/-- what stands fast in a method: the machine, its code, its class, the words, its post, its room; the words of its cells -/
def Fx (Γ : Ct) (cc : ByteArray) (own : String) (nL : Nat) (ret : Option FieldType) (P : Pq) (d mc ms : Nat) : Prop := match Γ with
  | (p, _, _, R, s, m, args, below, meth, c, A, Q, E) => p.tables.exec = Jvm.exec ∧ c.code = cc ∧ c.maxLocals = nL ∧ s.vm.findClass own = some m.cls ∧ (∀ w ∈ wA, w.before args s = true) ∧ meth.locks = false ∧ meth.sig.returnType = ret ∧
    Kn E s ∧ (∀ q, A q → A0 E q) ∧ R = rmD d mc ms ∧ Q = MQ below (QG E P A) args s mc ms A ∧ (0 < mc → ∀ q, s.heap.size ≤ q → A q)
/-- a method's contract, from the world V, ad, ν and the arguments av -/
def ConG (l : Launch) (E : Ev) (d : Nat) (y : MethodName) (cc : ByteArray) (maxL : Nat) (ret : Option FieldType) (A : Nat → Prop) (V : Ob → Prop) (ad : Ob → Nat) (ν : Mv) (mc ms : Nat) (av : List Value) (P : Pq) : Prop :=
  (∀ o, V o → A (ad o)) → (∀ q, A q → A0 E q) → Met l y (Cond.code y cc maxL ret :: wA) (rmD d mc ms) (fun args U => args = av.toArray ∧ Wd E V ad ν U.heap ∧ Kn E U ∧ (0 < mc → ∀ q, U.heap.size ≤ q → A q)) (QG E P A) mc ms A
theorem conG {l : Launch} {E : Ev} {d : Nat} {y : MethodName} {cc : ByteArray} {maxL : Nat} {ret : Option FieldType} {A : Nat → Prop} {V : Ob → Prop} {ad : Ob → Nat} {ν : Mv} {mc ms : Nat} {av : List Value} {P : Pq} {own : String}
    (hy : plainName y.cls = true) (ho : y.cls = own) (hn : (lg_sl av).length ≤ maxL) {L : List (Nat × Value)} (hL : lv_args 0 av = L)
    (body : ∀ Γ : Ct, Fx Γ cc own maxL ret P d mc ms → Γ.2.1 = l → Γ.2.2.2.2.2.2.2.2.2.2.2.2 = E → XX Γ maxL V ad ν 0 0 0 L []) : ConG l E d y cc maxL ret A V ad ν mc ms av P := by
  intro hA hA0
  refine Met.ofW (cc := cc) (maxL := maxL) (ret := ret) hy rfl ?_
  intro p e s m args below meth c s₁ B hml hv
  obtain ⟨rfl, hW, hK, hz⟩ := hv
  have hts := atoms_spec (ws := Cond.code y cc maxL ret :: wA) B.pre
  have hown : s.vm.findClass own = some m.cls := by rw [← ho]; exact findClass_of_methodNamed B.named
  have h := body (p, l, e, rmD d mc ms, s, m, av.toArray, below, meth, c, A, MQ below (QG E P A) av.toArray s mc ms A, E) ⟨B.exec, B.bytes, hml, hown, fun w hw => hts w (List.mem_cons_of_mem _ hw), B.notSynchronized, B.returns, hK, hA0, rfl, rfl, hz⟩ rfl rfl
  have hl := lv_entry av (n := maxL) hn
  rw [lg_entry_eq]
  subst hL
  exact h s.heap [] _ hW hA va_S.rf hl
/-- locals: the value at a place -/
def lkp : List (Nat × Value) → Nat → Option Value
  | [], _ => none
  | q :: r, i => cond (Nat.beq q.1 i) (some q.2) (lkp r i)
theorem lkp_ok {ls : Array Slot} {n : Nat} {L : List (Nat × Value)} {i : Nat} {v : Value} (h : lv_has ls n L) (hk : lkp L i = some v) : ls[i]? = some (.val v) := by
  obtain ⟨-, -, h⟩ := h
  induction L with
  | nil => cases hk
  | cons q r ih =>
    simp only [lkp] at hk
    cases hb : Nat.beq q.1 i with
    | true =>
      rw [hb] at hk
      cases hk
      have := h q List.mem_cons_self
      rwa [Nat.eq_of_beq_eq_true hb] at this
    | false =>
      rw [hb] at hk
      exact ih hk (fun q hq => h q (List.mem_cons_of_mem _ hq))
def v2 : Value → Bool
  | .long _ => true
  | .double _ => true
  | _ => false
/-- what a store of one slot, or two, at i leaves of the listed locals -/
def er1 (i : Nat) : List (Nat × Value) → List (Nat × Value)
  | [] => []
  | q :: r => cond (Nat.beq q.1 i || (Nat.beq (q.1 + 1) i && v2 q.2)) (er1 i r) (q :: er1 i r)
def er2 (i : Nat) : List (Nat × Value) → List (Nat × Value)
  | [] => []
  | q :: r => cond (Nat.beq q.1 i || Nat.beq q.1 (i + 1) || (Nat.beq (q.1 + 1) i && v2 q.2)) (er2 i r) (q :: er2 i r)
theorem v2_cat (v : Value) : (v.category == 2) = v2 v := by cases v <;> rfl
theorem beq_n (a b : Nat) : (a == b) = Nat.beq a b := by
  cases h : Nat.beq a b with
  | true => rw [Nat.eq_of_beq_eq_true h]; simp
  | false => simpa using Nat.ne_of_beq_eq_false h
theorem er1_eq (i : Nat) (L : List (Nat × Value)) : L.filter (fun q => !(q.1 == i) && !(q.1 + 1 == i && q.2.category == 2)) = er1 i L := by
  induction L with
  | nil => rfl
  | cons q r ih =>
    rw [List.filter_cons, ih]
    simp only [er1, v2_cat]
    simp only [beq_n]
    cases Nat.beq q.1 i <;> cases Nat.beq (q.1 + 1) i <;> cases v2 q.2 <;> rfl
theorem er2_eq (i : Nat) (L : List (Nat × Value)) : L.filter (fun q => !(q.1 == i) && (!(q.1 == i + 1) && !(q.1 + 1 == i && q.2.category == 2))) = er2 i L := by
  induction L with
  | nil => rfl
  | cons q r ih =>
    rw [List.filter_cons, ih]
    simp only [er2, v2_cat]
    simp only [beq_n]
    cases Nat.beq q.1 i <;> cases Nat.beq q.1 (i + 1) <;> cases Nat.beq (q.1 + 1) i <;> cases v2 q.2 <;> rfl
/-- each listed local of L' stands in L -/
def SubL (L : List (Nat × Value)) : List (Nat × Value) → Prop
  | [] => True
  | q :: r => lkp L q.1 = some q.2 ∧ SubL L r
theorem subL_ok {ls : Array Slot} {n : Nat} {L : List (Nat × Value)} (h : lv_has ls n L) : ∀ L' : List (Nat × Value), SubL L L' → lv_has ls n L'
  | [], _ => ⟨h.1, h.2.1, fun q hq => by cases hq⟩
  | q :: r, ⟨h1, h2⟩ => ⟨h.1, h.2.1, fun x hx => by
      rcases List.mem_cons.mp hx with rfl | hx
      · exact lkp_ok h h1
      · exact (subL_ok h r h2).2.2 x hx⟩
end
section
/-! ===== rows of the judgement: locals, stack, numbers, branches ===== -/
theorem I_add (a b : Int) : I a + I b = I (a + b) := (Int32.ofInt_add a b).symm
theorem I_sub (a b : Int) : I a - I b = I (a - b) := (Int32.ofInt_sub a b).symm
theorem I_mul (a b : Int) : I a * I b = I (a * b) := (Int32.ofInt_mul a b).symm
theorem I_neg (a : Int) : - I a = I (-a) := (Int32.ofInt_neg a).symm
theorem I_of (x : Int32) : I x.toInt = x := Int32.ofInt_toInt x
theorem I_toInt {a : Int} (h : -2147483648 ≤ a ∧ a < 2147483648) : (I a).toInt = a := Int32.toInt_ofInt_of_le (by omega) (by omega)
theorem I_lt {a b : Int} (h : -2147483648 ≤ a ∧ a < 2147483648 ∧ -2147483648 ≤ b ∧ b < 2147483648) : I a < I b ↔ a < b := by rw [Int32.lt_iff_toInt_lt, I_toInt (by omega), I_toInt (by omega)]
theorem I_le {a b : Int} (h : -2147483648 ≤ a ∧ a < 2147483648 ∧ -2147483648 ≤ b ∧ b < 2147483648) : I a ≤ I b ↔ a ≤ b := by rw [Int32.le_iff_toInt_le, I_toInt (by omega), I_toInt (by omega)]
theorem I_eq {a b : Int} (h : -2147483648 ≤ a ∧ a < 2147483648 ∧ -2147483648 ≤ b ∧ b < 2147483648) : I a = I b ↔ a = b := by
  constructor
  · intro e
    rw [← I_toInt (a := a) (by omega), ← I_toInt (a := b) (by omega), e]
  · intro e
    rw [e]
theorem I_0 : (0 : Int32) = I 0 := rfl
theorem I_clamp {a : Int} (h : 0 ≤ a ∧ a < 2147483648) : (I a).toNatClampNeg = a.toNat := by
  show (I a).toInt.toNat = a.toNat
  rw [I_toInt (by omega)]
theorem I_nI (n : Nat) : nI n = I n := Int32.ofInt_eq_ofNat.symm
theorem bI_0 (b : Bool) : I (bI b) = 0 ↔ b = false := by cases b <;> decide
theorem bI_rg (b : Bool) : 0 ≤ bI b ∧ bI b ≤ 1 := by cases b <;> decide
theorem bI_t : bI true = 1 := rfl
theorem bI_f : bI false = 0 := rfl
section ROWS
variable {Γ : Ct} {cc : ByteArray} {own : String} {nL : Nat} {ret : Option FieldType} {P : Pq} {d mc ms : Nat} {V : Ob → Prop} {ad : Ob → Nat} {ν : Mv} {cs sl pc : Nat} {L : List (Nat × Value)} {st : List Value}
theorem x_sub {L' : List (Nat × Value)} (h : SubL L L') (k : XX Γ nL V ad ν cs sl pc L' st) : XX Γ nL V ad ν cs sl pc L st := by
  obtain ⟨p, l, e, R, s, m, args, below, meth, c, A, Q, E⟩ := Γ
  intro H locs ls hW hV hS hl
  exact k H locs ls hW hV hS (subL_ok hl L' h)
theorem x_st {st' : List Value} (h : st = st') (k : XX Γ nL V ad ν cs sl pc L st') : XX Γ nL V ad ν cs sl pc L st := h ▸ k
theorem x_wid {cs' sl' : Nat} (h1 : cs ≤ cs') (h2 : sl ≤ sl') (k : XX Γ nL V ad ν cs' sl' pc L st) : XX Γ nL V ad ν cs sl pc L st := by
  obtain ⟨p, l, e, R, s, m, args, below, meth, c, A, Q, E⟩ := Γ
  intro H locs ls hW hV hS hl
  exact W.widen h1 h2 (k H locs ls hW hV hS hl)
theorem x_iconst {n : Int} (F : Fx Γ cc own nL ret P d mc ms) (dd : decode cc pc = .ok (.iconst n, 1)) (k : XX Γ nL V ad ν cs sl (pc + 1) L (.int (I n) :: st)) : XX Γ nL V ad ν cs sl pc L st := by
  obtain ⟨p, l, e, R, s, m, args, below, meth, c, A, Q, E⟩ := Γ
  obtain ⟨hx, hb, hml, hown, hts, hlk, hr, hK, hA0, hR, hQ, hzz⟩ := F
  intro H locs ls hW hV hS hl
  exact lv_iconst hx hb dd rfl (k H locs ls hW hV hS hl)
theorem x_bipush {n : Int} (F : Fx Γ cc own nL ret P d mc ms) (dd : decode cc pc = .ok (.bipush n, 2)) (hn : (Int8.ofInt n).toInt32 = I n) (k : XX Γ nL V ad ν cs sl (pc + 2) L (.int (I n) :: st)) : XX Γ nL V ad ν cs sl pc L st := by
  obtain ⟨p, l, e, R, s, m, args, below, meth, c, A, Q, E⟩ := Γ
  obtain ⟨hx, hb, hml, hown, hts, hlk, hr, hK, hA0, hR, hQ, hzz⟩ := F
  intro H locs ls hW hV hS hl
  exact lv_bipush hx hb dd hn (k H locs ls hW hV hS hl)
theorem x_sipush {n : Int} (F : Fx Γ cc own nL ret P d mc ms) (dd : decode cc pc = .ok (.sipush n, 3)) (hn : (Int16.ofInt n).toInt32 = I n) (k : XX Γ nL V ad ν cs sl (pc + 3) L (.int (I n) :: st)) : XX Γ nL V ad ν cs sl pc L st := by
  obtain ⟨p, l, e, R, s, m, args, below, meth, c, A, Q, E⟩ := Γ
  obtain ⟨hx, hb, hml, hown, hts, hlk, hr, hK, hA0, hR, hQ, hzz⟩ := F
  intro H locs ls hW hV hS hl
  exact lv_sipush hx hb dd hn (k H locs ls hW hV hS hl)
theorem x_lconst {n : Fin 2} {z : Int} (F : Fx Γ cc own nL ret P d mc ms) (dd : decode cc pc = .ok (.lconst n, 1)) (hn : Int64.ofNat (n : Nat) = J z) (k : XX Γ nL V ad ν cs sl (pc + 1) L (.long (J z) :: st)) : XX Γ nL V ad ν cs sl pc L st := by
  obtain ⟨p, l, e, R, s, m, args, below, meth, c, A, Q, E⟩ := Γ
  obtain ⟨hx, hb, hml, hown, hts, hlk, hr, hK, hA0, hR, hQ, hzz⟩ := F
  intro H locs ls hW hV hS hl
  exact lv_lconst hx hb dd hn (k H locs ls hW hV hS hl)
theorem x_ldc {i : Nat} {v : Int32} {z : Int} (F : Fx Γ cc own nL ret P d mc ms) (dd : decode cc pc = .ok (.ldc i, 2)) (hw : Cond.constant own i v ∈ wA) (hv : v = I z) (k : XX Γ nL V ad ν cs sl (pc + 2) L (.int (I z) :: st)) : XX Γ nL V ad ν cs sl pc L st := by
  obtain ⟨p, l, e, R, s, m, args, below, meth, c, A, Q, E⟩ := Γ
  obtain ⟨hx, hb, hml, hown, hts, hlk, hr, hK, hA0, hR, hQ, hzz⟩ := F
  intro H locs ls hW hV hS hl
  subst hv
  exact lv_ldc hx hb hown (hts _ hw) dd (k H locs ls hW hV hS hl)
theorem x_ldcw {i : Nat} {v : Int32} {z : Int} (F : Fx Γ cc own nL ret P d mc ms) (dd : decode cc pc = .ok (.ldc_w i, 3)) (hw : Cond.constant own i v ∈ wA) (hv : v = I z) (k : XX Γ nL V ad ν cs sl (pc + 3) L (.int (I z) :: st)) : XX Γ nL V ad ν cs sl pc L st := by
  obtain ⟨p, l, e, R, s, m, args, below, meth, c, A, Q, E⟩ := Γ
  obtain ⟨hx, hb, hml, hown, hts, hlk, hr, hK, hA0, hR, hQ, hzz⟩ := F
  intro H locs ls hW hV hS hl
  subst hv
  exact lv_ldcw hx hb hown (hts _ hw) dd (k H locs ls hW hV hS hl)
theorem x_ldc2 {i : Nat} {v : Int64} {z : Int} (F : Fx Γ cc own nL ret P d mc ms) (dd : decode cc pc = .ok (.ldc2_w i, 3)) (hw : Cond.constantLong own i v ∈ wA) (hv : v = J z) (k : XX Γ nL V ad ν cs sl (pc + 3) L (.long (J z) :: st)) : XX Γ nL V ad ν cs sl pc L st := by
  obtain ⟨p, l, e, R, s, m, args, below, meth, c, A, Q, E⟩ := Γ
  obtain ⟨hx, hb, hml, hown, hts, hlk, hr, hK, hA0, hR, hQ, hzz⟩ := F
  intro H locs ls hW hV hS hl
  subst hv
  exact lv_ldc2 hx hb hown (hts _ hw) dd (k H locs ls hW hV hS hl)
theorem x_iload_n {k0 : Fin 4} {i : Nat} {x : Int32} (F : Fx Γ cc own nL ret P d mc ms) (dd : decode cc pc = .ok (.iload_n k0, 1)) (hi : (k0 : Nat) = i) (hk : lkp L i = some (.int x)) (k : XX Γ nL V ad ν cs sl (pc + 1) L (.int x :: st)) : XX Γ nL V ad ν cs sl pc L st := by
  obtain ⟨p, l, e, R, s, m, args, below, meth, c, A, Q, E⟩ := Γ
  obtain ⟨hx, hb, hml, hown, hts, hlk, hr, hK, hA0, hR, hQ, hzz⟩ := F
  intro H locs ls hW hV hS hl
  exact lv_iload_n hx hb dd hi (lkp_ok hl hk) (k H locs ls hW hV hS hl)
theorem x_iload {i : Nat} {x : Int32} (F : Fx Γ cc own nL ret P d mc ms) (dd : decode cc pc = .ok (.iload i, 2)) (hk : lkp L i = some (.int x)) (k : XX Γ nL V ad ν cs sl (pc + 2) L (.int x :: st)) : XX Γ nL V ad ν cs sl pc L st := by
  obtain ⟨p, l, e, R, s, m, args, below, meth, c, A, Q, E⟩ := Γ
  obtain ⟨hx, hb, hml, hown, hts, hlk, hr, hK, hA0, hR, hQ, hzz⟩ := F
  intro H locs ls hW hV hS hl
  exact lv_iload hx hb dd (lkp_ok hl hk) (k H locs ls hW hV hS hl)
theorem x_aload_n {k0 : Fin 4} {i : Nat} {x : Nat} (F : Fx Γ cc own nL ret P d mc ms) (dd : decode cc pc = .ok (.aload_n k0, 1)) (hi : (k0 : Nat) = i) (hk : lkp L i = some (.ref x)) (k : XX Γ nL V ad ν cs sl (pc + 1) L (.ref x :: st)) : XX Γ nL V ad ν cs sl pc L st := by
  obtain ⟨p, l, e, R, s, m, args, below, meth, c, A, Q, E⟩ := Γ
  obtain ⟨hx, hb, hml, hown, hts, hlk, hr, hK, hA0, hR, hQ, hzz⟩ := F
  intro H locs ls hW hV hS hl
  exact lv_aload_n hx hb dd hi (lkp_ok hl hk) (k H locs ls hW hV hS hl)
theorem x_aload {i : Nat} {x : Nat} (F : Fx Γ cc own nL ret P d mc ms) (dd : decode cc pc = .ok (.aload i, 2)) (hk : lkp L i = some (.ref x)) (k : XX Γ nL V ad ν cs sl (pc + 2) L (.ref x :: st)) : XX Γ nL V ad ν cs sl pc L st := by
  obtain ⟨p, l, e, R, s, m, args, below, meth, c, A, Q, E⟩ := Γ
  obtain ⟨hx, hb, hml, hown, hts, hlk, hr, hK, hA0, hR, hQ, hzz⟩ := F
  intro H locs ls hW hV hS hl
  exact lv_aload hx hb dd (lkp_ok hl hk) (k H locs ls hW hV hS hl)
theorem x_lload_n {k0 : Fin 4} {i : Nat} {x : Int64} (F : Fx Γ cc own nL ret P d mc ms) (dd : decode cc pc = .ok (.lload_n k0, 1)) (hi : (k0 : Nat) = i) (hk : lkp L i = some (.long x)) (k : XX Γ nL V ad ν cs sl (pc + 1) L (.long x :: st)) : XX Γ nL V ad ν cs sl pc L st := by
  obtain ⟨p, l, e, R, s, m, args, below, meth, c, A, Q, E⟩ := Γ
  obtain ⟨hx, hb, hml, hown, hts, hlk, hr, hK, hA0, hR, hQ, hzz⟩ := F
  intro H locs ls hW hV hS hl
  exact lv_lload_n hx hb dd hi (lkp_ok hl hk) (k H locs ls hW hV hS hl)
theorem x_lload {i : Nat} {x : Int64} (F : Fx Γ cc own nL ret P d mc ms) (dd : decode cc pc = .ok (.lload i, 2)) (hk : lkp L i = some (.long x)) (k : XX Γ nL V ad ν cs sl (pc + 2) L (.long x :: st)) : XX Γ nL V ad ν cs sl pc L st := by
  obtain ⟨p, l, e, R, s, m, args, below, meth, c, A, Q, E⟩ := Γ
  obtain ⟨hx, hb, hml, hown, hts, hlk, hr, hK, hA0, hR, hQ, hzz⟩ := F
  intro H locs ls hW hV hS hl
  exact lv_lload hx hb dd (lkp_ok hl hk) (k H locs ls hW hV hS hl)
theorem x_istore_n {k0 : Fin 4} {i : Nat} {x : Int32} (F : Fx Γ cc own nL ret P d mc ms) (dd : decode cc pc = .ok (.istore_n k0, 1)) (hi : (k0 : Nat) = i) (hn : Nat.ble (i + 1) nL = true) (k : XX Γ nL V ad ν cs sl (pc + 1) ((i, Value.int x) :: er1 i L) st) : XX Γ nL V ad ν cs sl pc L (.int x :: st) := by
  obtain ⟨p, l, e, R, s, m, args, below, meth, c, A, Q, E⟩ := Γ
  obtain ⟨hx, hb, hml, hown, hts, hlk, hr, hK, hA0, hR, hQ, hzz⟩ := F
  intro H locs ls hW hV hS hl
  exact lv_istore_n hx hb dd hi hl (Nat.le_of_ble_eq_true hn) (by rw [er1_eq]) (fun ls hl => k H locs ls hW hV hS hl)
theorem x_istore {i : Nat} {x : Int32} (F : Fx Γ cc own nL ret P d mc ms) (dd : decode cc pc = .ok (.istore i, 2)) (hn : Nat.ble (i + 1) nL = true) (k : XX Γ nL V ad ν cs sl (pc + 2) ((i, Value.int x) :: er1 i L) st) : XX Γ nL V ad ν cs sl pc L (.int x :: st) := by
  obtain ⟨p, l, e, R, s, m, args, below, meth, c, A, Q, E⟩ := Γ
  obtain ⟨hx, hb, hml, hown, hts, hlk, hr, hK, hA0, hR, hQ, hzz⟩ := F
  intro H locs ls hW hV hS hl
  exact lv_istore hx hb dd hl (Nat.le_of_ble_eq_true hn) (by rw [er1_eq]) (fun ls hl => k H locs ls hW hV hS hl)
theorem x_astore_n {k0 : Fin 4} {i : Nat} {x : Nat} (F : Fx Γ cc own nL ret P d mc ms) (dd : decode cc pc = .ok (.astore_n k0, 1)) (hi : (k0 : Nat) = i) (hn : Nat.ble (i + 1) nL = true) (k : XX Γ nL V ad ν cs sl (pc + 1) ((i, Value.ref x) :: er1 i L) st) : XX Γ nL V ad ν cs sl pc L (.ref x :: st) := by
  obtain ⟨p, l, e, R, s, m, args, below, meth, c, A, Q, E⟩ := Γ
  obtain ⟨hx, hb, hml, hown, hts, hlk, hr, hK, hA0, hR, hQ, hzz⟩ := F
  intro H locs ls hW hV hS hl
  exact lv_astore_n hx hb dd hi hl (Nat.le_of_ble_eq_true hn) (by rw [er1_eq]) (fun ls hl => k H locs ls hW hV hS hl)
theorem x_astore {i : Nat} {x : Nat} (F : Fx Γ cc own nL ret P d mc ms) (dd : decode cc pc = .ok (.astore i, 2)) (hn : Nat.ble (i + 1) nL = true) (k : XX Γ nL V ad ν cs sl (pc + 2) ((i, Value.ref x) :: er1 i L) st) : XX Γ nL V ad ν cs sl pc L (.ref x :: st) := by
  obtain ⟨p, l, e, R, s, m, args, below, meth, c, A, Q, E⟩ := Γ
  obtain ⟨hx, hb, hml, hown, hts, hlk, hr, hK, hA0, hR, hQ, hzz⟩ := F
  intro H locs ls hW hV hS hl
  exact lv_astore hx hb dd hl (Nat.le_of_ble_eq_true hn) (by rw [er1_eq]) (fun ls hl => k H locs ls hW hV hS hl)
theorem x_lstore {i : Nat} {x : Int64} (F : Fx Γ cc own nL ret P d mc ms) (dd : decode cc pc = .ok (.lstore i, 2)) (hn : Nat.ble (i + 2) nL = true) (k : XX Γ nL V ad ν cs sl (pc + 2) ((i, Value.long x) :: er2 i L) st) : XX Γ nL V ad ν cs sl pc L (.long x :: st) := by
  obtain ⟨p, l, e, R, s, m, args, below, meth, c, A, Q, E⟩ := Γ
  obtain ⟨hx, hb, hml, hown, hts, hlk, hr, hK, hA0, hR, hQ, hzz⟩ := F
  intro H locs ls hW hV hS hl
  exact lv_lstore hx hb dd hl (Nat.le_of_ble_eq_true hn) (by rw [er2_eq]) (fun ls hl => k H locs ls hW hV hS hl)
theorem x_iinc {i : Nat} {n a : Int} (F : Fx Γ cc own nL ret P d mc ms) (dd : decode cc pc = .ok (.iinc i n, 3)) (hk : lkp L i = some (.int (I a))) (hn : Nat.ble (i + 1) nL = true) (k : XX Γ nL V ad ν cs sl (pc + 3) ((i, Value.int (I (a + n))) :: er1 i L) st) : XX Γ nL V ad ν cs sl pc L st := by
  obtain ⟨p, l, e, R, s, m, args, below, meth, c, A, Q, E⟩ := Γ
  obtain ⟨hx, hb, hml, hown, hts, hlk, hr, hK, hA0, hR, hQ, hzz⟩ := F
  intro H locs ls hW hV hS hl
  have hl2 : lv_has ls nL [(i, .int (I a))] := subL_ok hl _ ⟨hk, trivial⟩
  have hj : lv_has ls nL ((i, Value.int (I a)) :: L) := ⟨hl.1, hl.2.1, fun q hq => by
    rcases List.mem_cons.mp hq with rfl | hq
    · exact hl2.2.2 _ List.mem_cons_self
    · exact hl.2.2 q hq⟩
  refine lv_iinc (k := 0) (v := I (a + n)) hx hb dd hj rfl (I_add a n) (Nat.le_of_ble_eq_true hn) rfl (fun ls hl => ?_)
  refine k H locs ls hW hV hS ?_
  rw [← er1_eq]
  refine ⟨hl.1, hl.2.1, fun q hq => hl.2.2 q ?_⟩
  rcases List.mem_cons.mp hq with rfl | hq
  · exact List.mem_cons_self
  · refine List.mem_cons_of_mem _ ?_
    rw [List.mem_filter] at hq ⊢
    exact ⟨List.mem_cons_of_mem _ hq.1, hq.2⟩
theorem x_iadd {a b : Int} (F : Fx Γ cc own nL ret P d mc ms) (dd : decode cc pc = .ok (.iadd, 1)) (k : XX Γ nL V ad ν cs sl (pc + 1) L (.int (I (a + b)) :: st)) : XX Γ nL V ad ν cs sl pc L (.int (I b) :: .int (I a) :: st) := by
  obtain ⟨p, l, e, R, s, m, args, below, meth, c, A, Q, E⟩ := Γ
  obtain ⟨hx, hb, hml, hown, hts, hlk, hr, hK, hA0, hR, hQ, hzz⟩ := F
  intro H locs ls hW hV hS hl
  refine lv_iadd hx hb dd  ?_
  rw [I_add]
  exact k H locs ls hW hV hS hl
theorem x_isub {a b : Int} (F : Fx Γ cc own nL ret P d mc ms) (dd : decode cc pc = .ok (.isub, 1)) (k : XX Γ nL V ad ν cs sl (pc + 1) L (.int (I (a - b)) :: st)) : XX Γ nL V ad ν cs sl pc L (.int (I b) :: .int (I a) :: st) := by
  obtain ⟨p, l, e, R, s, m, args, below, meth, c, A, Q, E⟩ := Γ
  obtain ⟨hx, hb, hml, hown, hts, hlk, hr, hK, hA0, hR, hQ, hzz⟩ := F
  intro H locs ls hW hV hS hl
  refine lv_isub hx hb dd  ?_
  rw [I_sub]
  exact k H locs ls hW hV hS hl
theorem x_imul {a b : Int} (F : Fx Γ cc own nL ret P d mc ms) (dd : decode cc pc = .ok (.imul, 1)) (k : XX Γ nL V ad ν cs sl (pc + 1) L (.int (I (a * b)) :: st)) : XX Γ nL V ad ν cs sl pc L (.int (I b) :: .int (I a) :: st) := by
  obtain ⟨p, l, e, R, s, m, args, below, meth, c, A, Q, E⟩ := Γ
  obtain ⟨hx, hb, hml, hown, hts, hlk, hr, hK, hA0, hR, hQ, hzz⟩ := F
  intro H locs ls hW hV hS hl
  refine lv_imul hx hb dd  ?_
  rw [I_mul]
  exact k H locs ls hW hV hS hl
theorem x_ineg {a : Int} (F : Fx Γ cc own nL ret P d mc ms) (dd : decode cc pc = .ok (.ineg, 1)) (k : XX Γ nL V ad ν cs sl (pc + 1) L (.int (I (-a)) :: st)) : XX Γ nL V ad ν cs sl pc L (.int (I a) :: st) := by
  obtain ⟨p, l, e, R, s, m, args, below, meth, c, A, Q, E⟩ := Γ
  obtain ⟨hx, hb, hml, hown, hts, hlk, hr, hK, hA0, hR, hQ, hzz⟩ := F
  intro H locs ls hW hV hS hl
  refine lv_ineg hx hb dd  ?_
  rw [I_neg]
  exact k H locs ls hW hV hS hl
theorem r_ixor {x y z : Int32} (F : Fx Γ cc own nL ret P d mc ms) (dd : decode cc pc = .ok (.ixor, 1)) (hz : x ^^^ y = z) (k : XX Γ nL V ad ν cs sl (pc + 1) L (.int z :: st)) : XX Γ nL V ad ν cs sl pc L (.int y :: .int x :: st) := by
  obtain ⟨p, l, e, R, s, m, args, below, meth, c, A, Q, E⟩ := Γ
  obtain ⟨hx, hb, hml, hown, hts, hlk, hr, hK, hA0, hR, hQ, hzz⟩ := F
  intro H locs ls hW hV hS hl
  refine lv_ixor hx hb dd  ?_
  rw [hz]
  exact k H locs ls hW hV hS hl
theorem r_iand {x y z : Int32} (F : Fx Γ cc own nL ret P d mc ms) (dd : decode cc pc = .ok (.iand, 1)) (hz : x &&& y = z) (k : XX Γ nL V ad ν cs sl (pc + 1) L (.int z :: st)) : XX Γ nL V ad ν cs sl pc L (.int y :: .int x :: st) := by
  obtain ⟨p, l, e, R, s, m, args, below, meth, c, A, Q, E⟩ := Γ
  obtain ⟨hx, hb, hml, hown, hts, hlk, hr, hK, hA0, hR, hQ, hzz⟩ := F
  intro H locs ls hW hV hS hl
  refine lv_iand hx hb dd  ?_
  rw [hz]
  exact k H locs ls hW hV hS hl
theorem r_ior {x y z : Int32} (F : Fx Γ cc own nL ret P d mc ms) (dd : decode cc pc = .ok (.ior, 1)) (hz : x ||| y = z) (k : XX Γ nL V ad ν cs sl (pc + 1) L (.int z :: st)) : XX Γ nL V ad ν cs sl pc L (.int y :: .int x :: st) := by
  obtain ⟨p, l, e, R, s, m, args, below, meth, c, A, Q, E⟩ := Γ
  obtain ⟨hx, hb, hml, hown, hts, hlk, hr, hK, hA0, hR, hQ, hzz⟩ := F
  intro H locs ls hW hV hS hl
  refine lv_ior hx hb dd  ?_
  rw [hz]
  exact k H locs ls hW hV hS hl
theorem r_ishl {x y z : Int32} (F : Fx Γ cc own nL ret P d mc ms) (dd : decode cc pc = .ok (.ishl, 1)) (hz : x <<< (y &&& 31) = z) (k : XX Γ nL V ad ν cs sl (pc + 1) L (.int z :: st)) : XX Γ nL V ad ν cs sl pc L (.int y :: .int x :: st) := by
  obtain ⟨p, l, e, R, s, m, args, below, meth, c, A, Q, E⟩ := Γ
  obtain ⟨hx, hb, hml, hown, hts, hlk, hr, hK, hA0, hR, hQ, hzz⟩ := F
  intro H locs ls hW hV hS hl
  refine lv_ishl hx hb dd  ?_
  rw [hz]
  exact k H locs ls hW hV hS hl
theorem r_ishr {x y z : Int32} (F : Fx Γ cc own nL ret P d mc ms) (dd : decode cc pc = .ok (.ishr, 1)) (hz : x >>> (y &&& 31) = z) (k : XX Γ nL V ad ν cs sl (pc + 1) L (.int z :: st)) : XX Γ nL V ad ν cs sl pc L (.int y :: .int x :: st) := by
  obtain ⟨p, l, e, R, s, m, args, below, meth, c, A, Q, E⟩ := Γ
  obtain ⟨hx, hb, hml, hown, hts, hlk, hr, hK, hA0, hR, hQ, hzz⟩ := F
  intro H locs ls hW hV hS hl
  refine lv_ishr hx hb dd  ?_
  rw [hz]
  exact k H locs ls hW hV hS hl
theorem r_iushr {x y z : Int32} (F : Fx Γ cc own nL ret P d mc ms) (dd : decode cc pc = .ok (.iushr, 1)) (hv : (x.toUInt32 >>> (y.toUInt32 &&& Int32.toUInt32 31)).toInt32 = z) (k : XX Γ nL V ad ν cs sl (pc + 1) L (.int z :: st)) : XX Γ nL V ad ν cs sl pc L (.int y :: .int x :: st) := by
  obtain ⟨p, l, e, R, s, m, args, below, meth, c, A, Q, E⟩ := Γ
  obtain ⟨hx, hb, hml, hown, hts, hlk, hr, hK, hA0, hR, hQ, hzz⟩ := F
  intro H locs ls hW hV hS hl
  exact lv_iushr hx hb dd hv (k H locs ls hW hV hS hl)
theorem r_idiv {x y z : Int32} (F : Fx Γ cc own nL ret P d mc ms) (dd : decode cc pc = .ok (.idiv, 1)) (hne : ¬ y = 0) (hz : x / y = z) (k : XX Γ nL V ad ν cs sl (pc + 1) L (.int z :: st)) : XX Γ nL V ad ν cs sl pc L (.int y :: .int x :: st) := by
  obtain ⟨p, l, e, R, s, m, args, below, meth, c, A, Q, E⟩ := Γ
  obtain ⟨hx, hb, hml, hown, hts, hlk, hr, hK, hA0, hR, hQ, hzz⟩ := F
  intro H locs ls hW hV hS hl
  subst hz
  exact lv_idiv hx hb dd hne (k H locs ls hW hV hS hl)
theorem r_irem {x y z : Int32} (F : Fx Γ cc own nL ret P d mc ms) (dd : decode cc pc = .ok (.irem, 1)) (hne : ¬ y = 0) (hz : x - x / y * y = z) (k : XX Γ nL V ad ν cs sl (pc + 1) L (.int z :: st)) : XX Γ nL V ad ν cs sl pc L (.int y :: .int x :: st) := by
  obtain ⟨p, l, e, R, s, m, args, below, meth, c, A, Q, E⟩ := Γ
  obtain ⟨hx, hb, hml, hown, hts, hlk, hr, hK, hA0, hR, hQ, hzz⟩ := F
  intro H locs ls hW hV hS hl
  subst hz
  exact lv_irem hx hb dd hne (k H locs ls hW hV hS hl)
theorem r_i2l {x : Int32} {z : Int64} (F : Fx Γ cc own nL ret P d mc ms) (dd : decode cc pc = .ok (.i2l, 1)) (hz : x.toInt64 = z) (k : XX Γ nL V ad ν cs sl (pc + 1) L (.long z :: st)) : XX Γ nL V ad ν cs sl pc L (.int x :: st) := by
  obtain ⟨p, l, e, R, s, m, args, below, meth, c, A, Q, E⟩ := Γ
  obtain ⟨hx, hb, hml, hown, hts, hlk, hr, hK, hA0, hR, hQ, hzz⟩ := F
  intro H locs ls hW hV hS hl
  exact lv_i2l hx hb dd hz (k H locs ls hW hV hS hl)
theorem r_l2i {x : Int64} {z : Int32} (F : Fx Γ cc own nL ret P d mc ms) (dd : decode cc pc = .ok (.l2i, 1)) (hz : x.toInt32 = z) (k : XX Γ nL V ad ν cs sl (pc + 1) L (.int z :: st)) : XX Γ nL V ad ν cs sl pc L (.long x :: st) := by
  obtain ⟨p, l, e, R, s, m, args, below, meth, c, A, Q, E⟩ := Γ
  obtain ⟨hx, hb, hml, hown, hts, hlk, hr, hK, hA0, hR, hQ, hzz⟩ := F
  intro H locs ls hW hV hS hl
  exact lv_l2i hx hb dd hz (k H locs ls hW hV hS hl)
theorem r_i2b {x : Int32} {z : Int32} (F : Fx Γ cc own nL ret P d mc ms) (dd : decode cc pc = .ok (.i2b, 1)) (hz : x.toInt8.toInt32 = z) (k : XX Γ nL V ad ν cs sl (pc + 1) L (.int z :: st)) : XX Γ nL V ad ν cs sl pc L (.int x :: st) := by
  obtain ⟨p, l, e, R, s, m, args, below, meth, c, A, Q, E⟩ := Γ
  obtain ⟨hx, hb, hml, hown, hts, hlk, hr, hK, hA0, hR, hQ, hzz⟩ := F
  intro H locs ls hW hV hS hl
  exact lv_i2b hx hb dd hz (k H locs ls hW hV hS hl)
theorem x_i2l {a : Int} (F : Fx Γ cc own nL ret P d mc ms) (dd : decode cc pc = .ok (.i2l, 1)) (ha : -2147483648 ≤ a ∧ a < 2147483648) (k : XX Γ nL V ad ν cs sl (pc + 1) L (.long (J a) :: st)) : XX Γ nL V ad ν cs sl pc L (.int (I a) :: st) := by
  obtain ⟨p, l, e, R, s, m, args, below, meth, c, A, Q, E⟩ := Γ
  obtain ⟨hx, hb, hml, hown, hts, hlk, hr, hK, hA0, hR, hQ, hzz⟩ := F
  intro H locs ls hW hV hS hl
  refine lv_i2l (v := J a) hx hb dd ?_ (k H locs ls hW hV hS hl)
  rw [← Int64.ofInt_int32ToInt, I_toInt ha]
  rfl
theorem r_ladd {x y z : Int64} (F : Fx Γ cc own nL ret P d mc ms) (dd : decode cc pc = .ok (.ladd, 1)) (hz : x + y = z) (k : XX Γ nL V ad ν cs sl (pc + 1) L (.long z :: st)) : XX Γ nL V ad ν cs sl pc L (.long y :: .long x :: st) := by
  obtain ⟨p, l, e, R, s, m, args, below, meth, c, A, Q, E⟩ := Γ
  obtain ⟨hx, hb, hml, hown, hts, hlk, hr, hK, hA0, hR, hQ, hzz⟩ := F
  intro H locs ls hW hV hS hl
  refine lv_ladd hx hb dd  ?_
  rw [hz]
  exact k H locs ls hW hV hS hl
theorem r_land {x y z : Int64} (F : Fx Γ cc own nL ret P d mc ms) (dd : decode cc pc = .ok (.land, 1)) (hz : x &&& y = z) (k : XX Γ nL V ad ν cs sl (pc + 1) L (.long z :: st)) : XX Γ nL V ad ν cs sl pc L (.long y :: .long x :: st) := by
  obtain ⟨p, l, e, R, s, m, args, below, meth, c, A, Q, E⟩ := Γ
  obtain ⟨hx, hb, hml, hown, hts, hlk, hr, hK, hA0, hR, hQ, hzz⟩ := F
  intro H locs ls hW hV hS hl
  refine lv_land hx hb dd  ?_
  rw [hz]
  exact k H locs ls hW hV hS hl
theorem r_lor {x y z : Int64} (F : Fx Γ cc own nL ret P d mc ms) (dd : decode cc pc = .ok (.lor, 1)) (hz : x ||| y = z) (k : XX Γ nL V ad ν cs sl (pc + 1) L (.long z :: st)) : XX Γ nL V ad ν cs sl pc L (.long y :: .long x :: st) := by
  obtain ⟨p, l, e, R, s, m, args, below, meth, c, A, Q, E⟩ := Γ
  obtain ⟨hx, hb, hml, hown, hts, hlk, hr, hK, hA0, hR, hQ, hzz⟩ := F
  intro H locs ls hW hV hS hl
  refine lv_lor hx hb dd  ?_
  rw [hz]
  exact k H locs ls hW hV hS hl
theorem r_ldiv {x y z : Int64} (F : Fx Γ cc own nL ret P d mc ms) (dd : decode cc pc = .ok (.ldiv, 1)) (hne : ¬ y = 0) (hz : x / y = z) (k : XX Γ nL V ad ν cs sl (pc + 1) L (.long z :: st)) : XX Γ nL V ad ν cs sl pc L (.long y :: .long x :: st) := by
  obtain ⟨p, l, e, R, s, m, args, below, meth, c, A, Q, E⟩ := Γ
  obtain ⟨hx, hb, hml, hown, hts, hlk, hr, hK, hA0, hR, hQ, hzz⟩ := F
  intro H locs ls hW hV hS hl
  subst hz
  exact lv_ldiv hx hb dd hne (k H locs ls hW hV hS hl)
theorem r_lrem {x y z : Int64} (F : Fx Γ cc own nL ret P d mc ms) (dd : decode cc pc = .ok (.lrem, 1)) (hne : ¬ y = 0) (hz : x - x / y * y = z) (k : XX Γ nL V ad ν cs sl (pc + 1) L (.long z :: st)) : XX Γ nL V ad ν cs sl pc L (.long y :: .long x :: st) := by
  obtain ⟨p, l, e, R, s, m, args, below, meth, c, A, Q, E⟩ := Γ
  obtain ⟨hx, hb, hml, hown, hts, hlk, hr, hK, hA0, hR, hQ, hzz⟩ := F
  intro H locs ls hW hV hS hl
  subst hz
  exact lv_lrem hx hb dd hne (k H locs ls hW hV hS hl)
theorem x_dup {v : Value} (F : Fx Γ cc own nL ret P d mc ms) (dd : decode cc pc = .ok (.dup, 1)) (hv : v.category = 1) (k : XX Γ nL V ad ν cs sl (pc + 1) L (v :: v :: st)) : XX Γ nL V ad ν cs sl pc L (v :: st) := by
  obtain ⟨p, l, e, R, s, m, args, below, meth, c, A, Q, E⟩ := Γ
  obtain ⟨hx, hb, hml, hown, hts, hlk, hr, hK, hA0, hR, hQ, hzz⟩ := F
  intro H locs ls hW hV hS hl
  exact lv_dup hx hb dd hv (k H locs ls hW hV hS hl)
theorem x_pop {v : Value} (F : Fx Γ cc own nL ret P d mc ms) (dd : decode cc pc = .ok (.pop, 1)) (hv : v.category = 1) (k : XX Γ nL V ad ν cs sl (pc + 1) L st) : XX Γ nL V ad ν cs sl pc L (v :: st) := by
  obtain ⟨p, l, e, R, s, m, args, below, meth, c, A, Q, E⟩ := Γ
  obtain ⟨hx, hb, hml, hown, hts, hlk, hr, hK, hA0, hR, hQ, hzz⟩ := F
  intro H locs ls hW hV hS hl
  exact lv_pop hx hb dd hv (k H locs ls hW hV hS hl)
theorem x_icmp_eq {a b off : Int} {tgt : Nat} (F : Fx Γ cc own nL ret P d mc ms) (dd : decode cc pc = .ok (.if_icmp .eq off, 3)) (ht : (pc : Int) + off = (tgt : Int)) (hg : -2147483648 ≤ a ∧ a < 2147483648 ∧ -2147483648 ≤ b ∧ b < 2147483648) (kt : a = b → XX Γ nL V ad ν cs sl tgt L st) (kf : ¬ a = b → XX Γ nL V ad ν cs sl (pc + 3) L st) : XX Γ nL V ad ν cs sl pc L (.int (I b) :: .int (I a) :: st) := by
  obtain ⟨p, l, e, R, s, m, args, below, meth, c, A, Q, E⟩ := Γ
  obtain ⟨hx, hb, hml, hown, hts, hlk, hr, hK, hA0, hR, hQ, hzz⟩ := F
  intro H locs ls hW hV hS hl
  refine lv_icmp_eq hx hb dd ht (fun hh => kt ?_ H locs ls hW hV hS hl) (fun hh => kf ?_ H locs ls hW hV hS hl)
  · rw [I_eq (by omega)] at hh
    exact hh
  · rw [I_eq (by omega)] at hh
    exact hh
theorem x_if_eq {a off : Int} {tgt : Nat} (F : Fx Γ cc own nL ret P d mc ms) (dd : decode cc pc = .ok (.ifCond .eq off, 3)) (ht : (pc : Int) + off = (tgt : Int)) (hg : -2147483648 ≤ a ∧ a < 2147483648) (kt : a = 0 → XX Γ nL V ad ν cs sl tgt L st) (kf : ¬ a = 0 → XX Γ nL V ad ν cs sl (pc + 3) L st) : XX Γ nL V ad ν cs sl pc L (.int (I a) :: st) := by
  obtain ⟨p, l, e, R, s, m, args, below, meth, c, A, Q, E⟩ := Γ
  obtain ⟨hx, hb, hml, hown, hts, hlk, hr, hK, hA0, hR, hQ, hzz⟩ := F
  intro H locs ls hW hV hS hl
  refine lv_if_eq hx hb dd ht (fun hh => kt ?_ H locs ls hW hV hS hl) (fun hh => kf ?_ H locs ls hW hV hS hl)
  · rw [I_0, I_eq (by omega)] at hh
    exact hh
  · rw [I_0, I_eq (by omega)] at hh
    exact hh
theorem x_icmp_ne {a b off : Int} {tgt : Nat} (F : Fx Γ cc own nL ret P d mc ms) (dd : decode cc pc = .ok (.if_icmp .ne off, 3)) (ht : (pc : Int) + off = (tgt : Int)) (hg : -2147483648 ≤ a ∧ a < 2147483648 ∧ -2147483648 ≤ b ∧ b < 2147483648) (kt : ¬ a = b → XX Γ nL V ad ν cs sl tgt L st) (kf : a = b → XX Γ nL V ad ν cs sl (pc + 3) L st) : XX Γ nL V ad ν cs sl pc L (.int (I b) :: .int (I a) :: st) := by
  obtain ⟨p, l, e, R, s, m, args, below, meth, c, A, Q, E⟩ := Γ
  obtain ⟨hx, hb, hml, hown, hts, hlk, hr, hK, hA0, hR, hQ, hzz⟩ := F
  intro H locs ls hW hV hS hl
  refine lv_icmp_ne hx hb dd ht (fun hh => kt ?_ H locs ls hW hV hS hl) (fun hh => kf ?_ H locs ls hW hV hS hl)
  · rw [I_eq (by omega)] at hh
    exact hh
  · rw [I_eq (by omega)] at hh
    exact hh
theorem x_if_ne {a off : Int} {tgt : Nat} (F : Fx Γ cc own nL ret P d mc ms) (dd : decode cc pc = .ok (.ifCond .ne off, 3)) (ht : (pc : Int) + off = (tgt : Int)) (hg : -2147483648 ≤ a ∧ a < 2147483648) (kt : ¬ a = 0 → XX Γ nL V ad ν cs sl tgt L st) (kf : a = 0 → XX Γ nL V ad ν cs sl (pc + 3) L st) : XX Γ nL V ad ν cs sl pc L (.int (I a) :: st) := by
  obtain ⟨p, l, e, R, s, m, args, below, meth, c, A, Q, E⟩ := Γ
  obtain ⟨hx, hb, hml, hown, hts, hlk, hr, hK, hA0, hR, hQ, hzz⟩ := F
  intro H locs ls hW hV hS hl
  refine lv_if_ne hx hb dd ht (fun hh => kt ?_ H locs ls hW hV hS hl) (fun hh => kf ?_ H locs ls hW hV hS hl)
  · rw [I_0, I_eq (by omega)] at hh
    exact hh
  · rw [I_0, I_eq (by omega)] at hh
    exact hh
theorem x_icmp_lt {a b off : Int} {tgt : Nat} (F : Fx Γ cc own nL ret P d mc ms) (dd : decode cc pc = .ok (.if_icmp .lt off, 3)) (ht : (pc : Int) + off = (tgt : Int)) (hg : -2147483648 ≤ a ∧ a < 2147483648 ∧ -2147483648 ≤ b ∧ b < 2147483648) (kt : a < b → XX Γ nL V ad ν cs sl tgt L st) (kf : ¬ a < b → XX Γ nL V ad ν cs sl (pc + 3) L st) : XX Γ nL V ad ν cs sl pc L (.int (I b) :: .int (I a) :: st) := by
  obtain ⟨p, l, e, R, s, m, args, below, meth, c, A, Q, E⟩ := Γ
  obtain ⟨hx, hb, hml, hown, hts, hlk, hr, hK, hA0, hR, hQ, hzz⟩ := F
  intro H locs ls hW hV hS hl
  refine lv_icmp_lt hx hb dd ht (fun hh => kt ?_ H locs ls hW hV hS hl) (fun hh => kf ?_ H locs ls hW hV hS hl)
  · rw [I_lt (by omega)] at hh
    exact hh
  · rw [I_lt (by omega)] at hh
    exact hh
theorem x_if_lt {a off : Int} {tgt : Nat} (F : Fx Γ cc own nL ret P d mc ms) (dd : decode cc pc = .ok (.ifCond .lt off, 3)) (ht : (pc : Int) + off = (tgt : Int)) (hg : -2147483648 ≤ a ∧ a < 2147483648) (kt : a < 0 → XX Γ nL V ad ν cs sl tgt L st) (kf : ¬ a < 0 → XX Γ nL V ad ν cs sl (pc + 3) L st) : XX Γ nL V ad ν cs sl pc L (.int (I a) :: st) := by
  obtain ⟨p, l, e, R, s, m, args, below, meth, c, A, Q, E⟩ := Γ
  obtain ⟨hx, hb, hml, hown, hts, hlk, hr, hK, hA0, hR, hQ, hzz⟩ := F
  intro H locs ls hW hV hS hl
  refine lv_if_lt hx hb dd ht (fun hh => kt ?_ H locs ls hW hV hS hl) (fun hh => kf ?_ H locs ls hW hV hS hl)
  · rw [I_0, I_lt (by omega)] at hh
    exact hh
  · rw [I_0, I_lt (by omega)] at hh
    exact hh
theorem x_icmp_ge {a b off : Int} {tgt : Nat} (F : Fx Γ cc own nL ret P d mc ms) (dd : decode cc pc = .ok (.if_icmp .ge off, 3)) (ht : (pc : Int) + off = (tgt : Int)) (hg : -2147483648 ≤ a ∧ a < 2147483648 ∧ -2147483648 ≤ b ∧ b < 2147483648) (kt : b ≤ a → XX Γ nL V ad ν cs sl tgt L st) (kf : ¬ b ≤ a → XX Γ nL V ad ν cs sl (pc + 3) L st) : XX Γ nL V ad ν cs sl pc L (.int (I b) :: .int (I a) :: st) := by
  obtain ⟨p, l, e, R, s, m, args, below, meth, c, A, Q, E⟩ := Γ
  obtain ⟨hx, hb, hml, hown, hts, hlk, hr, hK, hA0, hR, hQ, hzz⟩ := F
  intro H locs ls hW hV hS hl
  refine lv_icmp_ge hx hb dd ht (fun hh => kt ?_ H locs ls hW hV hS hl) (fun hh => kf ?_ H locs ls hW hV hS hl)
  · rw [I_le (by omega)] at hh
    exact hh
  · rw [I_le (by omega)] at hh
    exact hh
theorem x_if_ge {a off : Int} {tgt : Nat} (F : Fx Γ cc own nL ret P d mc ms) (dd : decode cc pc = .ok (.ifCond .ge off, 3)) (ht : (pc : Int) + off = (tgt : Int)) (hg : -2147483648 ≤ a ∧ a < 2147483648) (kt : 0 ≤ a → XX Γ nL V ad ν cs sl tgt L st) (kf : ¬ 0 ≤ a → XX Γ nL V ad ν cs sl (pc + 3) L st) : XX Γ nL V ad ν cs sl pc L (.int (I a) :: st) := by
  obtain ⟨p, l, e, R, s, m, args, below, meth, c, A, Q, E⟩ := Γ
  obtain ⟨hx, hb, hml, hown, hts, hlk, hr, hK, hA0, hR, hQ, hzz⟩ := F
  intro H locs ls hW hV hS hl
  refine lv_if_ge hx hb dd ht (fun hh => kt ?_ H locs ls hW hV hS hl) (fun hh => kf ?_ H locs ls hW hV hS hl)
  · rw [I_0, I_le (by omega)] at hh
    exact hh
  · rw [I_0, I_le (by omega)] at hh
    exact hh
theorem x_icmp_gt {a b off : Int} {tgt : Nat} (F : Fx Γ cc own nL ret P d mc ms) (dd : decode cc pc = .ok (.if_icmp .gt off, 3)) (ht : (pc : Int) + off = (tgt : Int)) (hg : -2147483648 ≤ a ∧ a < 2147483648 ∧ -2147483648 ≤ b ∧ b < 2147483648) (kt : b < a → XX Γ nL V ad ν cs sl tgt L st) (kf : ¬ b < a → XX Γ nL V ad ν cs sl (pc + 3) L st) : XX Γ nL V ad ν cs sl pc L (.int (I b) :: .int (I a) :: st) := by
  obtain ⟨p, l, e, R, s, m, args, below, meth, c, A, Q, E⟩ := Γ
  obtain ⟨hx, hb, hml, hown, hts, hlk, hr, hK, hA0, hR, hQ, hzz⟩ := F
  intro H locs ls hW hV hS hl
  refine lv_icmp_gt hx hb dd ht (fun hh => kt ?_ H locs ls hW hV hS hl) (fun hh => kf ?_ H locs ls hW hV hS hl)
  · rw [I_lt (by omega)] at hh
    exact hh
  · rw [I_lt (by omega)] at hh
    exact hh
theorem x_if_gt {a off : Int} {tgt : Nat} (F : Fx Γ cc own nL ret P d mc ms) (dd : decode cc pc = .ok (.ifCond .gt off, 3)) (ht : (pc : Int) + off = (tgt : Int)) (hg : -2147483648 ≤ a ∧ a < 2147483648) (kt : 0 < a → XX Γ nL V ad ν cs sl tgt L st) (kf : ¬ 0 < a → XX Γ nL V ad ν cs sl (pc + 3) L st) : XX Γ nL V ad ν cs sl pc L (.int (I a) :: st) := by
  obtain ⟨p, l, e, R, s, m, args, below, meth, c, A, Q, E⟩ := Γ
  obtain ⟨hx, hb, hml, hown, hts, hlk, hr, hK, hA0, hR, hQ, hzz⟩ := F
  intro H locs ls hW hV hS hl
  refine lv_if_gt hx hb dd ht (fun hh => kt ?_ H locs ls hW hV hS hl) (fun hh => kf ?_ H locs ls hW hV hS hl)
  · rw [I_0, I_lt (by omega)] at hh
    exact hh
  · rw [I_0, I_lt (by omega)] at hh
    exact hh
theorem x_icmp_le {a b off : Int} {tgt : Nat} (F : Fx Γ cc own nL ret P d mc ms) (dd : decode cc pc = .ok (.if_icmp .le off, 3)) (ht : (pc : Int) + off = (tgt : Int)) (hg : -2147483648 ≤ a ∧ a < 2147483648 ∧ -2147483648 ≤ b ∧ b < 2147483648) (kt : a ≤ b → XX Γ nL V ad ν cs sl tgt L st) (kf : ¬ a ≤ b → XX Γ nL V ad ν cs sl (pc + 3) L st) : XX Γ nL V ad ν cs sl pc L (.int (I b) :: .int (I a) :: st) := by
  obtain ⟨p, l, e, R, s, m, args, below, meth, c, A, Q, E⟩ := Γ
  obtain ⟨hx, hb, hml, hown, hts, hlk, hr, hK, hA0, hR, hQ, hzz⟩ := F
  intro H locs ls hW hV hS hl
  refine lv_icmp_le hx hb dd ht (fun hh => kt ?_ H locs ls hW hV hS hl) (fun hh => kf ?_ H locs ls hW hV hS hl)
  · rw [I_le (by omega)] at hh
    exact hh
  · rw [I_le (by omega)] at hh
    exact hh
theorem x_if_le {a off : Int} {tgt : Nat} (F : Fx Γ cc own nL ret P d mc ms) (dd : decode cc pc = .ok (.ifCond .le off, 3)) (ht : (pc : Int) + off = (tgt : Int)) (hg : -2147483648 ≤ a ∧ a < 2147483648) (kt : a ≤ 0 → XX Γ nL V ad ν cs sl tgt L st) (kf : ¬ a ≤ 0 → XX Γ nL V ad ν cs sl (pc + 3) L st) : XX Γ nL V ad ν cs sl pc L (.int (I a) :: st) := by
  obtain ⟨p, l, e, R, s, m, args, below, meth, c, A, Q, E⟩ := Γ
  obtain ⟨hx, hb, hml, hown, hts, hlk, hr, hK, hA0, hR, hQ, hzz⟩ := F
  intro H locs ls hW hV hS hl
  refine lv_if_le hx hb dd ht (fun hh => kt ?_ H locs ls hW hV hS hl) (fun hh => kf ?_ H locs ls hW hV hS hl)
  · rw [I_0, I_le (by omega)] at hh
    exact hh
  · rw [I_0, I_le (by omega)] at hh
    exact hh
theorem x_if_eqB {a : Bool} {off : Int} {tgt : Nat} (F : Fx Γ cc own nL ret P d mc ms) (dd : decode cc pc = .ok (.ifCond .eq off, 3)) (ht : (pc : Int) + off = (tgt : Int)) (kt : a = false → XX Γ nL V ad ν cs sl tgt L st) (kf : a = true → XX Γ nL V ad ν cs sl (pc + 3) L st) : XX Γ nL V ad ν cs sl pc L (.int (I (bI a)) :: st) := by
  obtain ⟨p, l, e, R, s, m, args, below, meth, c, A, Q, E⟩ := Γ
  obtain ⟨hx, hb, hml, hown, hts, hlk, hr, hK, hA0, hR, hQ, hzz⟩ := F
  intro H locs ls hW hV hS hl
  refine lv_if_eq hx hb dd ht (fun hh => kt ?_ H locs ls hW hV hS hl) (fun hh => kf ?_ H locs ls hW hV hS hl)
  · rw [bI_0] at hh
    simpa using hh
  · rw [bI_0] at hh
    simpa using hh
theorem x_if_neB {a : Bool} {off : Int} {tgt : Nat} (F : Fx Γ cc own nL ret P d mc ms) (dd : decode cc pc = .ok (.ifCond .ne off, 3)) (ht : (pc : Int) + off = (tgt : Int)) (kt : a = true → XX Γ nL V ad ν cs sl tgt L st) (kf : a = false → XX Γ nL V ad ν cs sl (pc + 3) L st) : XX Γ nL V ad ν cs sl pc L (.int (I (bI a)) :: st) := by
  obtain ⟨p, l, e, R, s, m, args, below, meth, c, A, Q, E⟩ := Γ
  obtain ⟨hx, hb, hml, hown, hts, hlk, hr, hK, hA0, hR, hQ, hzz⟩ := F
  intro H locs ls hW hV hS hl
  refine lv_if_ne hx hb dd ht (fun hh => kt ?_ H locs ls hW hV hS hl) (fun hh => kf ?_ H locs ls hW hV hS hl)
  · rw [bI_0] at hh
    simpa using hh
  · rw [bI_0] at hh
    simpa using hh
theorem x_goto {off : Int} {tgt : Nat} (F : Fx Γ cc own nL ret P d mc ms) (dd : decode cc pc = .ok (.goto off, 3)) (ht : (pc : Int) + off = (tgt : Int)) (k : XX Γ nL V ad ν cs sl tgt L st) : XX Γ nL V ad ν cs sl pc L st := by
  obtain ⟨p, l, e, R, s, m, args, below, meth, c, A, Q, E⟩ := Γ
  obtain ⟨hx, hb, hml, hown, hts, hlk, hr, hK, hA0, hR, hQ, hzz⟩ := F
  intro H locs ls hW hV hS hl
  exact lv_goto hx hb dd ht (k H locs ls hW hV hS hl)
theorem x_tabIn {dflt lo hi off : Int} {offs : Array Int} {len tgt : Nat} {a : Int} (F : Fx Γ cc own nL ret P d mc ms) (dd : decode cc pc = .ok (.tableswitch dflt lo hi offs, len)) (h1 : lo ≤ a) (h2 : a ≤ hi) (hg : -2147483648 ≤ a ∧ a < 2147483648) (ho : offs[(a - lo).toNat]? = some off) (ht : (pc : Int) + off = (tgt : Int)) (k : XX Γ nL V ad ν cs sl tgt L st) : XX Γ nL V ad ν cs sl pc L (.int (I a) :: st) := by
  obtain ⟨p, l, e, R, s, m, args, below, meth, c, A, Q, E⟩ := Γ
  obtain ⟨hx, hb, hml, hown, hts, hlk, hr, hK, hA0, hR, hQ, hzz⟩ := F
  intro H locs ls hW hV hS hl
  refine lv_tableIn (off := off) hx hb dd ?_ ?_ ?_ ht (k H locs ls hW hV hS hl) <;> rw [I_toInt hg]
  · omega
  · omega
  · exact ho
theorem x_tabOut {dflt lo hi : Int} {offs : Array Int} {len tgt : Nat} {a : Int} (F : Fx Γ cc own nL ret P d mc ms) (dd : decode cc pc = .ok (.tableswitch dflt lo hi offs, len)) (h : a < lo ∨ hi < a) (hg : -2147483648 ≤ a ∧ a < 2147483648) (ht : (pc : Int) + dflt = (tgt : Int)) (k : XX Γ nL V ad ν cs sl tgt L st) : XX Γ nL V ad ν cs sl pc L (.int (I a) :: st) := by
  obtain ⟨p, l, e, R, s, m, args, below, meth, c, A, Q, E⟩ := Γ
  obtain ⟨hx, hb, hml, hown, hts, hlk, hr, hK, hA0, hR, hQ, hzz⟩ := F
  intro H locs ls hW hV hS hl
  refine lv_tableOut hx hb dd ?_ ht (k H locs ls hW hV hS hl)
  rw [I_toInt hg]
  exact h
theorem x_lookup {dflt off : Int} {ps : Array (Int × Int)} {len tgt : Nat} {a : Int} (F : Fx Γ cc own nL ret P d mc ms) (dd : decode cc pc = .ok (.lookupswitch dflt ps, len)) (hg : -2147483648 ≤ a ∧ a < 2147483648) (hp : (ps.toList.zip (ps.toList.drop 1)).all (fun (a, next) => a.1 < next.1) = true) (ho : Op.lookupswitch.offset ps.toList dflt a = off) (ht : (pc : Int) + off = (tgt : Int)) (k : XX Γ nL V ad ν cs sl tgt L st) : XX Γ nL V ad ν cs sl pc L (.int (I a) :: st) := by
  obtain ⟨p, l, e, R, s, m, args, below, meth, c, A, Q, E⟩ := Γ
  obtain ⟨hx, hb, hml, hown, hts, hlk, hr, hK, hA0, hR, hQ, hzz⟩ := F
  intro H locs ls hW hV hS hl
  refine lv_lookup hx hb dd hp ?_ ht (k H locs ls hW hV hS hl)
  rw [I_toInt hg]
  exact ho
theorem x_iret {x : Int32} (F : Fx Γ cc own nL ret P d mc ms) (dd : decode cc pc = .ok (.ireturn, 1)) (hq : P (some (.int x)) V ad ν) (hret : ret = some .int) (hc : cs = mc) (hs : sl = ms) : XX Γ nL V ad ν cs sl pc L [.int x] := by
  obtain ⟨p, l, e, R, s, m, args, below, meth, c, A, Q, E⟩ := Γ
  obtain ⟨hx, hb, hml, hown, hts, hlk, hr, hK, hA0, hR, hQ, hzz⟩ := F
  intro H locs ls hW hV hS hl
  subst hQ; subst hR; subst hc; subst hs
  exact W.iret hx hb (hr.trans hret) (fun t ht hw => ⟨⟨_, V, ad, ν, rfl, hq, by rw [ht]; exact hW, hV⟩, hS.F ht⟩) hS.2.2 dd hlk
theorem x_zret {b : Bool} (F : Fx Γ cc own nL ret P d mc ms) (dd : decode cc pc = .ok (.ireturn, 1)) (hq : P (some (.int (I (bI b)))) V ad ν) (hret : ret = some .boolean) (hc : cs = mc) (hs : sl = ms) : XX Γ nL V ad ν cs sl pc L [.int (I (bI b))] := by
  obtain ⟨p, l, e, R, s, m, args, below, meth, c, A, Q, E⟩ := Γ
  obtain ⟨hx, hb, hml, hown, hts, hlk, hr, hK, hA0, hR, hQ, hzz⟩ := F
  intro H locs ls hW hV hS hl
  subst hQ; subst hR; subst hc; subst hs
  exact W.zret hx hb (hr.trans hret) (by cases b <;> decide) (fun t ht hw => ⟨⟨_, V, ad, ν, rfl, hq, by rw [ht]; exact hW, hV⟩, hS.F ht⟩) hS.2.2 dd hlk
theorem x_nret {x : Int32} {ty : FieldType} (F : Fx Γ cc own nL ret P d mc ms) (dd : decode cc pc = .ok (.ireturn, 1)) (hq : P (some (.int x)) V ad ν) (hret : ret = some ty) (hn : narrow ty (.int x) = .int x) (hc : cs = mc) (hs : sl = ms) : XX Γ nL V ad ν cs sl pc L [.int x] := by
  obtain ⟨p, l, e, R, s, m, args, below, meth, c, A, Q, E⟩ := Γ
  obtain ⟨hx, hb, hml, hown, hts, hlk, hr, hK, hA0, hR, hQ, hzz⟩ := F
  intro H locs ls hW hV hS hl
  subst hQ; subst hR; subst hc; subst hs
  exact W.zret hx hb (hr.trans hret) hn (fun t ht hw => ⟨⟨_, V, ad, ν, rfl, hq, by rw [ht]; exact hW, hV⟩, hS.F ht⟩) hS.2.2 dd hlk
theorem x_vret (F : Fx Γ cc own nL ret P d mc ms) (dd : decode cc pc = .ok (.return_, 1)) (hq : P none V ad ν) (hret : ret = none) (hc : cs = mc) (hs : sl = ms) : XX Γ nL V ad ν cs sl pc L [] := by
  obtain ⟨p, l, e, R, s, m, args, below, meth, c, A, Q, E⟩ := Γ
  obtain ⟨hx, hb, hml, hown, hts, hlk, hr, hK, hA0, hR, hQ, hzz⟩ := F
  intro H locs ls hW hV hS hl
  subst hQ; subst hR; subst hc; subst hs
  exact W.vret hx hb (hr.trans hret) (fun t ht hw => ⟨⟨_, V, ad, ν, rfl, hq, by rw [ht]; exact hW, hV⟩, hS.F ht⟩) hS.2.2 dd hlk
theorem x_lret {x : Int64} (F : Fx Γ cc own nL ret P d mc ms) (dd : decode cc pc = .ok (.lreturn, 1)) (hq : P (some (.long x)) V ad ν) (hret : ret = some .long) (hc : cs = mc) (hs : sl = ms) : XX Γ nL V ad ν cs sl pc L [.long x] := by
  obtain ⟨p, l, e, R, s, m, args, below, meth, c, A, Q, E⟩ := Γ
  obtain ⟨hx, hb, hml, hown, hts, hlk, hr, hK, hA0, hR, hQ, hzz⟩ := F
  intro H locs ls hW hV hS hl
  subst hQ; subst hR; subst hc; subst hs
  exact W.lret hx hb (hr.trans hret) (fun t ht hw => ⟨⟨_, V, ad, ν, rfl, hq, by rw [ht]; exact hW, hV⟩, hS.F ht⟩) hS.2.2 dd hlk
theorem x_aret {x : Nat} {nm : String} (F : Fx Γ cc own nL ret P d mc ms) (dd : decode cc pc = .ok (.areturn, 1)) (hq : P (some (.ref x)) V ad ν) (hret : ret = some (.object nm)) (hc : cs = mc) (hs : sl = ms) : XX Γ nL V ad ν cs sl pc L [.ref x] := by
  obtain ⟨p, l, e, R, s, m, args, below, meth, c, A, Q, E⟩ := Γ
  obtain ⟨hx, hb, hml, hown, hts, hlk, hr, hK, hA0, hR, hQ, hzz⟩ := F
  intro H locs ls hW hV hS hl
  subst hQ; subst hR; subst hc; subst hs
  exact W.aret hx hb (hr.trans hret) (Or.inl ⟨nm, rfl⟩) (Or.inr ⟨x, rfl⟩) (fun t ht hw => ⟨⟨_, V, ad, ν, rfl, hq, by rw [ht]; exact hW, hV⟩, hS.F ht⟩) hS.2.2 dd hlk
end ROWS
end
section
/-! ===== rows of the judgement: fields, arrays, copies ===== -/
theorem tys_at {E : Ev} {ti : Nat} (h : ti < 8) : (tysE E)[ti]? = some (E.2.1 ti, tyA ti) := by
  rcases (show ti = 0 ∨ ti = 1 ∨ ti = 2 ∨ ti = 3 ∨ ti = 4 ∨ ti = 5 ∨ ti = 6 ∨ ti = 7 by omega) with rfl | rfl | rfl | rfl | rfl | rfl | rfl | rfl <;> rfl
theorem Kn.arr {E : Ev} {U : State} (h : Kn E U) {ti : Nat} (ht : ti < 8) : ArrOfT U (E.2.1 ti) (tyA ti) := (h.1.2 ti _ (tys_at ht)).1
/-- a cell changed at o: the world behind it -/
theorem Wd.set {E : Ev} {V : Ob → Prop} {ad : Ob → Nat} {ν : Mv} {H H1 : Heap} {o : Ob} {f : Nat → Value} (h : Wd E V ad ν H) (ho : V o) (h1 : cOK E ad f o H1) (hq : ∀ q : Nat, q ≠ ad o → H1[q]? = H[q]?) : Wd E V ad (fun o' => if o' = o then f else ν o') H1 := by
  refine ⟨fun o' ho' => ?_, h.2.1, h.2.2⟩
  by_cases e : o' = o
  · subst e
    simp only [if_true]
    exact h1
  · simp only [if_neg e]
    have hne : ad o' ≠ ad o := fun z => e (h.2.1 o' o ho' ho z)
    have h2 := h.1 o' ho'
    unfold cOK at h2 ⊢
    split
    · rename_i ci hs
      rw [hs] at h2
      obtain ⟨r, a, b⟩ := h2
      exact ⟨r, a, b.kept (hq _ hne)⟩
    · rename_i ti n hs
      rw [hs] at h2
      exact (hq _ hne).trans h2
theorem upV_eq {ν : Mv} {o : Ob} {k : Nat} {v : Value} {f : Nat → Value} (h : ∀ j, f j = if j = k then v else ν o j) : (fun o' => if o' = o then f else ν o') = upV ν o k v := by
  funext o' j
  by_cases e : o' = o
  · subst e
    by_cases e2 : j = k
    · simp [upV, h, e2]
    · simp [upV, h, e2]
  · simp [upV, e]
theorem va_S.cell {A : Nat → Prop} {H0 H H1 : Heap} {locs : List Loc} {a i : Nat} (h : va_S A H0 H locs) (ha : A a) (hz : H1.size = H.size) (hq : ∀ q : Nat, q ≠ a → H1[q]? = H[q]?) : va_S A H0 H1 (locs ++ [⟨a, i⟩]) := by
  refine ⟨by rw [hz]; exact h.1, fun q h1 h2 => ?_, fun l hl => ?_⟩
  · rw [hq q (fun e => h2 (by rw [e]; exact ha))]
    exact h.2.1 q h1 h2
  · rcases List.mem_append.mp hl with h1 | h1
    · exact h.2.2 l h1
    · rw [List.mem_singleton.mp h1]
      exact ha
section HEAP
variable {Γ : Ct} {cc : ByteArray} {own : String} {nL : Nat} {ret : Option FieldType} {P : Pq} {d mc ms : Nat} {V : Ob → Prop} {ad : Ob → Nat} {ν : Mv} {cs sl pc : Nat} {L : List (Nat × Value)} {st : List Value} {o : Ob} {v : Value}
theorem x_get {C : String} {T : u_T} {N ci idx : Nat} (F : Fx Γ cc own nL ret P d mc ms) (dd : decode cc pc = .ok (.getfield idx, 3)) (hc : vwCl[ci]? = some (C, T, N)) (hin : ∀ w ∈ u_ws C T N, w ∈ lw_tbl ∧ goodWord w = true) (k : Nat) (hk : k < N) (hlk : Cond.fieldLink own idx C (T k).2.1 (T k).2.2.1 ∈ wA) (hO : (T k).1 = C) (ho : V o) (hs : shp o = .inl ci) (hv : ν o k = v)
    (kk : XX Γ nL V ad ν cs sl (pc + 3) L (v :: st)) : XX Γ nL V ad ν cs sl pc L (.ref (ad o) :: st) := by
  obtain ⟨p, l, e, R, s, m, args, below, meth, c, A, Q, E⟩ := Γ
  obtain ⟨hx, hb, hml, hown, hts, hlok, hr, hK, hA0, hR, hQ, hzz⟩ := F
  intro H locs ls hW hV hS hl
  have h1 := hW.1 o ho
  unfold cOK at h1
  rw [hs] at h1
  obtain ⟨r, h1, cell, q1, q2, q3, q4⟩ := h1
  have hr : r = (C, T, N) := Option.some.inj (h1.symm.trans hc)
  subst hr
  obtain ⟨hS', hfc, kC, hkC, hkind⟩ := hK.1.1 ci _ hc
  obtain ⟨cf, kf, fi, f, hi, hsl⟩ := hS' k hk
  have hin' : ∀ w ∈ u_ws C T N, w ∈ wA := fun w hw => wA_of (hin w hw).1 (hin w hw).2
  refine W.getf hx hb hown (hts _ hlk) (by rw [← hO]; exact hi) (u_facts hfc hkC (u_lays hts hin' hk) hi).1 q1 (by rw [q3]; exact fun h => by cases h) (v := v) ?_ rfl rfl dd (kk H locs ls hW hV hS hl)
  rw [hsl, q4 k hk, hv]
theorem x_put {C : String} {T : u_T} {N ci idx : Nat} (F : Fx Γ cc own nL ret P d mc ms) (dd : decode cc pc = .ok (.putfield idx, 3)) (hc : vwCl[ci]? = some (C, T, N)) (hin : ∀ w ∈ u_ws C T N, w ∈ lw_tbl ∧ goodWord w = true) (ty0 : Nat → FieldType) (hty : ∀ k, k < N → parseFieldDescriptor (T k).2.2.1 = some (ty0 k)) (hnm : ∀ a, a < N → ∀ b, b < N → a ≠ b → (T a).2.1 ≠ (T b).2.1)
    (k : Nat) (hk : k < N) (hlk : Cond.fieldLink own idx C (T k).2.1 (T k).2.2.1 ∈ wA) (hO : (T k).1 = C) (hfin : (T k).2.2.2 = false) (ho : V o) (hs : shp o = .inl ci) (hn : narrow (ty0 k) v = v) (hfit : fits (ty0 k) v = true)
    (kk : XX Γ nL V ad (upV ν o k v) cs sl (pc + 3) L st) : XX Γ nL V ad ν cs sl pc L (v :: .ref (ad o) :: st) := by
  obtain ⟨p, l, e, R, s, m, args, below, meth, c, A, Q, E⟩ := Γ
  obtain ⟨hx, hb, hml, hown, hts, hlok, hr, hK, hA0, hR, hQ, hzz⟩ := F
  intro H locs ls hW hV hS hl
  have h1 := hW.1 o ho
  unfold cOK at h1
  rw [hs] at h1
  obtain ⟨r, h1, cell, q1, q2, q3, q4⟩ := h1
  have hr : r = (C, T, N) := Option.some.inj (h1.symm.trans hc)
  subst hr
  have hin' : ∀ w ∈ u_ws C T N, w ∈ wA := fun w hw => wA_of (hin w hw).1 (hin w hw).2
  have hap := va_apart (own := own) hts hin' ty0 hty hnm hK.1 hc
  obtain ⟨hS', hfc, kC, hkC, hkind⟩ := hK.1.1 ci _ hc
  obtain ⟨cf, kf, fi, f, hi, hsl⟩ := hS' k hk
  have hlay := hts _ (hin' _ (u_in_lay hk))
  unfold u_lay at hlay
  rw [if_neg (by rw [hfin]; decide)] at hlay
  have hst := (u_facts hfc hkC (u_lays hts hin' hk) hi).1
  have h6 := u_store hfc hkC hkind hlay hi (hty k hk) hn hfit
  refine W.putK hx hb (f := f) ⟨hown, hts _ hlk, ⟨_, _, _, by rw [← hO]; exact hi⟩, hst⟩ (by rw [q2]; exact h6) q1 q3 (by rw [hsl]; exact k2_hasslot (q4 k hk)) rfl rfl dd fun H' e1 e2 e3 => ?_
  rw [hsl] at e1 ⊢
  refine kk H' _ ls ?_ hV (hS.cell (hV o ho) e2 e3) hl
  rw [← upV_eq (f := fun j => if j = k then v else ν o j) (fun j => rfl)]
  refine hW.set ho ?_ e3
  unfold cOK
  rw [hs]
  exact ⟨_, hc, t_OB.to (V := updV (ν o) k v) ⟨_, e1, q2, q3, t_set q4 hap hk v⟩ (fun j _ => rfl)⟩
/-- a final field, in the constructor of its class -/
theorem x_putF {C : String} {T : u_T} {N ci idx : Nat} (F : Fx Γ cc own nL ret P d mc ms) (hin2 : Γ.2.2.2.2.2.2.2.2.1.name = "<init>") (dd : decode cc pc = .ok (.putfield idx, 3)) (hc : vwCl[ci]? = some (C, T, N)) (hin : ∀ w ∈ u_ws C T N, w ∈ lw_tbl ∧ goodWord w = true) (ty0 : Nat → FieldType) (hty : ∀ k, k < N → parseFieldDescriptor (T k).2.2.1 = some (ty0 k)) (hnm : ∀ a, a < N → ∀ b, b < N → a ≠ b → (T a).2.1 ≠ (T b).2.1)
    (k : Nat) (hk : k < N) (hlk : Cond.fieldLink own idx C (T k).2.1 (T k).2.2.1 ∈ wA) (hO : (T k).1 = C) (hdecl : C = own) (hfin : (T k).2.2.2 = true) (ho : V o) (hs : shp o = .inl ci) (hn : narrow (ty0 k) v = v) (hfit : fits (ty0 k) v = true)
    (kk : XX Γ nL V ad (upV ν o k v) cs sl (pc + 3) L st) : XX Γ nL V ad ν cs sl pc L (v :: .ref (ad o) :: st) := by
  obtain ⟨p, l, e, R, s, m, args, below, meth, c, A, Q, E⟩ := Γ
  obtain ⟨hx, hb, hml, hown, hts, hlok, hr, hK, hA0, hR, hQ, hzz⟩ := F
  intro H locs ls hW hV hS hl
  have h1 := hW.1 o ho
  unfold cOK at h1
  rw [hs] at h1
  obtain ⟨r, h1, cell, q1, q2, q3, q4⟩ := h1
  have hr : r = (C, T, N) := Option.some.inj (h1.symm.trans hc)
  subst hr
  have hin' : ∀ w ∈ u_ws C T N, w ∈ wA := fun w hw => wA_of (hin w hw).1 (hin w hw).2
  have hap := va_apart (own := own) hts hin' ty0 hty hnm hK.1 hc
  obtain ⟨hS', hfc, kC, hkC, hkind⟩ := hK.1.1 ci _ hc
  obtain ⟨cf, kf, fi, f, hi, hsl⟩ := hS' k hk
  have hlay := hts _ (hin' _ (u_in_lay hk))
  unfold u_lay at hlay
  rw [if_pos hfin] at hlay
  have hst := (u_facts hfc hkC (u_lays hts hin' hk) hi).1
  have hcf : m.cls = cf := by
    obtain ⟨_, _, c', _, _, _, -, -, hf', -, -, -, hown2, -⟩ := Cond.laysFinal_spec hlay
    have e1 : c' = cf := by have := hi.symm.trans hf'; simp at this; exact this.1.symm
    rw [hO, hdecl] at hown2
    rw [← e1]; exact Option.some.inj (hown.symm.trans hown2)
  have h6 := u_fits hfc hkC hkind (Or.inr hlay) hi (hty k hk) hn hfit
  refine W.putFinK hx hb hown (hts _ hlk) (by rw [← hO]; exact hi) hst hcf hin2 (by rw [q2]; exact h6) q1 q3 (by rw [hsl]; exact k2_hasslot (q4 k hk)) rfl rfl dd fun H' e1 e2 e3 => ?_
  rw [hsl] at e1 ⊢
  refine kk H' _ ls ?_ hV (hS.cell (hV o ho) e2 e3) hl
  rw [← upV_eq (f := fun j => if j = k then v else ν o j) (fun j => rfl)]
  refine hW.set ho ?_ e3
  unfold cOK
  rw [hs]
  exact ⟨_, hc, t_OB.to (V := updV (ν o) k v) ⟨_, e1, q2, q3, t_set q4 hap hk v⟩ (fun j _ => rfl)⟩
theorem arr_in {ti n : Nat} {cA : ClassId} {f : Nat → Value} {j : Int} (hj : 0 ≤ j ∧ j < n ∧ n ≤ 2147483647) : ¬ (I j < 0 ∨ (arrV cA n f).slots.size ≤ (I j).toNatClampNeg) ∧ (arrV cA n f).slots[(I j).toNatClampNeg]? = some (f j.toNat) := by
  have h1 : (I j).toNatClampNeg = j.toNat := I_clamp (by omega)
  rw [h1, arrV_size]
  refine ⟨?_, arrV_read _ _ (by omega)⟩
  rw [I_0, I_lt (by omega)]
  omega
theorem x_alen {ti n : Nat} {z : Int} (F : Fx Γ cc own nL ret P d mc ms) (dd : decode cc pc = .ok (.arraylength, 1)) (ho : V o) (hs : shp o = .inr (ti, n)) (ht : Nat.ble (ti + 1) 8 = true) (hn : (n : Int) = z) (kk : XX Γ nL V ad ν cs sl (pc + 1) L (.int (I z) :: st)) : XX Γ nL V ad ν cs sl pc L (.ref (ad o) :: st) := by
  obtain ⟨p, l, e, R, s, m, args, below, meth, c, A, Q, E⟩ := Γ
  obtain ⟨hx, hb, hml, hown, hts, hlok, hr, hK, hA0, hR, hQ, hzz⟩ := F
  intro H locs ls hW hV hS hl
  have h1 := hW.1 o ho
  unfold cOK at h1
  rw [hs] at h1
  subst hn
  refine W.alen (n := I n) hx hb h1 (hK.arr (Nat.le_of_ble_eq_true ht) n (ν o)) ?_ rfl rfl dd (kk H locs ls hW hV hS hl)
  rw [arrV_size]
  exact I_nI n
theorem x_iald {n : Nat} {j : Int} (F : Fx Γ cc own nL ret P d mc ms) (dd : decode cc pc = .ok (.iaload, 1)) (ho : V o) (hs : shp o = .inr (0, n)) (hj : 0 ≤ j ∧ j < n ∧ n ≤ 2147483647) (hv : ν o j.toNat = v) (kk : XX Γ nL V ad ν cs sl (pc + 1) L (v :: st)) : XX Γ nL V ad ν cs sl pc L (.int (I j) :: .ref (ad o) :: st) := by
  obtain ⟨p, l, e, R, s, m, args, below, meth, c, A, Q, E⟩ := Γ
  obtain ⟨hx, hb, hml, hown, hts, hlok, hr, hK, hA0, hR, hQ, hzz⟩ := F
  intro H locs ls hW hV hS hl
  have h1 := hW.1 o ho
  unfold cOK at h1
  rw [hs] at h1
  subst hv
  have h2 := arr_in (ti := 0) (cA := E.2.1 0) (f := ν o) hj
  exact W.iald hx hb h1 (hK.arr (by decide) n (ν o)) (fun h => by cases h) h2.1 h2.2 rfl rfl dd (kk H locs ls hW hV hS hl)
theorem x_lald {n : Nat} {j : Int} (F : Fx Γ cc own nL ret P d mc ms) (dd : decode cc pc = .ok (.laload, 1)) (ho : V o) (hs : shp o = .inr (1, n)) (hj : 0 ≤ j ∧ j < n ∧ n ≤ 2147483647) (hv : ν o j.toNat = v) (kk : XX Γ nL V ad ν cs sl (pc + 1) L (v :: st)) : XX Γ nL V ad ν cs sl pc L (.int (I j) :: .ref (ad o) :: st) := by
  obtain ⟨p, l, e, R, s, m, args, below, meth, c, A, Q, E⟩ := Γ
  obtain ⟨hx, hb, hml, hown, hts, hlok, hr, hK, hA0, hR, hQ, hzz⟩ := F
  intro H locs ls hW hV hS hl
  have h1 := hW.1 o ho
  unfold cOK at h1
  rw [hs] at h1
  subst hv
  have h2 := arr_in (ti := 0) (cA := E.2.1 1) (f := ν o) hj
  exact W.lald hx hb h1 (hK.arr (by decide) n (ν o)) (fun h => by cases h) h2.1 h2.2 rfl rfl dd (kk H locs ls hW hV hS hl)
theorem x_bald {n : Nat} {j : Int} (F : Fx Γ cc own nL ret P d mc ms) (dd : decode cc pc = .ok (.baload, 1)) (ho : V o) (hs : shp o = .inr (2, n)) (hj : 0 ≤ j ∧ j < n ∧ n ≤ 2147483647) (hv : ν o j.toNat = v) (kk : XX Γ nL V ad ν cs sl (pc + 1) L (v :: st)) : XX Γ nL V ad ν cs sl pc L (.int (I j) :: .ref (ad o) :: st) := by
  obtain ⟨p, l, e, R, s, m, args, below, meth, c, A, Q, E⟩ := Γ
  obtain ⟨hx, hb, hml, hown, hts, hlok, hr, hK, hA0, hR, hQ, hzz⟩ := F
  intro H locs ls hW hV hS hl
  have h1 := hW.1 o ho
  unfold cOK at h1
  rw [hs] at h1
  subst hv
  have h2 := arr_in (ti := 0) (cA := E.2.1 2) (f := ν o) hj
  exact W.bald hx hb h1 (hK.arr (by decide) n (ν o)) (fun h => by cases h) h2.1 h2.2 rfl rfl dd (kk H locs ls hW hV hS hl)
theorem x_cald {n : Nat} {j : Int} (F : Fx Γ cc own nL ret P d mc ms) (dd : decode cc pc = .ok (.caload, 1)) (ho : V o) (hs : shp o = .inr (3, n)) (hj : 0 ≤ j ∧ j < n ∧ n ≤ 2147483647) (hv : ν o j.toNat = v) (kk : XX Γ nL V ad ν cs sl (pc + 1) L (v :: st)) : XX Γ nL V ad ν cs sl pc L (.int (I j) :: .ref (ad o) :: st) := by
  obtain ⟨p, l, e, R, s, m, args, below, meth, c, A, Q, E⟩ := Γ
  obtain ⟨hx, hb, hml, hown, hts, hlok, hr, hK, hA0, hR, hQ, hzz⟩ := F
  intro H locs ls hW hV hS hl
  have h1 := hW.1 o ho
  unfold cOK at h1
  rw [hs] at h1
  subst hv
  have h2 := arr_in (ti := 0) (cA := E.2.1 3) (f := ν o) hj
  exact W.cald hx hb h1 (hK.arr (by decide) n (ν o)) (fun h => by cases h) h2.1 h2.2 rfl rfl dd (kk H locs ls hW hV hS hl)
theorem x_aald {ti n : Nat} {j : Int} (F : Fx Γ cc own nL ret P d mc ms) (dd : decode cc pc = .ok (.aaload, 1)) (ho : V o) (hs : shp o = .inr (ti, n)) (ht : Nat.ble (ti + 1) 8 = true) (hre : (tyA ti).isReference = true) (hj : 0 ≤ j ∧ j < n ∧ n ≤ 2147483647) (hv : ν o j.toNat = v) (kk : XX Γ nL V ad ν cs sl (pc + 1) L (v :: st)) : XX Γ nL V ad ν cs sl pc L (.int (I j) :: .ref (ad o) :: st) := by
  obtain ⟨p, l, e, R, s, m, args, below, meth, c, A, Q, E⟩ := Γ
  obtain ⟨hx, hb, hml, hown, hts, hlok, hr, hK, hA0, hR, hQ, hzz⟩ := F
  intro H locs ls hW hV hS hl
  have h1 := hW.1 o ho
  unfold cOK at h1
  rw [hs] at h1
  subst hv
  have h2 := arr_in (ti := 0) (cA := E.2.1 ti) (f := ν o) hj
  exact W.aald hx hb h1 (hK.arr (Nat.le_of_ble_eq_true ht) n (ν o)) hre (fun h => by cases h) h2.1 h2.2 rfl rfl dd (kk H locs ls hW hV hS hl)
theorem x_iast {n : Nat} {j : Int} {x : Int32} (F : Fx Γ cc own nL ret P d mc ms) (dd : decode cc pc = .ok (.iastore, 1)) (ho : V o) (hs : shp o = .inr (0, n)) (hj : 0 ≤ j ∧ j < n ∧ n ≤ 2147483647) (kk : XX Γ nL V ad (upV ν o j.toNat (.int x)) cs sl (pc + 1) L st) : XX Γ nL V ad ν cs sl pc L (.int x :: .int (I j) :: .ref (ad o) :: st) := by
  obtain ⟨p, l, e, R, s, m, args, below, meth, c, A, Q, E⟩ := Γ
  obtain ⟨hx, hb, hml, hown, hts, hlok, hr, hK, hA0, hR, hQ, hzz⟩ := F
  intro H locs ls hW hV hS hl
  have h1 := hW.1 o ho
  unfold cOK at h1
  rw [hs] at h1
  have h2 := arr_in (ti := 0) (cA := E.2.1 0) (f := ν o) hj
  refine W.iast hx hb h1 (hK.arr (by decide) n (ν o)) (fun h => by cases h) h2.1 rfl rfl dd fun H1 e1 z1 oq => ?_
  refine kk H1 _ ls ?_ hV (hS.cell (hV o ho) z1 oq) hl
  rw [← upV_eq (f := fun i => if i = j.toNat then (.int x) else ν o i) (fun i => rfl)]
  refine hW.set ho ?_ oq
  unfold cOK
  rw [hs]
  show H1[ad o]? = some (arrV _ n _)
  rw [e1, arrV_store, I_clamp (by omega)]
  congr 2
theorem x_last {n : Nat} {j : Int} {x : Int64} (F : Fx Γ cc own nL ret P d mc ms) (dd : decode cc pc = .ok (.lastore, 1)) (ho : V o) (hs : shp o = .inr (1, n)) (hj : 0 ≤ j ∧ j < n ∧ n ≤ 2147483647) (kk : XX Γ nL V ad (upV ν o j.toNat (.long x)) cs sl (pc + 1) L st) : XX Γ nL V ad ν cs sl pc L (.long x :: .int (I j) :: .ref (ad o) :: st) := by
  obtain ⟨p, l, e, R, s, m, args, below, meth, c, A, Q, E⟩ := Γ
  obtain ⟨hx, hb, hml, hown, hts, hlok, hr, hK, hA0, hR, hQ, hzz⟩ := F
  intro H locs ls hW hV hS hl
  have h1 := hW.1 o ho
  unfold cOK at h1
  rw [hs] at h1
  have h2 := arr_in (ti := 0) (cA := E.2.1 1) (f := ν o) hj
  refine W.last hx hb h1 (hK.arr (by decide) n (ν o)) (fun h => by cases h) h2.1 rfl rfl dd fun H1 e1 z1 oq => ?_
  refine kk H1 _ ls ?_ hV (hS.cell (hV o ho) z1 oq) hl
  rw [← upV_eq (f := fun i => if i = j.toNat then (.long x) else ν o i) (fun i => rfl)]
  refine hW.set ho ?_ oq
  unfold cOK
  rw [hs]
  show H1[ad o]? = some (arrV _ n _)
  rw [e1, arrV_store, I_clamp (by omega)]
  congr 2
theorem x_bast {n : Nat} {j : Int} {x : Int32} (F : Fx Γ cc own nL ret P d mc ms) (dd : decode cc pc = .ok (.bastore, 1)) (ho : V o) (hs : shp o = .inr (2, n)) (hj : 0 ≤ j ∧ j < n ∧ n ≤ 2147483647) (kk : XX Γ nL V ad (upV ν o j.toNat (narrow .byte (.int x))) cs sl (pc + 1) L st) : XX Γ nL V ad ν cs sl pc L (.int x :: .int (I j) :: .ref (ad o) :: st) := by
  obtain ⟨p, l, e, R, s, m, args, below, meth, c, A, Q, E⟩ := Γ
  obtain ⟨hx, hb, hml, hown, hts, hlok, hr, hK, hA0, hR, hQ, hzz⟩ := F
  intro H locs ls hW hV hS hl
  have h1 := hW.1 o ho
  unfold cOK at h1
  rw [hs] at h1
  have h2 := arr_in (ti := 0) (cA := E.2.1 2) (f := ν o) hj
  refine W.bast hx hb h1 (hK.arr (by decide) n (ν o)) (fun h => by cases h) h2.1 rfl rfl dd fun H1 e1 z1 oq => ?_
  refine kk H1 _ ls ?_ hV (hS.cell (hV o ho) z1 oq) hl
  rw [← upV_eq (f := fun i => if i = j.toNat then (narrow .byte (.int x)) else ν o i) (fun i => rfl)]
  refine hW.set ho ?_ oq
  unfold cOK
  rw [hs]
  show H1[ad o]? = some (arrV _ n _)
  rw [e1, arrV_store, I_clamp (by omega)]
  congr 2
theorem x_cast {n : Nat} {j : Int} {x : Int32} (F : Fx Γ cc own nL ret P d mc ms) (dd : decode cc pc = .ok (.castore, 1)) (ho : V o) (hs : shp o = .inr (3, n)) (hj : 0 ≤ j ∧ j < n ∧ n ≤ 2147483647) (kk : XX Γ nL V ad (upV ν o j.toNat (narrow .char (.int x))) cs sl (pc + 1) L st) : XX Γ nL V ad ν cs sl pc L (.int x :: .int (I j) :: .ref (ad o) :: st) := by
  obtain ⟨p, l, e, R, s, m, args, below, meth, c, A, Q, E⟩ := Γ
  obtain ⟨hx, hb, hml, hown, hts, hlok, hr, hK, hA0, hR, hQ, hzz⟩ := F
  intro H locs ls hW hV hS hl
  have h1 := hW.1 o ho
  unfold cOK at h1
  rw [hs] at h1
  have h2 := arr_in (ti := 0) (cA := E.2.1 3) (f := ν o) hj
  refine W.cast hx hb h1 (hK.arr (by decide) n (ν o)) (fun h => by cases h) h2.1 rfl rfl dd fun H1 e1 z1 oq => ?_
  refine kk H1 _ ls ?_ hV (hS.cell (hV o ho) z1 oq) hl
  rw [← upV_eq (f := fun i => if i = j.toNat then (narrow .char (.int x)) else ν o i) (fun i => rfl)]
  refine hW.set ho ?_ oq
  unfold cOK
  rw [hs]
  show H1[ad o]? = some (arrV _ n _)
  rw [e1, arrV_store, I_clamp (by omega)]
  congr 2
/-- what a copy leaves -/
def cpV (ν : Mv) (o1 o2 : Ob) (sp dp n : Nat) : Mv := fun o k => if o = o2 ∧ dp ≤ k ∧ k < dp + n then ν o1 (sp + (k - dp)) else ν o k
theorem x_copy {ti n1 n2 idx : Nat} {sp dp n : Int} {o1 o2 : Ob} (F : Fx Γ cc own nL ret P d mc ms) (dd : decode cc pc = .ok (.invokestatic idx, 3)) (hlk : Cond.methodLink own idx arraycopyName ∈ wA) (hw2 : Cond.native arraycopyName ∈ wA) (hw3 : Cond.static arraycopyName ∈ wA) (hw4 : Cond.initialized "java/lang/System" ∈ wA) (hd : 1 ≤ d) (h1 : V o1) (h2 : V o2) (hs1 : shp o1 = .inr (ti, n1)) (hs2 : shp o2 = .inr (ti, n2)) (ht : Nat.ble (ti + 1) 4 = true)
    (hj : 0 ≤ sp ∧ 0 ≤ dp ∧ 0 ≤ n ∧ sp + n ≤ n1 ∧ dp + n ≤ n2 ∧ n1 ≤ 2147483647 ∧ n2 ≤ 2147483647) (hfit : ∀ i, i < n.toNat → fits (tyA ti) (ν o1 (sp.toNat + i)) = true) (hcat : Nat.ble ((st.map fun v => v.category).sum) 4 = true)
    (kk : XX Γ nL V ad (cpV ν o1 o2 sp.toNat dp.toNat n.toNat) cs sl (pc + 3) L st) : XX Γ nL V ad ν cs sl pc L (.int (I n) :: .int (I dp) :: .ref (ad o2) :: .int (I sp) :: .ref (ad o1) :: st) := by
  obtain ⟨p, l, e, R, s, m, args, below, meth, c, A, Q, E⟩ := Γ
  obtain ⟨hx, hb, hml, hown, hts, hlok, hr, hK, hA0, hR, hQ, hzz⟩ := F
  intro H locs ls hW hV hS hl
  have c1 := hW.1 o1 h1
  unfold cOK at c1
  rw [hs1] at c1
  have c2 := hW.1 o2 h2
  unfold cOK at c2
  rw [hs2] at c2
  have ht4 := Nat.le_of_ble_eq_true ht
  have hc4 := Nat.le_of_ble_eq_true hcat
  have hprim : refKind (tyA ti) = false := by
    rcases (show ti = 0 ∨ ti = 1 ∨ ti = 2 ∨ ti = 3 by omega) with rfl | rfl | rfl | rfl <;> rfl
  have ht8 : ti < 8 := by omega
  obtain ⟨-, k0, hk0, cm0, hkk0⟩ := hK.arr ht8 n1 (ν o1)
  obtain ⟨-, k1, hk1, cm1, hkk1⟩ := hK.arr ht8 n2 (ν o2)
  have e0 : (I sp).toNatClampNeg = sp.toNat := I_clamp (by omega)
  have e1 : (I dp).toNatClampNeg = dp.toNat := I_clamp (by omega)
  have e2 : (I n).toNatClampNeg = n.toNat := I_clamp (by omega)
  have hnw : nativeFrameWords "java/lang/System" "arraycopy" 5 ≤ 25 := by decide +kernel
  have hloc : 2 * (F0 m pc ls (.int (I n) :: .int (I dp) :: .ref (ad o2) :: .int (I sp) :: .ref (ad o1) :: st)).monitorRoom + (st.map fun v => v.category).sum + (nativeFrameWords "java/lang/System" "arraycopy" 5 + 11) ≤ R.locals := by
    rw [hR]
    show 2 * 0 + _ + _ ≤ 40 * d
    omega
  intro T hT X
  obtain ⟨vm', X', step⟩ := X.arraycopy hx hown (hts _ hlk) (hts _ hw2) (hts _ hw3) (hts _ hw4) (src := ad o1) (dst := ad o2) (cs := arrV (E.2.1 ti) n1 (ν o1)) (cd := arrV (E.2.1 ti) n2 (ν o2)) (srcPos := I sp) (destPos := I dp) (n := I n) (by rw [hT]; exact c1) (by rw [hT]; exact c2)
    (fun _ h => by cases h) (fun _ h => by cases h) (fun h => by cases h) (fun h => by cases h) hk0 hk1 hkk0 hkk1 (by simp [hprim]) (by rw [I_0, I_lt (by omega)]; omega) (by rw [I_0, I_lt (by omega)]; omega) (by rw [I_0, I_lt (by omega)]; omega)
    (by rw [I_toInt (by omega), I_toInt (by omega), arrV_size]; omega)
    (by rw [I_toInt (by omega), I_toInt (by omega), arrV_size]; omega)
    (fun vm₁ _ i hi => by
      rw [e2] at hi
      have e : (arrV (E.2.1 ti) n1 (ν o1)).slots.getD ((I sp).toNatClampNeg + i) .null = ν o1 (sp.toNat + i) := by
        rw [Array.getD_eq_getD_getElem?, e0, arrV_read _ _ (by omega)]
        rfl
      refine ⟨?_, ?_⟩
      · rw [e]
        exact hfit i hi
      · rw [e]
        have hf := hfit i hi
        revert hf
        rcases (show ti = 0 ∨ ti = 1 ∨ ti = 2 ∨ ti = 3 by omega) with rfl | rfl | rfl | rfl <;> cases ν o1 (sp.toNat + i) <;> intro hf <;> first | exact trivial | (exfalso; simp [fits, tyA] at hf; done))
    (g := F0 m pc ls (.int (I n) :: .int (I dp) :: .ref (ad o2) :: .int (I sp) :: .ref (ad o1) :: st)) rfl (by rw [hml]; exact hl.1) (rest := st) rfl (by rw [hb]; exact dd) (by rw [hR]; exact hd) hloc
  have e3 : copied (arrV (E.2.1 ti) n1 (ν o1)) (arrV (E.2.1 ti) n2 (ν o2)) (I sp) (I dp) (I n) = arrV (E.2.1 ti) n2 (va_cpy (ν o1) (ν o2) sp.toNat dp.toNat n.toNat) := by
    show (arrV (E.2.1 ti) n2 (ν o2)).storeRun (I dp).toNatClampNeg ((arrV (E.2.1 ti) n1 (ν o1)).stretch (I sp).toNatClampNeg (I n).toNatClampNeg) = _
    rw [e0, e1, e2]
    exact va_copied (fun z => z) _ _ (ν o1) (ν o2) (by omega)
  rw [e3] at X' step
  have hl2 : ad o2 < H.size := (Array.getElem?_eq_some_iff.mp c2).1
  have hheap : ((T.setVm vm').setCell (ad o2) (arrV (E.2.1 ti) n2 (va_cpy (ν o1) (ν o2) sp.toNat dp.toNat n.toNat))).heap = H.setIfInBounds (ad o2) (arrV (E.2.1 ti) n2 (va_cpy (ν o1) (ν o2) sp.toNat dp.toNat n.toNat)) := by rw [← hT]; rfl
  have oq : ∀ q : Nat, q ≠ ad o2 → (H.setIfInBounds (ad o2) (arrV (E.2.1 ti) n2 (va_cpy (ν o1) (ν o2) sp.toNat dp.toNat n.toNat)))[q]? = H[q]? := fun q hq => by simp [Array.getElem?_setIfInBounds, Ne.symm hq]
  have hWn : Wd E V ad (cpV ν o1 o2 sp.toNat dp.toNat n.toNat) (H.setIfInBounds (ad o2) (arrV (E.2.1 ti) n2 (va_cpy (ν o1) (ν o2) sp.toNat dp.toNat n.toNat))) := by
    have h := hW.set (f := va_cpy (ν o1) (ν o2) sp.toNat dp.toNat n.toNat) h2 (H1 := H.setIfInBounds (ad o2) (arrV (E.2.1 ti) n2 (va_cpy (ν o1) (ν o2) sp.toNat dp.toNat n.toNat))) (by unfold cOK; rw [hs2]; simp [Array.getElem?_setIfInBounds, hl2]) oq
    have e4 : (fun o' => if o' = o2 then va_cpy (ν o1) (ν o2) sp.toNat dp.toNat n.toNat else ν o') = cpV ν o1 o2 sp.toNat dp.toNat n.toNat := by
      funext o' k
      by_cases hh : o' = o2
      · subst hh
        simp only [if_true, va_cpy, cpV, true_and]
      · simp only [if_neg hh, cpV, hh, false_and, if_false]
    rw [e4] at h
    exact h
  obtain ⟨t, a1, b1⟩ := kk _ _ ls hWn hV ⟨by simp; exact hS.1, fun q g1 g2 => by
      rw [oq q (fun e => g2 (by rw [e]; exact hV o2 h2))]
      exact hS.2.1 q g1 g2, fun q hq => by
      rcases List.mem_append.mp hq with h | h
      · exact hS.2.2 q h
      · obtain ⟨z, -, hz⟩ := List.mem_map.mp h
        rw [← hz]
        exact hV o2 h2⟩ hl _ hheap X'
  exact ⟨t, step t a1, b1⟩
end HEAP
end
section
/-! ===== contracts and calls ===== -/
abbrev Mi : Type := MethodName × ByteArray × Nat × Option FieldType
def nP (V : Ob → Prop) (ad : Ob → Nat) (P1 : Option Value → Me → Prop) : Pq := fun v V' ad' ν' => V' = V ∧ ad' = ad ∧ ∃ μ', ν' = vl ad μ' ∧ P1 v μ'
/-- the contract of a method that makes nothing -/
def Con (l : Launch) (E : Ev) (d : Nat) (mi : Mi) (A : Nat → Prop) (V : Ob → Prop) (ad : Ob → Nat) (μ : Me) (av : List Value) (P1 : Option Value → Me → Prop) : Prop := ConG l E d mi.1 mi.2.1 mi.2.2.1 mi.2.2.2 A V ad (vl ad μ) 0 0 av (nP V ad P1)
def pi (Q : Int → Me → Prop) : Option Value → Me → Prop := fun v μ => ∃ z, v = some (.int (I z)) ∧ Q z μ
def pz (Q : Bool → Me → Prop) : Option Value → Me → Prop := fun v μ => ∃ b, v = some (.int (I (bI b))) ∧ Q b μ
def pl (Q : Int → Me → Prop) : Option Value → Me → Prop := fun v μ => ∃ z, v = some (.long (J z)) ∧ Q z μ
def pv (Q : Me → Prop) : Option Value → Me → Prop := fun v μ => v = none ∧ Q μ
def pr (Q : Nat → Me → Prop) : Option Value → Me → Prop := fun v μ => ∃ a, v = some (.ref a) ∧ Q a μ
theorem con {l : Launch} {E : Ev} {d : Nat} {mi : Mi} {A : Nat → Prop} {V : Ob → Prop} {ad : Ob → Nat} {μ : Me} {av : List Value} {P1 : Option Value → Me → Prop} {own : String}
    (hy : plainName mi.1.cls = true) (ho : mi.1.cls = own) (hn : Nat.ble (lg_sl av).length mi.2.2.1 = true) {L : List (Nat × Value)} (hL : lv_args 0 av = L)
    (body : ∀ Γ : Ct, Fx Γ mi.2.1 own mi.2.2.1 mi.2.2.2 (nP V ad P1) d 0 0 → XX Γ mi.2.2.1 V ad (vl ad μ) 0 0 0 L []) : Con l E d mi A V ad μ av P1 :=
  conG hy ho (Nat.le_of_ble_eq_true hn) hL (fun Γ F _ _ => body Γ F)
theorem Con.to {l : Launch} {E : Ev} {d : Nat} {mi : Mi} {A : Nat → Prop} {V : Ob → Prop} {ad : Ob → Nat} {μ : Me} {av : List Value} {P1 P2 : Option Value → Me → Prop} (h : Con l E d mi A V ad μ av P1) (h12 : ∀ v μ', P1 v μ' → P2 v μ') : Con l E d mi A V ad μ av P2 := by
  intro hA hA0 p e ha hc hk s m args below hf happ hP hK
  obtain ⟨k, o, h1, h2, h3, ⟨⟨v, V', ad', ν', q1, ⟨r1, r2, μ', r3, r4⟩, q3⟩, q4⟩, q5⟩ := h hA hA0 p e ha hc hk s m args below hf happ hP hK
  exact ⟨k, o, h1, h2, h3, ⟨⟨v, V', ad', ν', q1, ⟨r1, r2, μ', r3, h12 v μ' r4⟩, q3⟩, q4⟩, q5⟩
def LkV (own : String) (idx : Nat) (mi : Mi) (C : String) (n : Nat) : Prop :=
  Cond.methodLink own idx mi.1 ∈ wA ∧ Cond.instanceMethod mi.1 ∈ wA ∧ Cond.selects C mi.1 mi.1 ∈ wA ∧ Cond.initialized C ∈ wA ∧ Cond.code mi.1 mi.2.1 mi.2.2.1 mi.2.2.2 ∈ wA ∧ mi.1.cls = C ∧ (mi.1.cls ≠ "java/lang/invoke/MethodHandle" ∧ mi.1.cls ≠ "java/lang/invoke/VarHandle") ∧ (parseMethodDescriptor mi.1.desc).map (fun d => d.parameters.length) = some n ∧ Nat.ble mi.2.2.1 21 = true
def LkS (own : String) (idx : Nat) (mi : Mi) (n : Nat) : Prop :=
  Cond.methodLink own idx mi.1 ∈ wA ∧ Cond.static mi.1 ∈ wA ∧ Cond.initialized mi.1.cls ∈ wA ∧ Cond.code mi.1 mi.2.1 mi.2.2.1 mi.2.2.2 ∈ wA ∧ (mi.1.cls ≠ "java/lang/invoke/MethodHandle" ∧ mi.1.cls ≠ "java/lang/invoke/VarHandle") ∧ (parseMethodDescriptor mi.1.desc).map (fun d => d.parameters.length) = some n ∧ Nat.ble mi.2.2.1 21 = true
/-- a static method of a nest mate -/
def LkSN (own : String) (idx : Nat) (mi : Mi) (host : String) (n : Nat) : Prop :=
  Cond.methodLinkNest own idx mi.1 host ∈ nestW ∧ Cond.static mi.1 ∈ wA ∧ Cond.initialized mi.1.cls ∈ wA ∧ Cond.code mi.1 mi.2.1 mi.2.2.1 mi.2.2.2 ∈ wA ∧ (mi.1.cls ≠ "java/lang/invoke/MethodHandle" ∧ mi.1.cls ≠ "java/lang/invoke/VarHandle") ∧ (parseMethodDescriptor mi.1.desc).map (fun d => d.parameters.length) = some n ∧ Nat.ble mi.2.2.1 21 = true
theorem gi_code {mi : Mi} (h : Cond.code mi.1 mi.2.1 mi.2.2.1 mi.2.2.2 ∈ wA) : GoodIn wA (Cond.code mi.1 mi.2.1 mi.2.2.1 mi.2.2.2 :: wA) := wA_gi fun w hw => by
  rcases List.mem_cons.mp hw with rfl | hw
  · exact h
  · exact hw
/-- a contract's start -/
def PcG (E : Ev) (A : Nat → Prop) (V : Ob → Prop) (ad : Ob → Nat) (ν : Mv) (mc : Nat) (av : List Value) : Array Value → State → Prop := fun args U => args = av.toArray ∧ Wd E V ad ν U.heap ∧ Kn E U ∧ (0 < mc → ∀ q, U.heap.size ≤ q → A q)
theorem PcG.blind {E : Ev} {A : Nat → Prop} {V : Ob → Prop} {ad : Ob → Nat} {ν : Mv} {mc : Nat} {av : List Value} : FrameBlind (PcG E A V ad ν mc av) := fun a U g mk h => ⟨h.1, h.2.1, Kn.blind g mk a h.2.2.1, h.2.2.2⟩
section CALLS
variable {p : Program} {l : Launch} {e : Env} {R : Room} {s : State} {m : MethodId} {args : Array Value} {below : List Frame} {meth : Method} {c : Code} {H : Heap} {locs : List Loc} {cells slots : Nat} {Q : State → Prop} {pc : Nat} {ls : Array Slot} {rest st0 : List Value} {a : Array Value} {A : Nat → Prop} {mc ms : Nat} {E : Ev} {P : Pq}
/-- behind a call -/
theorem q_back (hr : va_Run p l e R s m args below meth c H locs cells slots mc ms (F0 m pc ls st0) rest (QG E P A a) A) (hS : va_S A s.heap H locs)
    (kk : ∀ (v : Option Value) (V : Ob → Prop) (ad : Ob → Nat) (ν : Mv) (H1 : Heap) (locs1 : List Loc), P v V ad ν → Wd E V ad ν H1 → (∀ o, V o → A (ad o)) → va_S A s.heap H1 locs1 → W p l e R s m args below meth c H1 locs1 (cells + mc) (slots + ms) Q (F0 m (pc + 3) ls (v.toList ++ rest))) : W p l e R s m args below meth c H locs cells slots Q (F0 m pc ls st0) := by
  intro T hT X
  obtain ⟨v, st₀, t, T', L, h0, X', hL, e1, e2, ⟨⟨v', V, ad, ν, hv, hP, hW, hV⟩, hz, hk⟩, st⟩ := hr T hT X
  cases hv
  rw [h0] at hz hk
  obtain ⟨t2, a1, b1⟩ := kk v V ad ν T'.heap (locs ++ L) hP (by rw [e1]; exact hW) hV ⟨Nat.le_trans hS.1 (by rw [e1]; exact hz), fun q h1 h2 => by rw [e1, hk q (Nat.lt_of_lt_of_le h1 hS.1) h2]; exact hS.2.1 q h1 h2, fun q hq => by
      rcases List.mem_append.mp hq with h | h
      · exact hS.2.2 q h
      · exact hL q h⟩ T' rfl X'
  exact ⟨t2, st t2 a1, b1⟩
end CALLS
section CALLX
variable {Γ : Ct} {cc : ByteArray} {own : String} {nL : Nat} {ret : Option FieldType} {P : Pq} {d mc ms : Nat} {V : Ob → Prop} {ad : Ob → Nat} {ν : Mv} {cs sl pc : Nat} {L : List (Nat × Value)} {st st0 : List Value} {o : Ob} {mi : Mi} {C : String} {T : u_T} {N ci n idx d2 mc2 ms2 : Nat} {As : List Value} {P2 : Pq}
theorem x_callVG (F : Fx Γ cc own nL ret P d mc ms) (dd : decode cc pc = .ok (.invokevirtual idx, 3)) (hL : LkV own idx mi C n) (hci : vwCl[ci]? = some (C, T, N)) (ho : V o) (hs : shp o = .inl ci) (hn : As.length = n) (hst : st0 = As.reverse ++ .ref (ad o) :: st) (hcat : Nat.ble ((st.map fun v => v.category).sum) 8 = true) (hd : Nat.ble (d2 + 1) d = true) (hmc : Nat.ble (cs + mc2) mc = true) (hms : Nat.ble (sl + ms2) ms = true)
    (hM : ∀ (l : Launch) (E : Ev) (A : Nat → Prop), ConG l E d2 mi.1 mi.2.1 mi.2.2.1 mi.2.2.2 A V ad ν mc2 ms2 (.ref (ad o) :: As) P2) (kk : ∀ (v : Option Value) (V' : Ob → Prop) (ad' : Ob → Nat) (ν' : Mv), P2 v V' ad' ν' → XX Γ nL V' ad' ν' (cs + mc2) (sl + ms2) (pc + 3) L (v.toList ++ st)) : XX Γ nL V ad ν cs sl pc L st0 := by
  obtain ⟨p, l, e, R, s, m, args, below, meth, c, A, Q, E⟩ := Γ
  obtain ⟨hx, hb, hml, hown, hts, hlok, hr, hK, hA0, hR, hQ, hzz⟩ := F
  obtain ⟨w1, w2, w3, w4, w5, w6, w7, w8, w9⟩ := hL
  have hd := Nat.le_of_ble_eq_true hd
  have hmc := Nat.le_of_ble_eq_true hmc
  have hms := Nat.le_of_ble_eq_true hms
  have w9 := Nat.le_of_ble_eq_true w9
  intro H locs ls hW hV hS hl
  have h1 := hW.1 o ho
  unfold cOK at h1
  rw [hs] at h1
  obtain ⟨r, h1, cell, q1, q2, q3, q4⟩ := h1
  have hrr : r = (C, T, N) := Option.some.inj (h1.symm.trans hci)
  subst hrr
  subst hR
  have hfc := (hK.1.1 ci _ hci).2.1
  have CB : CallB (rmD d mc ms) s args own idx mi.1 mi.2.1 mi.2.2.1 mi.2.2.2 (Cond.code mi.1 mi.2.1 mi.2.2.1 mi.2.2.2 :: wA) (rmD d2 mc2 ms2) mc2 ms2 n := callB_of n hts (gi_code w5) rfl rfl rfl (by rw [w6]; exact hts _ w4) (hts _ w1) ⟨w7.1, w7.2, w8⟩ ⟨hd, by show 8 + (mi.2.2.1 + 11) + 40 * d2 ≤ 40 * d; omega⟩
  refine q_back (va_runV (As := As) (rest := st) (b := ad o) ⟨hx, hb, hml, hown, hts⟩ (hM l E A hV hA0) ⟨CB, hts _ w2, hts _ w3⟩ ⟨PcG.blind, ⟨cell, q1, by rw [q3]; rfl, by rw [q2]; exact hfc⟩, fun U hU hw => ⟨rfl, by rw [hU]; exact hW, hK.next hA0 hS hU hw, fun hz q hq => hzz (by omega) q (Nat.le_trans hS.1 (by rw [← hU]; exact hq))⟩⟩ rfl hn hl.1 hst (lv_room (Nat.le_of_ble_eq_true hcat)) dd ⟨hmc, hms⟩) hS ?_
  intro v V' ad' ν' H1 locs1 hP hW1 hV1 hS1
  exact kk v V' ad' ν' hP H1 locs1 ls hW1 hV1 hS1 hl
theorem x_callSG (F : Fx Γ cc own nL ret P d mc ms) (dd : decode cc pc = .ok (.invokestatic idx, 3)) (hL : LkS own idx mi n) (hn : As.length = n) (hst : st0 = As.reverse ++ st) (hcat : Nat.ble ((st.map fun v => v.category).sum) 8 = true) (hd : Nat.ble (d2 + 1) d = true) (hmc : Nat.ble (cs + mc2) mc = true) (hms : Nat.ble (sl + ms2) ms = true)
    (hM : ∀ (l : Launch) (E : Ev) (A : Nat → Prop), ConG l E d2 mi.1 mi.2.1 mi.2.2.1 mi.2.2.2 A V ad ν mc2 ms2 As P2) (kk : ∀ (v : Option Value) (V' : Ob → Prop) (ad' : Ob → Nat) (ν' : Mv), P2 v V' ad' ν' → XX Γ nL V' ad' ν' (cs + mc2) (sl + ms2) (pc + 3) L (v.toList ++ st)) : XX Γ nL V ad ν cs sl pc L st0 := by
  obtain ⟨p, l, e, R, s, m, args, below, meth, c, A, Q, E⟩ := Γ
  obtain ⟨hx, hb, hml, hown, hts, hlok, hr, hK, hA0, hR, hQ, hzz⟩ := F
  obtain ⟨w1, w2, w4, w5, w7, w8, w9⟩ := hL
  have hd := Nat.le_of_ble_eq_true hd
  have hmc := Nat.le_of_ble_eq_true hmc
  have hms := Nat.le_of_ble_eq_true hms
  have w9 := Nat.le_of_ble_eq_true w9
  intro H locs ls hW hV hS hl
  subst hR
  have CB : CallB (rmD d mc ms) s args own idx mi.1 mi.2.1 mi.2.2.1 mi.2.2.2 (Cond.code mi.1 mi.2.1 mi.2.2.1 mi.2.2.2 :: wA) (rmD d2 mc2 ms2) mc2 ms2 n := callB_of n hts (gi_code w5) rfl rfl rfl (hts _ w4) (hts _ w1) ⟨w7.1, w7.2, w8⟩ ⟨hd, by show 8 + (mi.2.2.1 + 11) + 40 * d2 ≤ 40 * d; omega⟩
  refine q_back (va_runS (As := As) (rest := st) ⟨hx, hb, hml, hown, hts⟩ (hM l E A hV hA0) ⟨CB, hts _ w2⟩ ⟨PcG.blind, fun U hU hw => ⟨rfl, by rw [hU]; exact hW, hK.next hA0 hS hU hw, fun hz q hq => hzz (by omega) q (Nat.le_trans hS.1 (by rw [← hU]; exact hq))⟩⟩ rfl hn hl.1 hst (lv_room (Nat.le_of_ble_eq_true hcat)) dd ⟨hmc, hms⟩) hS ?_
  intro v V' ad' ν' H1 locs1 hP hW1 hV1 hS1
  exact kk v V' ad' ν' hP H1 locs1 ls hW1 hV1 hS1 hl
theorem x_callSNG {host : String} (F : Fx Γ cc own nL ret P d mc ms) (dd : decode cc pc = .ok (.invokestatic idx, 3)) (hL : LkSN own idx mi host n) (hn : As.length = n) (hst : st0 = As.reverse ++ st) (hcat : Nat.ble ((st.map fun v => v.category).sum) 8 = true) (hd : Nat.ble (d2 + 1) d = true) (hmc : Nat.ble (cs + mc2) mc = true) (hms : Nat.ble (sl + ms2) ms = true)
    (hM : ∀ (l : Launch) (E : Ev) (A : Nat → Prop), ConG l E d2 mi.1 mi.2.1 mi.2.2.1 mi.2.2.2 A V ad ν mc2 ms2 As P2) (kk : ∀ (v : Option Value) (V' : Ob → Prop) (ad' : Ob → Nat) (ν' : Mv), P2 v V' ad' ν' → XX Γ nL V' ad' ν' (cs + mc2) (sl + ms2) (pc + 3) L (v.toList ++ st)) : XX Γ nL V ad ν cs sl pc L st0 := by
  obtain ⟨p, l, e, R, s, m, args, below, meth, c, A, Q, E⟩ := Γ
  obtain ⟨hx, hb, hml, hown, hts, hlok, hr, hK, hA0, hR, hQ, hzz⟩ := F
  obtain ⟨w1, w2, w4, w5, w7, w8, w9⟩ := hL
  have hd := Nat.le_of_ble_eq_true hd
  have hmc := Nat.le_of_ble_eq_true hmc
  have hms := Nat.le_of_ble_eq_true hms
  have w9 := Nat.le_of_ble_eq_true w9
  intro H locs ls hW hV hS hl
  subst hR
  have CB : va_CN (rmD d mc ms) s args own idx mi.1 host mi.2.1 mi.2.2.1 mi.2.2.2 (Cond.code mi.1 mi.2.1 mi.2.2.1 mi.2.2.2 :: wA) (rmD d2 mc2 ms2) mc2 ms2 n := va_cnB n hts (gi_code w5) rfl rfl rfl (hK.2.1 _ w1) (hts _ w4) ⟨w7.1, w7.2, w8⟩ ⟨hd, by show 8 + (mi.2.2.1 + 11) + 40 * d2 ≤ 40 * d; omega⟩
  refine q_back (va_runSN (As := As) (rest := st) ⟨hx, hb, hml, hown, hts⟩ (hM l E A hV hA0) ⟨CB, hts _ w2, trivial⟩ ⟨PcG.blind, fun U hU hw => ⟨rfl, by rw [hU]; exact hW, hK.next hA0 hS hU hw, fun hz q hq => hzz (by omega) q (Nat.le_trans hS.1 (by rw [← hU]; exact hq))⟩⟩ rfl hn hl.1 hst (lv_room (Nat.le_of_ble_eq_true hcat)) dd ⟨hmc, hms⟩) hS ?_
  intro v V' ad' ν' H1 locs1 hP hW1 hV1 hS1
  exact kk v V' ad' ν' hP H1 locs1 ls hW1 hV1 hS1 hl
variable {μ : Me}
theorem x_V0i {Q1 : Int → Me → Prop} (F : Fx Γ cc own nL ret P d mc ms) (dd : decode cc pc = .ok (.invokevirtual idx, 3)) (hL : LkV own idx mi C 0) (hci : vwCl[ci]? = some (C, T, N)) (ho : V o) (hs : shp o = .inl ci) (hd : Nat.ble (d2 + 1) d = true) (hM : ∀ (l : Launch) (E : Ev) (A : Nat → Prop), Con l E d2 mi A V ad μ (.ref (ad o) :: []) (pi Q1)) (hcat : Nat.ble ((st.map fun v => v.category).sum) 8 = true) (hmc : Nat.ble cs mc = true) (hms : Nat.ble sl ms = true) (kk : ∀ (z : Int) (μ' : Me), Q1 z μ' → XX Γ nL V ad (vl ad μ') cs sl (pc + 3) L (.int (I z) :: st)) : XX Γ nL V ad (vl ad μ) cs sl pc L (.ref (ad o) :: st) := by
  refine x_callVG (As := []) (mc2 := 0) (ms2 := 0) F dd hL hci ho hs rfl rfl hcat hd hmc hms hM ?_
  rintro v V' ad' ν' ⟨rfl, rfl, μ', rfl, z, rfl, hq⟩
  exact kk z μ' hq
theorem x_V0z {Q1 : Bool → Me → Prop} (F : Fx Γ cc own nL ret P d mc ms) (dd : decode cc pc = .ok (.invokevirtual idx, 3)) (hL : LkV own idx mi C 0) (hci : vwCl[ci]? = some (C, T, N)) (ho : V o) (hs : shp o = .inl ci) (hd : Nat.ble (d2 + 1) d = true) (hM : ∀ (l : Launch) (E : Ev) (A : Nat → Prop), Con l E d2 mi A V ad μ (.ref (ad o) :: []) (pz Q1)) (hcat : Nat.ble ((st.map fun v => v.category).sum) 8 = true) (hmc : Nat.ble cs mc = true) (hms : Nat.ble sl ms = true) (kk : ∀ (z : Bool) (μ' : Me), Q1 z μ' → XX Γ nL V ad (vl ad μ') cs sl (pc + 3) L (.int (I (bI z)) :: st)) : XX Γ nL V ad (vl ad μ) cs sl pc L (.ref (ad o) :: st) := by
  refine x_callVG (As := []) (mc2 := 0) (ms2 := 0) F dd hL hci ho hs rfl rfl hcat hd hmc hms hM ?_
  rintro v V' ad' ν' ⟨rfl, rfl, μ', rfl, z, rfl, hq⟩
  exact kk z μ' hq
theorem x_V0l {Q1 : Int → Me → Prop} (F : Fx Γ cc own nL ret P d mc ms) (dd : decode cc pc = .ok (.invokevirtual idx, 3)) (hL : LkV own idx mi C 0) (hci : vwCl[ci]? = some (C, T, N)) (ho : V o) (hs : shp o = .inl ci) (hd : Nat.ble (d2 + 1) d = true) (hM : ∀ (l : Launch) (E : Ev) (A : Nat → Prop), Con l E d2 mi A V ad μ (.ref (ad o) :: []) (pl Q1)) (hcat : Nat.ble ((st.map fun v => v.category).sum) 8 = true) (hmc : Nat.ble cs mc = true) (hms : Nat.ble sl ms = true) (kk : ∀ (z : Int) (μ' : Me), Q1 z μ' → XX Γ nL V ad (vl ad μ') cs sl (pc + 3) L (.long (J z) :: st)) : XX Γ nL V ad (vl ad μ) cs sl pc L (.ref (ad o) :: st) := by
  refine x_callVG (As := []) (mc2 := 0) (ms2 := 0) F dd hL hci ho hs rfl rfl hcat hd hmc hms hM ?_
  rintro v V' ad' ν' ⟨rfl, rfl, μ', rfl, z, rfl, hq⟩
  exact kk z μ' hq
theorem x_V0v {Q1 : Me → Prop} (F : Fx Γ cc own nL ret P d mc ms) (dd : decode cc pc = .ok (.invokevirtual idx, 3)) (hL : LkV own idx mi C 0) (hci : vwCl[ci]? = some (C, T, N)) (ho : V o) (hs : shp o = .inl ci) (hd : Nat.ble (d2 + 1) d = true) (hM : ∀ (l : Launch) (E : Ev) (A : Nat → Prop), Con l E d2 mi A V ad μ (.ref (ad o) :: []) (pv Q1)) (hcat : Nat.ble ((st.map fun v => v.category).sum) 8 = true) (hmc : Nat.ble cs mc = true) (hms : Nat.ble sl ms = true) (kk : ∀ (μ' : Me), Q1 μ' → XX Γ nL V ad (vl ad μ') cs sl (pc + 3) L st) : XX Γ nL V ad (vl ad μ) cs sl pc L (.ref (ad o) :: st) := by
  refine x_callVG (As := []) (mc2 := 0) (ms2 := 0) F dd hL hci ho hs rfl rfl hcat hd hmc hms hM ?_
  rintro v V' ad' ν' ⟨rfl, rfl, μ', rfl, rfl, hq⟩
  exact kk μ' hq
theorem x_V0r {Q1 : Nat → Me → Prop} (F : Fx Γ cc own nL ret P d mc ms) (dd : decode cc pc = .ok (.invokevirtual idx, 3)) (hL : LkV own idx mi C 0) (hci : vwCl[ci]? = some (C, T, N)) (ho : V o) (hs : shp o = .inl ci) (hd : Nat.ble (d2 + 1) d = true) (hM : ∀ (l : Launch) (E : Ev) (A : Nat → Prop), Con l E d2 mi A V ad μ (.ref (ad o) :: []) (pr Q1)) (hcat : Nat.ble ((st.map fun v => v.category).sum) 8 = true) (hmc : Nat.ble cs mc = true) (hms : Nat.ble sl ms = true) (kk : ∀ (z : Nat) (μ' : Me), Q1 z μ' → XX Γ nL V ad (vl ad μ') cs sl (pc + 3) L (.ref z :: st)) : XX Γ nL V ad (vl ad μ) cs sl pc L (.ref (ad o) :: st) := by
  refine x_callVG (As := []) (mc2 := 0) (ms2 := 0) F dd hL hci ho hs rfl rfl hcat hd hmc hms hM ?_
  rintro v V' ad' ν' ⟨rfl, rfl, μ', rfl, z, rfl, hq⟩
  exact kk z μ' hq
theorem x_V1i {a1 : Value} {Q1 : Int → Me → Prop} (F : Fx Γ cc own nL ret P d mc ms) (dd : decode cc pc = .ok (.invokevirtual idx, 3)) (hL : LkV own idx mi C 1) (hci : vwCl[ci]? = some (C, T, N)) (ho : V o) (hs : shp o = .inl ci) (hd : Nat.ble (d2 + 1) d = true) (hM : ∀ (l : Launch) (E : Ev) (A : Nat → Prop), Con l E d2 mi A V ad μ (.ref (ad o) :: [a1]) (pi Q1)) (hcat : Nat.ble ((st.map fun v => v.category).sum) 8 = true) (hmc : Nat.ble cs mc = true) (hms : Nat.ble sl ms = true) (kk : ∀ (z : Int) (μ' : Me), Q1 z μ' → XX Γ nL V ad (vl ad μ') cs sl (pc + 3) L (.int (I z) :: st)) : XX Γ nL V ad (vl ad μ) cs sl pc L (a1 :: .ref (ad o) :: st) := by
  refine x_callVG (As := [a1]) (mc2 := 0) (ms2 := 0) F dd hL hci ho hs rfl rfl hcat hd hmc hms hM ?_
  rintro v V' ad' ν' ⟨rfl, rfl, μ', rfl, z, rfl, hq⟩
  exact kk z μ' hq
theorem x_V1z {a1 : Value} {Q1 : Bool → Me → Prop} (F : Fx Γ cc own nL ret P d mc ms) (dd : decode cc pc = .ok (.invokevirtual idx, 3)) (hL : LkV own idx mi C 1) (hci : vwCl[ci]? = some (C, T, N)) (ho : V o) (hs : shp o = .inl ci) (hd : Nat.ble (d2 + 1) d = true) (hM : ∀ (l : Launch) (E : Ev) (A : Nat → Prop), Con l E d2 mi A V ad μ (.ref (ad o) :: [a1]) (pz Q1)) (hcat : Nat.ble ((st.map fun v => v.category).sum) 8 = true) (hmc : Nat.ble cs mc = true) (hms : Nat.ble sl ms = true) (kk : ∀ (z : Bool) (μ' : Me), Q1 z μ' → XX Γ nL V ad (vl ad μ') cs sl (pc + 3) L (.int (I (bI z)) :: st)) : XX Γ nL V ad (vl ad μ) cs sl pc L (a1 :: .ref (ad o) :: st) := by
  refine x_callVG (As := [a1]) (mc2 := 0) (ms2 := 0) F dd hL hci ho hs rfl rfl hcat hd hmc hms hM ?_
  rintro v V' ad' ν' ⟨rfl, rfl, μ', rfl, z, rfl, hq⟩
  exact kk z μ' hq
theorem x_V1l {a1 : Value} {Q1 : Int → Me → Prop} (F : Fx Γ cc own nL ret P d mc ms) (dd : decode cc pc = .ok (.invokevirtual idx, 3)) (hL : LkV own idx mi C 1) (hci : vwCl[ci]? = some (C, T, N)) (ho : V o) (hs : shp o = .inl ci) (hd : Nat.ble (d2 + 1) d = true) (hM : ∀ (l : Launch) (E : Ev) (A : Nat → Prop), Con l E d2 mi A V ad μ (.ref (ad o) :: [a1]) (pl Q1)) (hcat : Nat.ble ((st.map fun v => v.category).sum) 8 = true) (hmc : Nat.ble cs mc = true) (hms : Nat.ble sl ms = true) (kk : ∀ (z : Int) (μ' : Me), Q1 z μ' → XX Γ nL V ad (vl ad μ') cs sl (pc + 3) L (.long (J z) :: st)) : XX Γ nL V ad (vl ad μ) cs sl pc L (a1 :: .ref (ad o) :: st) := by
  refine x_callVG (As := [a1]) (mc2 := 0) (ms2 := 0) F dd hL hci ho hs rfl rfl hcat hd hmc hms hM ?_
  rintro v V' ad' ν' ⟨rfl, rfl, μ', rfl, z, rfl, hq⟩
  exact kk z μ' hq
theorem x_V1v {a1 : Value} {Q1 : Me → Prop} (F : Fx Γ cc own nL ret P d mc ms) (dd : decode cc pc = .ok (.invokevirtual idx, 3)) (hL : LkV own idx mi C 1) (hci : vwCl[ci]? = some (C, T, N)) (ho : V o) (hs : shp o = .inl ci) (hd : Nat.ble (d2 + 1) d = true) (hM : ∀ (l : Launch) (E : Ev) (A : Nat → Prop), Con l E d2 mi A V ad μ (.ref (ad o) :: [a1]) (pv Q1)) (hcat : Nat.ble ((st.map fun v => v.category).sum) 8 = true) (hmc : Nat.ble cs mc = true) (hms : Nat.ble sl ms = true) (kk : ∀ (μ' : Me), Q1 μ' → XX Γ nL V ad (vl ad μ') cs sl (pc + 3) L st) : XX Γ nL V ad (vl ad μ) cs sl pc L (a1 :: .ref (ad o) :: st) := by
  refine x_callVG (As := [a1]) (mc2 := 0) (ms2 := 0) F dd hL hci ho hs rfl rfl hcat hd hmc hms hM ?_
  rintro v V' ad' ν' ⟨rfl, rfl, μ', rfl, rfl, hq⟩
  exact kk μ' hq
theorem x_V1r {a1 : Value} {Q1 : Nat → Me → Prop} (F : Fx Γ cc own nL ret P d mc ms) (dd : decode cc pc = .ok (.invokevirtual idx, 3)) (hL : LkV own idx mi C 1) (hci : vwCl[ci]? = some (C, T, N)) (ho : V o) (hs : shp o = .inl ci) (hd : Nat.ble (d2 + 1) d = true) (hM : ∀ (l : Launch) (E : Ev) (A : Nat → Prop), Con l E d2 mi A V ad μ (.ref (ad o) :: [a1]) (pr Q1)) (hcat : Nat.ble ((st.map fun v => v.category).sum) 8 = true) (hmc : Nat.ble cs mc = true) (hms : Nat.ble sl ms = true) (kk : ∀ (z : Nat) (μ' : Me), Q1 z μ' → XX Γ nL V ad (vl ad μ') cs sl (pc + 3) L (.ref z :: st)) : XX Γ nL V ad (vl ad μ) cs sl pc L (a1 :: .ref (ad o) :: st) := by
  refine x_callVG (As := [a1]) (mc2 := 0) (ms2 := 0) F dd hL hci ho hs rfl rfl hcat hd hmc hms hM ?_
  rintro v V' ad' ν' ⟨rfl, rfl, μ', rfl, z, rfl, hq⟩
  exact kk z μ' hq
theorem x_V2i {a1 a2 : Value} {Q1 : Int → Me → Prop} (F : Fx Γ cc own nL ret P d mc ms) (dd : decode cc pc = .ok (.invokevirtual idx, 3)) (hL : LkV own idx mi C 2) (hci : vwCl[ci]? = some (C, T, N)) (ho : V o) (hs : shp o = .inl ci) (hd : Nat.ble (d2 + 1) d = true) (hM : ∀ (l : Launch) (E : Ev) (A : Nat → Prop), Con l E d2 mi A V ad μ (.ref (ad o) :: [a1, a2]) (pi Q1)) (hcat : Nat.ble ((st.map fun v => v.category).sum) 8 = true) (hmc : Nat.ble cs mc = true) (hms : Nat.ble sl ms = true) (kk : ∀ (z : Int) (μ' : Me), Q1 z μ' → XX Γ nL V ad (vl ad μ') cs sl (pc + 3) L (.int (I z) :: st)) : XX Γ nL V ad (vl ad μ) cs sl pc L (a2 :: a1 :: .ref (ad o) :: st) := by
  refine x_callVG (As := [a1, a2]) (mc2 := 0) (ms2 := 0) F dd hL hci ho hs rfl rfl hcat hd hmc hms hM ?_
  rintro v V' ad' ν' ⟨rfl, rfl, μ', rfl, z, rfl, hq⟩
  exact kk z μ' hq
theorem x_V2z {a1 a2 : Value} {Q1 : Bool → Me → Prop} (F : Fx Γ cc own nL ret P d mc ms) (dd : decode cc pc = .ok (.invokevirtual idx, 3)) (hL : LkV own idx mi C 2) (hci : vwCl[ci]? = some (C, T, N)) (ho : V o) (hs : shp o = .inl ci) (hd : Nat.ble (d2 + 1) d = true) (hM : ∀ (l : Launch) (E : Ev) (A : Nat → Prop), Con l E d2 mi A V ad μ (.ref (ad o) :: [a1, a2]) (pz Q1)) (hcat : Nat.ble ((st.map fun v => v.category).sum) 8 = true) (hmc : Nat.ble cs mc = true) (hms : Nat.ble sl ms = true) (kk : ∀ (z : Bool) (μ' : Me), Q1 z μ' → XX Γ nL V ad (vl ad μ') cs sl (pc + 3) L (.int (I (bI z)) :: st)) : XX Γ nL V ad (vl ad μ) cs sl pc L (a2 :: a1 :: .ref (ad o) :: st) := by
  refine x_callVG (As := [a1, a2]) (mc2 := 0) (ms2 := 0) F dd hL hci ho hs rfl rfl hcat hd hmc hms hM ?_
  rintro v V' ad' ν' ⟨rfl, rfl, μ', rfl, z, rfl, hq⟩
  exact kk z μ' hq
theorem x_V2l {a1 a2 : Value} {Q1 : Int → Me → Prop} (F : Fx Γ cc own nL ret P d mc ms) (dd : decode cc pc = .ok (.invokevirtual idx, 3)) (hL : LkV own idx mi C 2) (hci : vwCl[ci]? = some (C, T, N)) (ho : V o) (hs : shp o = .inl ci) (hd : Nat.ble (d2 + 1) d = true) (hM : ∀ (l : Launch) (E : Ev) (A : Nat → Prop), Con l E d2 mi A V ad μ (.ref (ad o) :: [a1, a2]) (pl Q1)) (hcat : Nat.ble ((st.map fun v => v.category).sum) 8 = true) (hmc : Nat.ble cs mc = true) (hms : Nat.ble sl ms = true) (kk : ∀ (z : Int) (μ' : Me), Q1 z μ' → XX Γ nL V ad (vl ad μ') cs sl (pc + 3) L (.long (J z) :: st)) : XX Γ nL V ad (vl ad μ) cs sl pc L (a2 :: a1 :: .ref (ad o) :: st) := by
  refine x_callVG (As := [a1, a2]) (mc2 := 0) (ms2 := 0) F dd hL hci ho hs rfl rfl hcat hd hmc hms hM ?_
  rintro v V' ad' ν' ⟨rfl, rfl, μ', rfl, z, rfl, hq⟩
  exact kk z μ' hq
theorem x_V2v {a1 a2 : Value} {Q1 : Me → Prop} (F : Fx Γ cc own nL ret P d mc ms) (dd : decode cc pc = .ok (.invokevirtual idx, 3)) (hL : LkV own idx mi C 2) (hci : vwCl[ci]? = some (C, T, N)) (ho : V o) (hs : shp o = .inl ci) (hd : Nat.ble (d2 + 1) d = true) (hM : ∀ (l : Launch) (E : Ev) (A : Nat → Prop), Con l E d2 mi A V ad μ (.ref (ad o) :: [a1, a2]) (pv Q1)) (hcat : Nat.ble ((st.map fun v => v.category).sum) 8 = true) (hmc : Nat.ble cs mc = true) (hms : Nat.ble sl ms = true) (kk : ∀ (μ' : Me), Q1 μ' → XX Γ nL V ad (vl ad μ') cs sl (pc + 3) L st) : XX Γ nL V ad (vl ad μ) cs sl pc L (a2 :: a1 :: .ref (ad o) :: st) := by
  refine x_callVG (As := [a1, a2]) (mc2 := 0) (ms2 := 0) F dd hL hci ho hs rfl rfl hcat hd hmc hms hM ?_
  rintro v V' ad' ν' ⟨rfl, rfl, μ', rfl, rfl, hq⟩
  exact kk μ' hq
theorem x_V2r {a1 a2 : Value} {Q1 : Nat → Me → Prop} (F : Fx Γ cc own nL ret P d mc ms) (dd : decode cc pc = .ok (.invokevirtual idx, 3)) (hL : LkV own idx mi C 2) (hci : vwCl[ci]? = some (C, T, N)) (ho : V o) (hs : shp o = .inl ci) (hd : Nat.ble (d2 + 1) d = true) (hM : ∀ (l : Launch) (E : Ev) (A : Nat → Prop), Con l E d2 mi A V ad μ (.ref (ad o) :: [a1, a2]) (pr Q1)) (hcat : Nat.ble ((st.map fun v => v.category).sum) 8 = true) (hmc : Nat.ble cs mc = true) (hms : Nat.ble sl ms = true) (kk : ∀ (z : Nat) (μ' : Me), Q1 z μ' → XX Γ nL V ad (vl ad μ') cs sl (pc + 3) L (.ref z :: st)) : XX Γ nL V ad (vl ad μ) cs sl pc L (a2 :: a1 :: .ref (ad o) :: st) := by
  refine x_callVG (As := [a1, a2]) (mc2 := 0) (ms2 := 0) F dd hL hci ho hs rfl rfl hcat hd hmc hms hM ?_
  rintro v V' ad' ν' ⟨rfl, rfl, μ', rfl, z, rfl, hq⟩
  exact kk z μ' hq
theorem x_V3i {a1 a2 a3 : Value} {Q1 : Int → Me → Prop} (F : Fx Γ cc own nL ret P d mc ms) (dd : decode cc pc = .ok (.invokevirtual idx, 3)) (hL : LkV own idx mi C 3) (hci : vwCl[ci]? = some (C, T, N)) (ho : V o) (hs : shp o = .inl ci) (hd : Nat.ble (d2 + 1) d = true) (hM : ∀ (l : Launch) (E : Ev) (A : Nat → Prop), Con l E d2 mi A V ad μ (.ref (ad o) :: [a1, a2, a3]) (pi Q1)) (hcat : Nat.ble ((st.map fun v => v.category).sum) 8 = true) (hmc : Nat.ble cs mc = true) (hms : Nat.ble sl ms = true) (kk : ∀ (z : Int) (μ' : Me), Q1 z μ' → XX Γ nL V ad (vl ad μ') cs sl (pc + 3) L (.int (I z) :: st)) : XX Γ nL V ad (vl ad μ) cs sl pc L (a3 :: a2 :: a1 :: .ref (ad o) :: st) := by
  refine x_callVG (As := [a1, a2, a3]) (mc2 := 0) (ms2 := 0) F dd hL hci ho hs rfl rfl hcat hd hmc hms hM ?_
  rintro v V' ad' ν' ⟨rfl, rfl, μ', rfl, z, rfl, hq⟩
  exact kk z μ' hq
theorem x_V3z {a1 a2 a3 : Value} {Q1 : Bool → Me → Prop} (F : Fx Γ cc own nL ret P d mc ms) (dd : decode cc pc = .ok (.invokevirtual idx, 3)) (hL : LkV own idx mi C 3) (hci : vwCl[ci]? = some (C, T, N)) (ho : V o) (hs : shp o = .inl ci) (hd : Nat.ble (d2 + 1) d = true) (hM : ∀ (l : Launch) (E : Ev) (A : Nat → Prop), Con l E d2 mi A V ad μ (.ref (ad o) :: [a1, a2, a3]) (pz Q1)) (hcat : Nat.ble ((st.map fun v => v.category).sum) 8 = true) (hmc : Nat.ble cs mc = true) (hms : Nat.ble sl ms = true) (kk : ∀ (z : Bool) (μ' : Me), Q1 z μ' → XX Γ nL V ad (vl ad μ') cs sl (pc + 3) L (.int (I (bI z)) :: st)) : XX Γ nL V ad (vl ad μ) cs sl pc L (a3 :: a2 :: a1 :: .ref (ad o) :: st) := by
  refine x_callVG (As := [a1, a2, a3]) (mc2 := 0) (ms2 := 0) F dd hL hci ho hs rfl rfl hcat hd hmc hms hM ?_
  rintro v V' ad' ν' ⟨rfl, rfl, μ', rfl, z, rfl, hq⟩
  exact kk z μ' hq
theorem x_V3l {a1 a2 a3 : Value} {Q1 : Int → Me → Prop} (F : Fx Γ cc own nL ret P d mc ms) (dd : decode cc pc = .ok (.invokevirtual idx, 3)) (hL : LkV own idx mi C 3) (hci : vwCl[ci]? = some (C, T, N)) (ho : V o) (hs : shp o = .inl ci) (hd : Nat.ble (d2 + 1) d = true) (hM : ∀ (l : Launch) (E : Ev) (A : Nat → Prop), Con l E d2 mi A V ad μ (.ref (ad o) :: [a1, a2, a3]) (pl Q1)) (hcat : Nat.ble ((st.map fun v => v.category).sum) 8 = true) (hmc : Nat.ble cs mc = true) (hms : Nat.ble sl ms = true) (kk : ∀ (z : Int) (μ' : Me), Q1 z μ' → XX Γ nL V ad (vl ad μ') cs sl (pc + 3) L (.long (J z) :: st)) : XX Γ nL V ad (vl ad μ) cs sl pc L (a3 :: a2 :: a1 :: .ref (ad o) :: st) := by
  refine x_callVG (As := [a1, a2, a3]) (mc2 := 0) (ms2 := 0) F dd hL hci ho hs rfl rfl hcat hd hmc hms hM ?_
  rintro v V' ad' ν' ⟨rfl, rfl, μ', rfl, z, rfl, hq⟩
  exact kk z μ' hq
theorem x_V3v {a1 a2 a3 : Value} {Q1 : Me → Prop} (F : Fx Γ cc own nL ret P d mc ms) (dd : decode cc pc = .ok (.invokevirtual idx, 3)) (hL : LkV own idx mi C 3) (hci : vwCl[ci]? = some (C, T, N)) (ho : V o) (hs : shp o = .inl ci) (hd : Nat.ble (d2 + 1) d = true) (hM : ∀ (l : Launch) (E : Ev) (A : Nat → Prop), Con l E d2 mi A V ad μ (.ref (ad o) :: [a1, a2, a3]) (pv Q1)) (hcat : Nat.ble ((st.map fun v => v.category).sum) 8 = true) (hmc : Nat.ble cs mc = true) (hms : Nat.ble sl ms = true) (kk : ∀ (μ' : Me), Q1 μ' → XX Γ nL V ad (vl ad μ') cs sl (pc + 3) L st) : XX Γ nL V ad (vl ad μ) cs sl pc L (a3 :: a2 :: a1 :: .ref (ad o) :: st) := by
  refine x_callVG (As := [a1, a2, a3]) (mc2 := 0) (ms2 := 0) F dd hL hci ho hs rfl rfl hcat hd hmc hms hM ?_
  rintro v V' ad' ν' ⟨rfl, rfl, μ', rfl, rfl, hq⟩
  exact kk μ' hq
theorem x_V3r {a1 a2 a3 : Value} {Q1 : Nat → Me → Prop} (F : Fx Γ cc own nL ret P d mc ms) (dd : decode cc pc = .ok (.invokevirtual idx, 3)) (hL : LkV own idx mi C 3) (hci : vwCl[ci]? = some (C, T, N)) (ho : V o) (hs : shp o = .inl ci) (hd : Nat.ble (d2 + 1) d = true) (hM : ∀ (l : Launch) (E : Ev) (A : Nat → Prop), Con l E d2 mi A V ad μ (.ref (ad o) :: [a1, a2, a3]) (pr Q1)) (hcat : Nat.ble ((st.map fun v => v.category).sum) 8 = true) (hmc : Nat.ble cs mc = true) (hms : Nat.ble sl ms = true) (kk : ∀ (z : Nat) (μ' : Me), Q1 z μ' → XX Γ nL V ad (vl ad μ') cs sl (pc + 3) L (.ref z :: st)) : XX Γ nL V ad (vl ad μ) cs sl pc L (a3 :: a2 :: a1 :: .ref (ad o) :: st) := by
  refine x_callVG (As := [a1, a2, a3]) (mc2 := 0) (ms2 := 0) F dd hL hci ho hs rfl rfl hcat hd hmc hms hM ?_
  rintro v V' ad' ν' ⟨rfl, rfl, μ', rfl, z, rfl, hq⟩
  exact kk z μ' hq
theorem x_V4i {a1 a2 a3 a4 : Value} {Q1 : Int → Me → Prop} (F : Fx Γ cc own nL ret P d mc ms) (dd : decode cc pc = .ok (.invokevirtual idx, 3)) (hL : LkV own idx mi C 4) (hci : vwCl[ci]? = some (C, T, N)) (ho : V o) (hs : shp o = .inl ci) (hd : Nat.ble (d2 + 1) d = true) (hM : ∀ (l : Launch) (E : Ev) (A : Nat → Prop), Con l E d2 mi A V ad μ (.ref (ad o) :: [a1, a2, a3, a4]) (pi Q1)) (hcat : Nat.ble ((st.map fun v => v.category).sum) 8 = true) (hmc : Nat.ble cs mc = true) (hms : Nat.ble sl ms = true) (kk : ∀ (z : Int) (μ' : Me), Q1 z μ' → XX Γ nL V ad (vl ad μ') cs sl (pc + 3) L (.int (I z) :: st)) : XX Γ nL V ad (vl ad μ) cs sl pc L (a4 :: a3 :: a2 :: a1 :: .ref (ad o) :: st) := by
  refine x_callVG (As := [a1, a2, a3, a4]) (mc2 := 0) (ms2 := 0) F dd hL hci ho hs rfl rfl hcat hd hmc hms hM ?_
  rintro v V' ad' ν' ⟨rfl, rfl, μ', rfl, z, rfl, hq⟩
  exact kk z μ' hq
theorem x_V4z {a1 a2 a3 a4 : Value} {Q1 : Bool → Me → Prop} (F : Fx Γ cc own nL ret P d mc ms) (dd : decode cc pc = .ok (.invokevirtual idx, 3)) (hL : LkV own idx mi C 4) (hci : vwCl[ci]? = some (C, T, N)) (ho : V o) (hs : shp o = .inl ci) (hd : Nat.ble (d2 + 1) d = true) (hM : ∀ (l : Launch) (E : Ev) (A : Nat → Prop), Con l E d2 mi A V ad μ (.ref (ad o) :: [a1, a2, a3, a4]) (pz Q1)) (hcat : Nat.ble ((st.map fun v => v.category).sum) 8 = true) (hmc : Nat.ble cs mc = true) (hms : Nat.ble sl ms = true) (kk : ∀ (z : Bool) (μ' : Me), Q1 z μ' → XX Γ nL V ad (vl ad μ') cs sl (pc + 3) L (.int (I (bI z)) :: st)) : XX Γ nL V ad (vl ad μ) cs sl pc L (a4 :: a3 :: a2 :: a1 :: .ref (ad o) :: st) := by
  refine x_callVG (As := [a1, a2, a3, a4]) (mc2 := 0) (ms2 := 0) F dd hL hci ho hs rfl rfl hcat hd hmc hms hM ?_
  rintro v V' ad' ν' ⟨rfl, rfl, μ', rfl, z, rfl, hq⟩
  exact kk z μ' hq
theorem x_V4l {a1 a2 a3 a4 : Value} {Q1 : Int → Me → Prop} (F : Fx Γ cc own nL ret P d mc ms) (dd : decode cc pc = .ok (.invokevirtual idx, 3)) (hL : LkV own idx mi C 4) (hci : vwCl[ci]? = some (C, T, N)) (ho : V o) (hs : shp o = .inl ci) (hd : Nat.ble (d2 + 1) d = true) (hM : ∀ (l : Launch) (E : Ev) (A : Nat → Prop), Con l E d2 mi A V ad μ (.ref (ad o) :: [a1, a2, a3, a4]) (pl Q1)) (hcat : Nat.ble ((st.map fun v => v.category).sum) 8 = true) (hmc : Nat.ble cs mc = true) (hms : Nat.ble sl ms = true) (kk : ∀ (z : Int) (μ' : Me), Q1 z μ' → XX Γ nL V ad (vl ad μ') cs sl (pc + 3) L (.long (J z) :: st)) : XX Γ nL V ad (vl ad μ) cs sl pc L (a4 :: a3 :: a2 :: a1 :: .ref (ad o) :: st) := by
  refine x_callVG (As := [a1, a2, a3, a4]) (mc2 := 0) (ms2 := 0) F dd hL hci ho hs rfl rfl hcat hd hmc hms hM ?_
  rintro v V' ad' ν' ⟨rfl, rfl, μ', rfl, z, rfl, hq⟩
  exact kk z μ' hq
theorem x_V4v {a1 a2 a3 a4 : Value} {Q1 : Me → Prop} (F : Fx Γ cc own nL ret P d mc ms) (dd : decode cc pc = .ok (.invokevirtual idx, 3)) (hL : LkV own idx mi C 4) (hci : vwCl[ci]? = some (C, T, N)) (ho : V o) (hs : shp o = .inl ci) (hd : Nat.ble (d2 + 1) d = true) (hM : ∀ (l : Launch) (E : Ev) (A : Nat → Prop), Con l E d2 mi A V ad μ (.ref (ad o) :: [a1, a2, a3, a4]) (pv Q1)) (hcat : Nat.ble ((st.map fun v => v.category).sum) 8 = true) (hmc : Nat.ble cs mc = true) (hms : Nat.ble sl ms = true) (kk : ∀ (μ' : Me), Q1 μ' → XX Γ nL V ad (vl ad μ') cs sl (pc + 3) L st) : XX Γ nL V ad (vl ad μ) cs sl pc L (a4 :: a3 :: a2 :: a1 :: .ref (ad o) :: st) := by
  refine x_callVG (As := [a1, a2, a3, a4]) (mc2 := 0) (ms2 := 0) F dd hL hci ho hs rfl rfl hcat hd hmc hms hM ?_
  rintro v V' ad' ν' ⟨rfl, rfl, μ', rfl, rfl, hq⟩
  exact kk μ' hq
theorem x_V4r {a1 a2 a3 a4 : Value} {Q1 : Nat → Me → Prop} (F : Fx Γ cc own nL ret P d mc ms) (dd : decode cc pc = .ok (.invokevirtual idx, 3)) (hL : LkV own idx mi C 4) (hci : vwCl[ci]? = some (C, T, N)) (ho : V o) (hs : shp o = .inl ci) (hd : Nat.ble (d2 + 1) d = true) (hM : ∀ (l : Launch) (E : Ev) (A : Nat → Prop), Con l E d2 mi A V ad μ (.ref (ad o) :: [a1, a2, a3, a4]) (pr Q1)) (hcat : Nat.ble ((st.map fun v => v.category).sum) 8 = true) (hmc : Nat.ble cs mc = true) (hms : Nat.ble sl ms = true) (kk : ∀ (z : Nat) (μ' : Me), Q1 z μ' → XX Γ nL V ad (vl ad μ') cs sl (pc + 3) L (.ref z :: st)) : XX Γ nL V ad (vl ad μ) cs sl pc L (a4 :: a3 :: a2 :: a1 :: .ref (ad o) :: st) := by
  refine x_callVG (As := [a1, a2, a3, a4]) (mc2 := 0) (ms2 := 0) F dd hL hci ho hs rfl rfl hcat hd hmc hms hM ?_
  rintro v V' ad' ν' ⟨rfl, rfl, μ', rfl, z, rfl, hq⟩
  exact kk z μ' hq
theorem x_V5i {a1 a2 a3 a4 a5 : Value} {Q1 : Int → Me → Prop} (F : Fx Γ cc own nL ret P d mc ms) (dd : decode cc pc = .ok (.invokevirtual idx, 3)) (hL : LkV own idx mi C 5) (hci : vwCl[ci]? = some (C, T, N)) (ho : V o) (hs : shp o = .inl ci) (hd : Nat.ble (d2 + 1) d = true) (hM : ∀ (l : Launch) (E : Ev) (A : Nat → Prop), Con l E d2 mi A V ad μ (.ref (ad o) :: [a1, a2, a3, a4, a5]) (pi Q1)) (hcat : Nat.ble ((st.map fun v => v.category).sum) 8 = true) (hmc : Nat.ble cs mc = true) (hms : Nat.ble sl ms = true) (kk : ∀ (z : Int) (μ' : Me), Q1 z μ' → XX Γ nL V ad (vl ad μ') cs sl (pc + 3) L (.int (I z) :: st)) : XX Γ nL V ad (vl ad μ) cs sl pc L (a5 :: a4 :: a3 :: a2 :: a1 :: .ref (ad o) :: st) := by
  refine x_callVG (As := [a1, a2, a3, a4, a5]) (mc2 := 0) (ms2 := 0) F dd hL hci ho hs rfl rfl hcat hd hmc hms hM ?_
  rintro v V' ad' ν' ⟨rfl, rfl, μ', rfl, z, rfl, hq⟩
  exact kk z μ' hq
theorem x_V5z {a1 a2 a3 a4 a5 : Value} {Q1 : Bool → Me → Prop} (F : Fx Γ cc own nL ret P d mc ms) (dd : decode cc pc = .ok (.invokevirtual idx, 3)) (hL : LkV own idx mi C 5) (hci : vwCl[ci]? = some (C, T, N)) (ho : V o) (hs : shp o = .inl ci) (hd : Nat.ble (d2 + 1) d = true) (hM : ∀ (l : Launch) (E : Ev) (A : Nat → Prop), Con l E d2 mi A V ad μ (.ref (ad o) :: [a1, a2, a3, a4, a5]) (pz Q1)) (hcat : Nat.ble ((st.map fun v => v.category).sum) 8 = true) (hmc : Nat.ble cs mc = true) (hms : Nat.ble sl ms = true) (kk : ∀ (z : Bool) (μ' : Me), Q1 z μ' → XX Γ nL V ad (vl ad μ') cs sl (pc + 3) L (.int (I (bI z)) :: st)) : XX Γ nL V ad (vl ad μ) cs sl pc L (a5 :: a4 :: a3 :: a2 :: a1 :: .ref (ad o) :: st) := by
  refine x_callVG (As := [a1, a2, a3, a4, a5]) (mc2 := 0) (ms2 := 0) F dd hL hci ho hs rfl rfl hcat hd hmc hms hM ?_
  rintro v V' ad' ν' ⟨rfl, rfl, μ', rfl, z, rfl, hq⟩
  exact kk z μ' hq
theorem x_V5l {a1 a2 a3 a4 a5 : Value} {Q1 : Int → Me → Prop} (F : Fx Γ cc own nL ret P d mc ms) (dd : decode cc pc = .ok (.invokevirtual idx, 3)) (hL : LkV own idx mi C 5) (hci : vwCl[ci]? = some (C, T, N)) (ho : V o) (hs : shp o = .inl ci) (hd : Nat.ble (d2 + 1) d = true) (hM : ∀ (l : Launch) (E : Ev) (A : Nat → Prop), Con l E d2 mi A V ad μ (.ref (ad o) :: [a1, a2, a3, a4, a5]) (pl Q1)) (hcat : Nat.ble ((st.map fun v => v.category).sum) 8 = true) (hmc : Nat.ble cs mc = true) (hms : Nat.ble sl ms = true) (kk : ∀ (z : Int) (μ' : Me), Q1 z μ' → XX Γ nL V ad (vl ad μ') cs sl (pc + 3) L (.long (J z) :: st)) : XX Γ nL V ad (vl ad μ) cs sl pc L (a5 :: a4 :: a3 :: a2 :: a1 :: .ref (ad o) :: st) := by
  refine x_callVG (As := [a1, a2, a3, a4, a5]) (mc2 := 0) (ms2 := 0) F dd hL hci ho hs rfl rfl hcat hd hmc hms hM ?_
  rintro v V' ad' ν' ⟨rfl, rfl, μ', rfl, z, rfl, hq⟩
  exact kk z μ' hq
theorem x_V5v {a1 a2 a3 a4 a5 : Value} {Q1 : Me → Prop} (F : Fx Γ cc own nL ret P d mc ms) (dd : decode cc pc = .ok (.invokevirtual idx, 3)) (hL : LkV own idx mi C 5) (hci : vwCl[ci]? = some (C, T, N)) (ho : V o) (hs : shp o = .inl ci) (hd : Nat.ble (d2 + 1) d = true) (hM : ∀ (l : Launch) (E : Ev) (A : Nat → Prop), Con l E d2 mi A V ad μ (.ref (ad o) :: [a1, a2, a3, a4, a5]) (pv Q1)) (hcat : Nat.ble ((st.map fun v => v.category).sum) 8 = true) (hmc : Nat.ble cs mc = true) (hms : Nat.ble sl ms = true) (kk : ∀ (μ' : Me), Q1 μ' → XX Γ nL V ad (vl ad μ') cs sl (pc + 3) L st) : XX Γ nL V ad (vl ad μ) cs sl pc L (a5 :: a4 :: a3 :: a2 :: a1 :: .ref (ad o) :: st) := by
  refine x_callVG (As := [a1, a2, a3, a4, a5]) (mc2 := 0) (ms2 := 0) F dd hL hci ho hs rfl rfl hcat hd hmc hms hM ?_
  rintro v V' ad' ν' ⟨rfl, rfl, μ', rfl, rfl, hq⟩
  exact kk μ' hq
theorem x_V5r {a1 a2 a3 a4 a5 : Value} {Q1 : Nat → Me → Prop} (F : Fx Γ cc own nL ret P d mc ms) (dd : decode cc pc = .ok (.invokevirtual idx, 3)) (hL : LkV own idx mi C 5) (hci : vwCl[ci]? = some (C, T, N)) (ho : V o) (hs : shp o = .inl ci) (hd : Nat.ble (d2 + 1) d = true) (hM : ∀ (l : Launch) (E : Ev) (A : Nat → Prop), Con l E d2 mi A V ad μ (.ref (ad o) :: [a1, a2, a3, a4, a5]) (pr Q1)) (hcat : Nat.ble ((st.map fun v => v.category).sum) 8 = true) (hmc : Nat.ble cs mc = true) (hms : Nat.ble sl ms = true) (kk : ∀ (z : Nat) (μ' : Me), Q1 z μ' → XX Γ nL V ad (vl ad μ') cs sl (pc + 3) L (.ref z :: st)) : XX Γ nL V ad (vl ad μ) cs sl pc L (a5 :: a4 :: a3 :: a2 :: a1 :: .ref (ad o) :: st) := by
  refine x_callVG (As := [a1, a2, a3, a4, a5]) (mc2 := 0) (ms2 := 0) F dd hL hci ho hs rfl rfl hcat hd hmc hms hM ?_
  rintro v V' ad' ν' ⟨rfl, rfl, μ', rfl, z, rfl, hq⟩
  exact kk z μ' hq
theorem x_V6i {a1 a2 a3 a4 a5 a6 : Value} {Q1 : Int → Me → Prop} (F : Fx Γ cc own nL ret P d mc ms) (dd : decode cc pc = .ok (.invokevirtual idx, 3)) (hL : LkV own idx mi C 6) (hci : vwCl[ci]? = some (C, T, N)) (ho : V o) (hs : shp o = .inl ci) (hd : Nat.ble (d2 + 1) d = true) (hM : ∀ (l : Launch) (E : Ev) (A : Nat → Prop), Con l E d2 mi A V ad μ (.ref (ad o) :: [a1, a2, a3, a4, a5, a6]) (pi Q1)) (hcat : Nat.ble ((st.map fun v => v.category).sum) 8 = true) (hmc : Nat.ble cs mc = true) (hms : Nat.ble sl ms = true) (kk : ∀ (z : Int) (μ' : Me), Q1 z μ' → XX Γ nL V ad (vl ad μ') cs sl (pc + 3) L (.int (I z) :: st)) : XX Γ nL V ad (vl ad μ) cs sl pc L (a6 :: a5 :: a4 :: a3 :: a2 :: a1 :: .ref (ad o) :: st) := by
  refine x_callVG (As := [a1, a2, a3, a4, a5, a6]) (mc2 := 0) (ms2 := 0) F dd hL hci ho hs rfl rfl hcat hd hmc hms hM ?_
  rintro v V' ad' ν' ⟨rfl, rfl, μ', rfl, z, rfl, hq⟩
  exact kk z μ' hq
theorem x_V6z {a1 a2 a3 a4 a5 a6 : Value} {Q1 : Bool → Me → Prop} (F : Fx Γ cc own nL ret P d mc ms) (dd : decode cc pc = .ok (.invokevirtual idx, 3)) (hL : LkV own idx mi C 6) (hci : vwCl[ci]? = some (C, T, N)) (ho : V o) (hs : shp o = .inl ci) (hd : Nat.ble (d2 + 1) d = true) (hM : ∀ (l : Launch) (E : Ev) (A : Nat → Prop), Con l E d2 mi A V ad μ (.ref (ad o) :: [a1, a2, a3, a4, a5, a6]) (pz Q1)) (hcat : Nat.ble ((st.map fun v => v.category).sum) 8 = true) (hmc : Nat.ble cs mc = true) (hms : Nat.ble sl ms = true) (kk : ∀ (z : Bool) (μ' : Me), Q1 z μ' → XX Γ nL V ad (vl ad μ') cs sl (pc + 3) L (.int (I (bI z)) :: st)) : XX Γ nL V ad (vl ad μ) cs sl pc L (a6 :: a5 :: a4 :: a3 :: a2 :: a1 :: .ref (ad o) :: st) := by
  refine x_callVG (As := [a1, a2, a3, a4, a5, a6]) (mc2 := 0) (ms2 := 0) F dd hL hci ho hs rfl rfl hcat hd hmc hms hM ?_
  rintro v V' ad' ν' ⟨rfl, rfl, μ', rfl, z, rfl, hq⟩
  exact kk z μ' hq
theorem x_V6l {a1 a2 a3 a4 a5 a6 : Value} {Q1 : Int → Me → Prop} (F : Fx Γ cc own nL ret P d mc ms) (dd : decode cc pc = .ok (.invokevirtual idx, 3)) (hL : LkV own idx mi C 6) (hci : vwCl[ci]? = some (C, T, N)) (ho : V o) (hs : shp o = .inl ci) (hd : Nat.ble (d2 + 1) d = true) (hM : ∀ (l : Launch) (E : Ev) (A : Nat → Prop), Con l E d2 mi A V ad μ (.ref (ad o) :: [a1, a2, a3, a4, a5, a6]) (pl Q1)) (hcat : Nat.ble ((st.map fun v => v.category).sum) 8 = true) (hmc : Nat.ble cs mc = true) (hms : Nat.ble sl ms = true) (kk : ∀ (z : Int) (μ' : Me), Q1 z μ' → XX Γ nL V ad (vl ad μ') cs sl (pc + 3) L (.long (J z) :: st)) : XX Γ nL V ad (vl ad μ) cs sl pc L (a6 :: a5 :: a4 :: a3 :: a2 :: a1 :: .ref (ad o) :: st) := by
  refine x_callVG (As := [a1, a2, a3, a4, a5, a6]) (mc2 := 0) (ms2 := 0) F dd hL hci ho hs rfl rfl hcat hd hmc hms hM ?_
  rintro v V' ad' ν' ⟨rfl, rfl, μ', rfl, z, rfl, hq⟩
  exact kk z μ' hq
theorem x_V6v {a1 a2 a3 a4 a5 a6 : Value} {Q1 : Me → Prop} (F : Fx Γ cc own nL ret P d mc ms) (dd : decode cc pc = .ok (.invokevirtual idx, 3)) (hL : LkV own idx mi C 6) (hci : vwCl[ci]? = some (C, T, N)) (ho : V o) (hs : shp o = .inl ci) (hd : Nat.ble (d2 + 1) d = true) (hM : ∀ (l : Launch) (E : Ev) (A : Nat → Prop), Con l E d2 mi A V ad μ (.ref (ad o) :: [a1, a2, a3, a4, a5, a6]) (pv Q1)) (hcat : Nat.ble ((st.map fun v => v.category).sum) 8 = true) (hmc : Nat.ble cs mc = true) (hms : Nat.ble sl ms = true) (kk : ∀ (μ' : Me), Q1 μ' → XX Γ nL V ad (vl ad μ') cs sl (pc + 3) L st) : XX Γ nL V ad (vl ad μ) cs sl pc L (a6 :: a5 :: a4 :: a3 :: a2 :: a1 :: .ref (ad o) :: st) := by
  refine x_callVG (As := [a1, a2, a3, a4, a5, a6]) (mc2 := 0) (ms2 := 0) F dd hL hci ho hs rfl rfl hcat hd hmc hms hM ?_
  rintro v V' ad' ν' ⟨rfl, rfl, μ', rfl, rfl, hq⟩
  exact kk μ' hq
theorem x_V6r {a1 a2 a3 a4 a5 a6 : Value} {Q1 : Nat → Me → Prop} (F : Fx Γ cc own nL ret P d mc ms) (dd : decode cc pc = .ok (.invokevirtual idx, 3)) (hL : LkV own idx mi C 6) (hci : vwCl[ci]? = some (C, T, N)) (ho : V o) (hs : shp o = .inl ci) (hd : Nat.ble (d2 + 1) d = true) (hM : ∀ (l : Launch) (E : Ev) (A : Nat → Prop), Con l E d2 mi A V ad μ (.ref (ad o) :: [a1, a2, a3, a4, a5, a6]) (pr Q1)) (hcat : Nat.ble ((st.map fun v => v.category).sum) 8 = true) (hmc : Nat.ble cs mc = true) (hms : Nat.ble sl ms = true) (kk : ∀ (z : Nat) (μ' : Me), Q1 z μ' → XX Γ nL V ad (vl ad μ') cs sl (pc + 3) L (.ref z :: st)) : XX Γ nL V ad (vl ad μ) cs sl pc L (a6 :: a5 :: a4 :: a3 :: a2 :: a1 :: .ref (ad o) :: st) := by
  refine x_callVG (As := [a1, a2, a3, a4, a5, a6]) (mc2 := 0) (ms2 := 0) F dd hL hci ho hs rfl rfl hcat hd hmc hms hM ?_
  rintro v V' ad' ν' ⟨rfl, rfl, μ', rfl, z, rfl, hq⟩
  exact kk z μ' hq
theorem x_S0i {Q1 : Int → Me → Prop} (F : Fx Γ cc own nL ret P d mc ms) (dd : decode cc pc = .ok (.invokestatic idx, 3)) (hL : LkS own idx mi 0) (hd : Nat.ble (d2 + 1) d = true) (hM : ∀ (l : Launch) (E : Ev) (A : Nat → Prop), Con l E d2 mi A V ad μ [] (pi Q1)) (hcat : Nat.ble ((st.map fun v => v.category).sum) 8 = true) (hmc : Nat.ble cs mc = true) (hms : Nat.ble sl ms = true) (kk : ∀ (z : Int) (μ' : Me), Q1 z μ' → XX Γ nL V ad (vl ad μ') cs sl (pc + 3) L (.int (I z) :: st)) : XX Γ nL V ad (vl ad μ) cs sl pc L (st) := by
  refine x_callSG (As := []) (mc2 := 0) (ms2 := 0) F dd hL rfl rfl hcat hd hmc hms hM ?_
  rintro v V' ad' ν' ⟨rfl, rfl, μ', rfl, z, rfl, hq⟩
  exact kk z μ' hq
theorem x_S0z {Q1 : Bool → Me → Prop} (F : Fx Γ cc own nL ret P d mc ms) (dd : decode cc pc = .ok (.invokestatic idx, 3)) (hL : LkS own idx mi 0) (hd : Nat.ble (d2 + 1) d = true) (hM : ∀ (l : Launch) (E : Ev) (A : Nat → Prop), Con l E d2 mi A V ad μ [] (pz Q1)) (hcat : Nat.ble ((st.map fun v => v.category).sum) 8 = true) (hmc : Nat.ble cs mc = true) (hms : Nat.ble sl ms = true) (kk : ∀ (z : Bool) (μ' : Me), Q1 z μ' → XX Γ nL V ad (vl ad μ') cs sl (pc + 3) L (.int (I (bI z)) :: st)) : XX Γ nL V ad (vl ad μ) cs sl pc L (st) := by
  refine x_callSG (As := []) (mc2 := 0) (ms2 := 0) F dd hL rfl rfl hcat hd hmc hms hM ?_
  rintro v V' ad' ν' ⟨rfl, rfl, μ', rfl, z, rfl, hq⟩
  exact kk z μ' hq
theorem x_S0l {Q1 : Int → Me → Prop} (F : Fx Γ cc own nL ret P d mc ms) (dd : decode cc pc = .ok (.invokestatic idx, 3)) (hL : LkS own idx mi 0) (hd : Nat.ble (d2 + 1) d = true) (hM : ∀ (l : Launch) (E : Ev) (A : Nat → Prop), Con l E d2 mi A V ad μ [] (pl Q1)) (hcat : Nat.ble ((st.map fun v => v.category).sum) 8 = true) (hmc : Nat.ble cs mc = true) (hms : Nat.ble sl ms = true) (kk : ∀ (z : Int) (μ' : Me), Q1 z μ' → XX Γ nL V ad (vl ad μ') cs sl (pc + 3) L (.long (J z) :: st)) : XX Γ nL V ad (vl ad μ) cs sl pc L (st) := by
  refine x_callSG (As := []) (mc2 := 0) (ms2 := 0) F dd hL rfl rfl hcat hd hmc hms hM ?_
  rintro v V' ad' ν' ⟨rfl, rfl, μ', rfl, z, rfl, hq⟩
  exact kk z μ' hq
theorem x_S0v {Q1 : Me → Prop} (F : Fx Γ cc own nL ret P d mc ms) (dd : decode cc pc = .ok (.invokestatic idx, 3)) (hL : LkS own idx mi 0) (hd : Nat.ble (d2 + 1) d = true) (hM : ∀ (l : Launch) (E : Ev) (A : Nat → Prop), Con l E d2 mi A V ad μ [] (pv Q1)) (hcat : Nat.ble ((st.map fun v => v.category).sum) 8 = true) (hmc : Nat.ble cs mc = true) (hms : Nat.ble sl ms = true) (kk : ∀ (μ' : Me), Q1 μ' → XX Γ nL V ad (vl ad μ') cs sl (pc + 3) L st) : XX Γ nL V ad (vl ad μ) cs sl pc L (st) := by
  refine x_callSG (As := []) (mc2 := 0) (ms2 := 0) F dd hL rfl rfl hcat hd hmc hms hM ?_
  rintro v V' ad' ν' ⟨rfl, rfl, μ', rfl, rfl, hq⟩
  exact kk μ' hq
theorem x_S0r {Q1 : Nat → Me → Prop} (F : Fx Γ cc own nL ret P d mc ms) (dd : decode cc pc = .ok (.invokestatic idx, 3)) (hL : LkS own idx mi 0) (hd : Nat.ble (d2 + 1) d = true) (hM : ∀ (l : Launch) (E : Ev) (A : Nat → Prop), Con l E d2 mi A V ad μ [] (pr Q1)) (hcat : Nat.ble ((st.map fun v => v.category).sum) 8 = true) (hmc : Nat.ble cs mc = true) (hms : Nat.ble sl ms = true) (kk : ∀ (z : Nat) (μ' : Me), Q1 z μ' → XX Γ nL V ad (vl ad μ') cs sl (pc + 3) L (.ref z :: st)) : XX Γ nL V ad (vl ad μ) cs sl pc L (st) := by
  refine x_callSG (As := []) (mc2 := 0) (ms2 := 0) F dd hL rfl rfl hcat hd hmc hms hM ?_
  rintro v V' ad' ν' ⟨rfl, rfl, μ', rfl, z, rfl, hq⟩
  exact kk z μ' hq
theorem x_S1i {a1 : Value} {Q1 : Int → Me → Prop} (F : Fx Γ cc own nL ret P d mc ms) (dd : decode cc pc = .ok (.invokestatic idx, 3)) (hL : LkS own idx mi 1) (hd : Nat.ble (d2 + 1) d = true) (hM : ∀ (l : Launch) (E : Ev) (A : Nat → Prop), Con l E d2 mi A V ad μ [a1] (pi Q1)) (hcat : Nat.ble ((st.map fun v => v.category).sum) 8 = true) (hmc : Nat.ble cs mc = true) (hms : Nat.ble sl ms = true) (kk : ∀ (z : Int) (μ' : Me), Q1 z μ' → XX Γ nL V ad (vl ad μ') cs sl (pc + 3) L (.int (I z) :: st)) : XX Γ nL V ad (vl ad μ) cs sl pc L (a1 :: st) := by
  refine x_callSG (As := [a1]) (mc2 := 0) (ms2 := 0) F dd hL rfl rfl hcat hd hmc hms hM ?_
  rintro v V' ad' ν' ⟨rfl, rfl, μ', rfl, z, rfl, hq⟩
  exact kk z μ' hq
theorem x_S1z {a1 : Value} {Q1 : Bool → Me → Prop} (F : Fx Γ cc own nL ret P d mc ms) (dd : decode cc pc = .ok (.invokestatic idx, 3)) (hL : LkS own idx mi 1) (hd : Nat.ble (d2 + 1) d = true) (hM : ∀ (l : Launch) (E : Ev) (A : Nat → Prop), Con l E d2 mi A V ad μ [a1] (pz Q1)) (hcat : Nat.ble ((st.map fun v => v.category).sum) 8 = true) (hmc : Nat.ble cs mc = true) (hms : Nat.ble sl ms = true) (kk : ∀ (z : Bool) (μ' : Me), Q1 z μ' → XX Γ nL V ad (vl ad μ') cs sl (pc + 3) L (.int (I (bI z)) :: st)) : XX Γ nL V ad (vl ad μ) cs sl pc L (a1 :: st) := by
  refine x_callSG (As := [a1]) (mc2 := 0) (ms2 := 0) F dd hL rfl rfl hcat hd hmc hms hM ?_
  rintro v V' ad' ν' ⟨rfl, rfl, μ', rfl, z, rfl, hq⟩
  exact kk z μ' hq
theorem x_S1l {a1 : Value} {Q1 : Int → Me → Prop} (F : Fx Γ cc own nL ret P d mc ms) (dd : decode cc pc = .ok (.invokestatic idx, 3)) (hL : LkS own idx mi 1) (hd : Nat.ble (d2 + 1) d = true) (hM : ∀ (l : Launch) (E : Ev) (A : Nat → Prop), Con l E d2 mi A V ad μ [a1] (pl Q1)) (hcat : Nat.ble ((st.map fun v => v.category).sum) 8 = true) (hmc : Nat.ble cs mc = true) (hms : Nat.ble sl ms = true) (kk : ∀ (z : Int) (μ' : Me), Q1 z μ' → XX Γ nL V ad (vl ad μ') cs sl (pc + 3) L (.long (J z) :: st)) : XX Γ nL V ad (vl ad μ) cs sl pc L (a1 :: st) := by
  refine x_callSG (As := [a1]) (mc2 := 0) (ms2 := 0) F dd hL rfl rfl hcat hd hmc hms hM ?_
  rintro v V' ad' ν' ⟨rfl, rfl, μ', rfl, z, rfl, hq⟩
  exact kk z μ' hq
theorem x_S1v {a1 : Value} {Q1 : Me → Prop} (F : Fx Γ cc own nL ret P d mc ms) (dd : decode cc pc = .ok (.invokestatic idx, 3)) (hL : LkS own idx mi 1) (hd : Nat.ble (d2 + 1) d = true) (hM : ∀ (l : Launch) (E : Ev) (A : Nat → Prop), Con l E d2 mi A V ad μ [a1] (pv Q1)) (hcat : Nat.ble ((st.map fun v => v.category).sum) 8 = true) (hmc : Nat.ble cs mc = true) (hms : Nat.ble sl ms = true) (kk : ∀ (μ' : Me), Q1 μ' → XX Γ nL V ad (vl ad μ') cs sl (pc + 3) L st) : XX Γ nL V ad (vl ad μ) cs sl pc L (a1 :: st) := by
  refine x_callSG (As := [a1]) (mc2 := 0) (ms2 := 0) F dd hL rfl rfl hcat hd hmc hms hM ?_
  rintro v V' ad' ν' ⟨rfl, rfl, μ', rfl, rfl, hq⟩
  exact kk μ' hq
theorem x_S1r {a1 : Value} {Q1 : Nat → Me → Prop} (F : Fx Γ cc own nL ret P d mc ms) (dd : decode cc pc = .ok (.invokestatic idx, 3)) (hL : LkS own idx mi 1) (hd : Nat.ble (d2 + 1) d = true) (hM : ∀ (l : Launch) (E : Ev) (A : Nat → Prop), Con l E d2 mi A V ad μ [a1] (pr Q1)) (hcat : Nat.ble ((st.map fun v => v.category).sum) 8 = true) (hmc : Nat.ble cs mc = true) (hms : Nat.ble sl ms = true) (kk : ∀ (z : Nat) (μ' : Me), Q1 z μ' → XX Γ nL V ad (vl ad μ') cs sl (pc + 3) L (.ref z :: st)) : XX Γ nL V ad (vl ad μ) cs sl pc L (a1 :: st) := by
  refine x_callSG (As := [a1]) (mc2 := 0) (ms2 := 0) F dd hL rfl rfl hcat hd hmc hms hM ?_
  rintro v V' ad' ν' ⟨rfl, rfl, μ', rfl, z, rfl, hq⟩
  exact kk z μ' hq
theorem x_S2i {a1 a2 : Value} {Q1 : Int → Me → Prop} (F : Fx Γ cc own nL ret P d mc ms) (dd : decode cc pc = .ok (.invokestatic idx, 3)) (hL : LkS own idx mi 2) (hd : Nat.ble (d2 + 1) d = true) (hM : ∀ (l : Launch) (E : Ev) (A : Nat → Prop), Con l E d2 mi A V ad μ [a1, a2] (pi Q1)) (hcat : Nat.ble ((st.map fun v => v.category).sum) 8 = true) (hmc : Nat.ble cs mc = true) (hms : Nat.ble sl ms = true) (kk : ∀ (z : Int) (μ' : Me), Q1 z μ' → XX Γ nL V ad (vl ad μ') cs sl (pc + 3) L (.int (I z) :: st)) : XX Γ nL V ad (vl ad μ) cs sl pc L (a2 :: a1 :: st) := by
  refine x_callSG (As := [a1, a2]) (mc2 := 0) (ms2 := 0) F dd hL rfl rfl hcat hd hmc hms hM ?_
  rintro v V' ad' ν' ⟨rfl, rfl, μ', rfl, z, rfl, hq⟩
  exact kk z μ' hq
theorem x_N2i {host : String} {a1 a2 : Value} {Q1 : Int → Me → Prop} (F : Fx Γ cc own nL ret P d mc ms) (dd : decode cc pc = .ok (.invokestatic idx, 3)) (hL : LkSN own idx mi host 2) (hd : Nat.ble (d2 + 1) d = true) (hM : ∀ (l : Launch) (E : Ev) (A : Nat → Prop), Con l E d2 mi A V ad μ [a1, a2] (pi Q1)) (hcat : Nat.ble ((st.map fun v => v.category).sum) 8 = true) (hmc : Nat.ble cs mc = true) (hms : Nat.ble sl ms = true) (kk : ∀ (z : Int) (μ' : Me), Q1 z μ' → XX Γ nL V ad (vl ad μ') cs sl (pc + 3) L (.int (I z) :: st)) : XX Γ nL V ad (vl ad μ) cs sl pc L (a2 :: a1 :: st) := by
  refine x_callSNG (As := [a1, a2]) (mc2 := 0) (ms2 := 0) F dd hL rfl rfl hcat hd hmc hms hM ?_
  rintro v V' ad' ν' ⟨rfl, rfl, μ', rfl, z, rfl, hq⟩
  exact kk z μ' hq
theorem x_S2z {a1 a2 : Value} {Q1 : Bool → Me → Prop} (F : Fx Γ cc own nL ret P d mc ms) (dd : decode cc pc = .ok (.invokestatic idx, 3)) (hL : LkS own idx mi 2) (hd : Nat.ble (d2 + 1) d = true) (hM : ∀ (l : Launch) (E : Ev) (A : Nat → Prop), Con l E d2 mi A V ad μ [a1, a2] (pz Q1)) (hcat : Nat.ble ((st.map fun v => v.category).sum) 8 = true) (hmc : Nat.ble cs mc = true) (hms : Nat.ble sl ms = true) (kk : ∀ (z : Bool) (μ' : Me), Q1 z μ' → XX Γ nL V ad (vl ad μ') cs sl (pc + 3) L (.int (I (bI z)) :: st)) : XX Γ nL V ad (vl ad μ) cs sl pc L (a2 :: a1 :: st) := by
  refine x_callSG (As := [a1, a2]) (mc2 := 0) (ms2 := 0) F dd hL rfl rfl hcat hd hmc hms hM ?_
  rintro v V' ad' ν' ⟨rfl, rfl, μ', rfl, z, rfl, hq⟩
  exact kk z μ' hq
theorem x_N2z {host : String} {a1 a2 : Value} {Q1 : Bool → Me → Prop} (F : Fx Γ cc own nL ret P d mc ms) (dd : decode cc pc = .ok (.invokestatic idx, 3)) (hL : LkSN own idx mi host 2) (hd : Nat.ble (d2 + 1) d = true) (hM : ∀ (l : Launch) (E : Ev) (A : Nat → Prop), Con l E d2 mi A V ad μ [a1, a2] (pz Q1)) (hcat : Nat.ble ((st.map fun v => v.category).sum) 8 = true) (hmc : Nat.ble cs mc = true) (hms : Nat.ble sl ms = true) (kk : ∀ (z : Bool) (μ' : Me), Q1 z μ' → XX Γ nL V ad (vl ad μ') cs sl (pc + 3) L (.int (I (bI z)) :: st)) : XX Γ nL V ad (vl ad μ) cs sl pc L (a2 :: a1 :: st) := by
  refine x_callSNG (As := [a1, a2]) (mc2 := 0) (ms2 := 0) F dd hL rfl rfl hcat hd hmc hms hM ?_
  rintro v V' ad' ν' ⟨rfl, rfl, μ', rfl, z, rfl, hq⟩
  exact kk z μ' hq
theorem x_S2l {a1 a2 : Value} {Q1 : Int → Me → Prop} (F : Fx Γ cc own nL ret P d mc ms) (dd : decode cc pc = .ok (.invokestatic idx, 3)) (hL : LkS own idx mi 2) (hd : Nat.ble (d2 + 1) d = true) (hM : ∀ (l : Launch) (E : Ev) (A : Nat → Prop), Con l E d2 mi A V ad μ [a1, a2] (pl Q1)) (hcat : Nat.ble ((st.map fun v => v.category).sum) 8 = true) (hmc : Nat.ble cs mc = true) (hms : Nat.ble sl ms = true) (kk : ∀ (z : Int) (μ' : Me), Q1 z μ' → XX Γ nL V ad (vl ad μ') cs sl (pc + 3) L (.long (J z) :: st)) : XX Γ nL V ad (vl ad μ) cs sl pc L (a2 :: a1 :: st) := by
  refine x_callSG (As := [a1, a2]) (mc2 := 0) (ms2 := 0) F dd hL rfl rfl hcat hd hmc hms hM ?_
  rintro v V' ad' ν' ⟨rfl, rfl, μ', rfl, z, rfl, hq⟩
  exact kk z μ' hq
theorem x_N2l {host : String} {a1 a2 : Value} {Q1 : Int → Me → Prop} (F : Fx Γ cc own nL ret P d mc ms) (dd : decode cc pc = .ok (.invokestatic idx, 3)) (hL : LkSN own idx mi host 2) (hd : Nat.ble (d2 + 1) d = true) (hM : ∀ (l : Launch) (E : Ev) (A : Nat → Prop), Con l E d2 mi A V ad μ [a1, a2] (pl Q1)) (hcat : Nat.ble ((st.map fun v => v.category).sum) 8 = true) (hmc : Nat.ble cs mc = true) (hms : Nat.ble sl ms = true) (kk : ∀ (z : Int) (μ' : Me), Q1 z μ' → XX Γ nL V ad (vl ad μ') cs sl (pc + 3) L (.long (J z) :: st)) : XX Γ nL V ad (vl ad μ) cs sl pc L (a2 :: a1 :: st) := by
  refine x_callSNG (As := [a1, a2]) (mc2 := 0) (ms2 := 0) F dd hL rfl rfl hcat hd hmc hms hM ?_
  rintro v V' ad' ν' ⟨rfl, rfl, μ', rfl, z, rfl, hq⟩
  exact kk z μ' hq
theorem x_S2v {a1 a2 : Value} {Q1 : Me → Prop} (F : Fx Γ cc own nL ret P d mc ms) (dd : decode cc pc = .ok (.invokestatic idx, 3)) (hL : LkS own idx mi 2) (hd : Nat.ble (d2 + 1) d = true) (hM : ∀ (l : Launch) (E : Ev) (A : Nat → Prop), Con l E d2 mi A V ad μ [a1, a2] (pv Q1)) (hcat : Nat.ble ((st.map fun v => v.category).sum) 8 = true) (hmc : Nat.ble cs mc = true) (hms : Nat.ble sl ms = true) (kk : ∀ (μ' : Me), Q1 μ' → XX Γ nL V ad (vl ad μ') cs sl (pc + 3) L st) : XX Γ nL V ad (vl ad μ) cs sl pc L (a2 :: a1 :: st) := by
  refine x_callSG (As := [a1, a2]) (mc2 := 0) (ms2 := 0) F dd hL rfl rfl hcat hd hmc hms hM ?_
  rintro v V' ad' ν' ⟨rfl, rfl, μ', rfl, rfl, hq⟩
  exact kk μ' hq
theorem x_N2v {host : String} {a1 a2 : Value} {Q1 : Me → Prop} (F : Fx Γ cc own nL ret P d mc ms) (dd : decode cc pc = .ok (.invokestatic idx, 3)) (hL : LkSN own idx mi host 2) (hd : Nat.ble (d2 + 1) d = true) (hM : ∀ (l : Launch) (E : Ev) (A : Nat → Prop), Con l E d2 mi A V ad μ [a1, a2] (pv Q1)) (hcat : Nat.ble ((st.map fun v => v.category).sum) 8 = true) (hmc : Nat.ble cs mc = true) (hms : Nat.ble sl ms = true) (kk : ∀ (μ' : Me), Q1 μ' → XX Γ nL V ad (vl ad μ') cs sl (pc + 3) L st) : XX Γ nL V ad (vl ad μ) cs sl pc L (a2 :: a1 :: st) := by
  refine x_callSNG (As := [a1, a2]) (mc2 := 0) (ms2 := 0) F dd hL rfl rfl hcat hd hmc hms hM ?_
  rintro v V' ad' ν' ⟨rfl, rfl, μ', rfl, rfl, hq⟩
  exact kk μ' hq
theorem x_S2r {a1 a2 : Value} {Q1 : Nat → Me → Prop} (F : Fx Γ cc own nL ret P d mc ms) (dd : decode cc pc = .ok (.invokestatic idx, 3)) (hL : LkS own idx mi 2) (hd : Nat.ble (d2 + 1) d = true) (hM : ∀ (l : Launch) (E : Ev) (A : Nat → Prop), Con l E d2 mi A V ad μ [a1, a2] (pr Q1)) (hcat : Nat.ble ((st.map fun v => v.category).sum) 8 = true) (hmc : Nat.ble cs mc = true) (hms : Nat.ble sl ms = true) (kk : ∀ (z : Nat) (μ' : Me), Q1 z μ' → XX Γ nL V ad (vl ad μ') cs sl (pc + 3) L (.ref z :: st)) : XX Γ nL V ad (vl ad μ) cs sl pc L (a2 :: a1 :: st) := by
  refine x_callSG (As := [a1, a2]) (mc2 := 0) (ms2 := 0) F dd hL rfl rfl hcat hd hmc hms hM ?_
  rintro v V' ad' ν' ⟨rfl, rfl, μ', rfl, z, rfl, hq⟩
  exact kk z μ' hq
theorem x_N2r {host : String} {a1 a2 : Value} {Q1 : Nat → Me → Prop} (F : Fx Γ cc own nL ret P d mc ms) (dd : decode cc pc = .ok (.invokestatic idx, 3)) (hL : LkSN own idx mi host 2) (hd : Nat.ble (d2 + 1) d = true) (hM : ∀ (l : Launch) (E : Ev) (A : Nat → Prop), Con l E d2 mi A V ad μ [a1, a2] (pr Q1)) (hcat : Nat.ble ((st.map fun v => v.category).sum) 8 = true) (hmc : Nat.ble cs mc = true) (hms : Nat.ble sl ms = true) (kk : ∀ (z : Nat) (μ' : Me), Q1 z μ' → XX Γ nL V ad (vl ad μ') cs sl (pc + 3) L (.ref z :: st)) : XX Γ nL V ad (vl ad μ) cs sl pc L (a2 :: a1 :: st) := by
  refine x_callSNG (As := [a1, a2]) (mc2 := 0) (ms2 := 0) F dd hL rfl rfl hcat hd hmc hms hM ?_
  rintro v V' ad' ν' ⟨rfl, rfl, μ', rfl, z, rfl, hq⟩
  exact kk z μ' hq
theorem x_S3i {a1 a2 a3 : Value} {Q1 : Int → Me → Prop} (F : Fx Γ cc own nL ret P d mc ms) (dd : decode cc pc = .ok (.invokestatic idx, 3)) (hL : LkS own idx mi 3) (hd : Nat.ble (d2 + 1) d = true) (hM : ∀ (l : Launch) (E : Ev) (A : Nat → Prop), Con l E d2 mi A V ad μ [a1, a2, a3] (pi Q1)) (hcat : Nat.ble ((st.map fun v => v.category).sum) 8 = true) (hmc : Nat.ble cs mc = true) (hms : Nat.ble sl ms = true) (kk : ∀ (z : Int) (μ' : Me), Q1 z μ' → XX Γ nL V ad (vl ad μ') cs sl (pc + 3) L (.int (I z) :: st)) : XX Γ nL V ad (vl ad μ) cs sl pc L (a3 :: a2 :: a1 :: st) := by
  refine x_callSG (As := [a1, a2, a3]) (mc2 := 0) (ms2 := 0) F dd hL rfl rfl hcat hd hmc hms hM ?_
  rintro v V' ad' ν' ⟨rfl, rfl, μ', rfl, z, rfl, hq⟩
  exact kk z μ' hq
theorem x_S3z {a1 a2 a3 : Value} {Q1 : Bool → Me → Prop} (F : Fx Γ cc own nL ret P d mc ms) (dd : decode cc pc = .ok (.invokestatic idx, 3)) (hL : LkS own idx mi 3) (hd : Nat.ble (d2 + 1) d = true) (hM : ∀ (l : Launch) (E : Ev) (A : Nat → Prop), Con l E d2 mi A V ad μ [a1, a2, a3] (pz Q1)) (hcat : Nat.ble ((st.map fun v => v.category).sum) 8 = true) (hmc : Nat.ble cs mc = true) (hms : Nat.ble sl ms = true) (kk : ∀ (z : Bool) (μ' : Me), Q1 z μ' → XX Γ nL V ad (vl ad μ') cs sl (pc + 3) L (.int (I (bI z)) :: st)) : XX Γ nL V ad (vl ad μ) cs sl pc L (a3 :: a2 :: a1 :: st) := by
  refine x_callSG (As := [a1, a2, a3]) (mc2 := 0) (ms2 := 0) F dd hL rfl rfl hcat hd hmc hms hM ?_
  rintro v V' ad' ν' ⟨rfl, rfl, μ', rfl, z, rfl, hq⟩
  exact kk z μ' hq
theorem x_S3l {a1 a2 a3 : Value} {Q1 : Int → Me → Prop} (F : Fx Γ cc own nL ret P d mc ms) (dd : decode cc pc = .ok (.invokestatic idx, 3)) (hL : LkS own idx mi 3) (hd : Nat.ble (d2 + 1) d = true) (hM : ∀ (l : Launch) (E : Ev) (A : Nat → Prop), Con l E d2 mi A V ad μ [a1, a2, a3] (pl Q1)) (hcat : Nat.ble ((st.map fun v => v.category).sum) 8 = true) (hmc : Nat.ble cs mc = true) (hms : Nat.ble sl ms = true) (kk : ∀ (z : Int) (μ' : Me), Q1 z μ' → XX Γ nL V ad (vl ad μ') cs sl (pc + 3) L (.long (J z) :: st)) : XX Γ nL V ad (vl ad μ) cs sl pc L (a3 :: a2 :: a1 :: st) := by
  refine x_callSG (As := [a1, a2, a3]) (mc2 := 0) (ms2 := 0) F dd hL rfl rfl hcat hd hmc hms hM ?_
  rintro v V' ad' ν' ⟨rfl, rfl, μ', rfl, z, rfl, hq⟩
  exact kk z μ' hq
theorem x_S3v {a1 a2 a3 : Value} {Q1 : Me → Prop} (F : Fx Γ cc own nL ret P d mc ms) (dd : decode cc pc = .ok (.invokestatic idx, 3)) (hL : LkS own idx mi 3) (hd : Nat.ble (d2 + 1) d = true) (hM : ∀ (l : Launch) (E : Ev) (A : Nat → Prop), Con l E d2 mi A V ad μ [a1, a2, a3] (pv Q1)) (hcat : Nat.ble ((st.map fun v => v.category).sum) 8 = true) (hmc : Nat.ble cs mc = true) (hms : Nat.ble sl ms = true) (kk : ∀ (μ' : Me), Q1 μ' → XX Γ nL V ad (vl ad μ') cs sl (pc + 3) L st) : XX Γ nL V ad (vl ad μ) cs sl pc L (a3 :: a2 :: a1 :: st) := by
  refine x_callSG (As := [a1, a2, a3]) (mc2 := 0) (ms2 := 0) F dd hL rfl rfl hcat hd hmc hms hM ?_
  rintro v V' ad' ν' ⟨rfl, rfl, μ', rfl, rfl, hq⟩
  exact kk μ' hq
theorem x_S3r {a1 a2 a3 : Value} {Q1 : Nat → Me → Prop} (F : Fx Γ cc own nL ret P d mc ms) (dd : decode cc pc = .ok (.invokestatic idx, 3)) (hL : LkS own idx mi 3) (hd : Nat.ble (d2 + 1) d = true) (hM : ∀ (l : Launch) (E : Ev) (A : Nat → Prop), Con l E d2 mi A V ad μ [a1, a2, a3] (pr Q1)) (hcat : Nat.ble ((st.map fun v => v.category).sum) 8 = true) (hmc : Nat.ble cs mc = true) (hms : Nat.ble sl ms = true) (kk : ∀ (z : Nat) (μ' : Me), Q1 z μ' → XX Γ nL V ad (vl ad μ') cs sl (pc + 3) L (.ref z :: st)) : XX Γ nL V ad (vl ad μ) cs sl pc L (a3 :: a2 :: a1 :: st) := by
  refine x_callSG (As := [a1, a2, a3]) (mc2 := 0) (ms2 := 0) F dd hL rfl rfl hcat hd hmc hms hM ?_
  rintro v V' ad' ν' ⟨rfl, rfl, μ', rfl, z, rfl, hq⟩
  exact kk z μ' hq
theorem x_S4i {a1 a2 a3 a4 : Value} {Q1 : Int → Me → Prop} (F : Fx Γ cc own nL ret P d mc ms) (dd : decode cc pc = .ok (.invokestatic idx, 3)) (hL : LkS own idx mi 4) (hd : Nat.ble (d2 + 1) d = true) (hM : ∀ (l : Launch) (E : Ev) (A : Nat → Prop), Con l E d2 mi A V ad μ [a1, a2, a3, a4] (pi Q1)) (hcat : Nat.ble ((st.map fun v => v.category).sum) 8 = true) (hmc : Nat.ble cs mc = true) (hms : Nat.ble sl ms = true) (kk : ∀ (z : Int) (μ' : Me), Q1 z μ' → XX Γ nL V ad (vl ad μ') cs sl (pc + 3) L (.int (I z) :: st)) : XX Γ nL V ad (vl ad μ) cs sl pc L (a4 :: a3 :: a2 :: a1 :: st) := by
  refine x_callSG (As := [a1, a2, a3, a4]) (mc2 := 0) (ms2 := 0) F dd hL rfl rfl hcat hd hmc hms hM ?_
  rintro v V' ad' ν' ⟨rfl, rfl, μ', rfl, z, rfl, hq⟩
  exact kk z μ' hq
theorem x_S4z {a1 a2 a3 a4 : Value} {Q1 : Bool → Me → Prop} (F : Fx Γ cc own nL ret P d mc ms) (dd : decode cc pc = .ok (.invokestatic idx, 3)) (hL : LkS own idx mi 4) (hd : Nat.ble (d2 + 1) d = true) (hM : ∀ (l : Launch) (E : Ev) (A : Nat → Prop), Con l E d2 mi A V ad μ [a1, a2, a3, a4] (pz Q1)) (hcat : Nat.ble ((st.map fun v => v.category).sum) 8 = true) (hmc : Nat.ble cs mc = true) (hms : Nat.ble sl ms = true) (kk : ∀ (z : Bool) (μ' : Me), Q1 z μ' → XX Γ nL V ad (vl ad μ') cs sl (pc + 3) L (.int (I (bI z)) :: st)) : XX Γ nL V ad (vl ad μ) cs sl pc L (a4 :: a3 :: a2 :: a1 :: st) := by
  refine x_callSG (As := [a1, a2, a3, a4]) (mc2 := 0) (ms2 := 0) F dd hL rfl rfl hcat hd hmc hms hM ?_
  rintro v V' ad' ν' ⟨rfl, rfl, μ', rfl, z, rfl, hq⟩
  exact kk z μ' hq
theorem x_S4l {a1 a2 a3 a4 : Value} {Q1 : Int → Me → Prop} (F : Fx Γ cc own nL ret P d mc ms) (dd : decode cc pc = .ok (.invokestatic idx, 3)) (hL : LkS own idx mi 4) (hd : Nat.ble (d2 + 1) d = true) (hM : ∀ (l : Launch) (E : Ev) (A : Nat → Prop), Con l E d2 mi A V ad μ [a1, a2, a3, a4] (pl Q1)) (hcat : Nat.ble ((st.map fun v => v.category).sum) 8 = true) (hmc : Nat.ble cs mc = true) (hms : Nat.ble sl ms = true) (kk : ∀ (z : Int) (μ' : Me), Q1 z μ' → XX Γ nL V ad (vl ad μ') cs sl (pc + 3) L (.long (J z) :: st)) : XX Γ nL V ad (vl ad μ) cs sl pc L (a4 :: a3 :: a2 :: a1 :: st) := by
  refine x_callSG (As := [a1, a2, a3, a4]) (mc2 := 0) (ms2 := 0) F dd hL rfl rfl hcat hd hmc hms hM ?_
  rintro v V' ad' ν' ⟨rfl, rfl, μ', rfl, z, rfl, hq⟩
  exact kk z μ' hq
theorem x_S4v {a1 a2 a3 a4 : Value} {Q1 : Me → Prop} (F : Fx Γ cc own nL ret P d mc ms) (dd : decode cc pc = .ok (.invokestatic idx, 3)) (hL : LkS own idx mi 4) (hd : Nat.ble (d2 + 1) d = true) (hM : ∀ (l : Launch) (E : Ev) (A : Nat → Prop), Con l E d2 mi A V ad μ [a1, a2, a3, a4] (pv Q1)) (hcat : Nat.ble ((st.map fun v => v.category).sum) 8 = true) (hmc : Nat.ble cs mc = true) (hms : Nat.ble sl ms = true) (kk : ∀ (μ' : Me), Q1 μ' → XX Γ nL V ad (vl ad μ') cs sl (pc + 3) L st) : XX Γ nL V ad (vl ad μ) cs sl pc L (a4 :: a3 :: a2 :: a1 :: st) := by
  refine x_callSG (As := [a1, a2, a3, a4]) (mc2 := 0) (ms2 := 0) F dd hL rfl rfl hcat hd hmc hms hM ?_
  rintro v V' ad' ν' ⟨rfl, rfl, μ', rfl, rfl, hq⟩
  exact kk μ' hq
theorem x_S4r {a1 a2 a3 a4 : Value} {Q1 : Nat → Me → Prop} (F : Fx Γ cc own nL ret P d mc ms) (dd : decode cc pc = .ok (.invokestatic idx, 3)) (hL : LkS own idx mi 4) (hd : Nat.ble (d2 + 1) d = true) (hM : ∀ (l : Launch) (E : Ev) (A : Nat → Prop), Con l E d2 mi A V ad μ [a1, a2, a3, a4] (pr Q1)) (hcat : Nat.ble ((st.map fun v => v.category).sum) 8 = true) (hmc : Nat.ble cs mc = true) (hms : Nat.ble sl ms = true) (kk : ∀ (z : Nat) (μ' : Me), Q1 z μ' → XX Γ nL V ad (vl ad μ') cs sl (pc + 3) L (.ref z :: st)) : XX Γ nL V ad (vl ad μ) cs sl pc L (a4 :: a3 :: a2 :: a1 :: st) := by
  refine x_callSG (As := [a1, a2, a3, a4]) (mc2 := 0) (ms2 := 0) F dd hL rfl rfl hcat hd hmc hms hM ?_
  rintro v V' ad' ν' ⟨rfl, rfl, μ', rfl, z, rfl, hq⟩
  exact kk z μ' hq
theorem x_S5i {a1 a2 a3 a4 a5 : Value} {Q1 : Int → Me → Prop} (F : Fx Γ cc own nL ret P d mc ms) (dd : decode cc pc = .ok (.invokestatic idx, 3)) (hL : LkS own idx mi 5) (hd : Nat.ble (d2 + 1) d = true) (hM : ∀ (l : Launch) (E : Ev) (A : Nat → Prop), Con l E d2 mi A V ad μ [a1, a2, a3, a4, a5] (pi Q1)) (hcat : Nat.ble ((st.map fun v => v.category).sum) 8 = true) (hmc : Nat.ble cs mc = true) (hms : Nat.ble sl ms = true) (kk : ∀ (z : Int) (μ' : Me), Q1 z μ' → XX Γ nL V ad (vl ad μ') cs sl (pc + 3) L (.int (I z) :: st)) : XX Γ nL V ad (vl ad μ) cs sl pc L (a5 :: a4 :: a3 :: a2 :: a1 :: st) := by
  refine x_callSG (As := [a1, a2, a3, a4, a5]) (mc2 := 0) (ms2 := 0) F dd hL rfl rfl hcat hd hmc hms hM ?_
  rintro v V' ad' ν' ⟨rfl, rfl, μ', rfl, z, rfl, hq⟩
  exact kk z μ' hq
theorem x_S5z {a1 a2 a3 a4 a5 : Value} {Q1 : Bool → Me → Prop} (F : Fx Γ cc own nL ret P d mc ms) (dd : decode cc pc = .ok (.invokestatic idx, 3)) (hL : LkS own idx mi 5) (hd : Nat.ble (d2 + 1) d = true) (hM : ∀ (l : Launch) (E : Ev) (A : Nat → Prop), Con l E d2 mi A V ad μ [a1, a2, a3, a4, a5] (pz Q1)) (hcat : Nat.ble ((st.map fun v => v.category).sum) 8 = true) (hmc : Nat.ble cs mc = true) (hms : Nat.ble sl ms = true) (kk : ∀ (z : Bool) (μ' : Me), Q1 z μ' → XX Γ nL V ad (vl ad μ') cs sl (pc + 3) L (.int (I (bI z)) :: st)) : XX Γ nL V ad (vl ad μ) cs sl pc L (a5 :: a4 :: a3 :: a2 :: a1 :: st) := by
  refine x_callSG (As := [a1, a2, a3, a4, a5]) (mc2 := 0) (ms2 := 0) F dd hL rfl rfl hcat hd hmc hms hM ?_
  rintro v V' ad' ν' ⟨rfl, rfl, μ', rfl, z, rfl, hq⟩
  exact kk z μ' hq
theorem x_S5l {a1 a2 a3 a4 a5 : Value} {Q1 : Int → Me → Prop} (F : Fx Γ cc own nL ret P d mc ms) (dd : decode cc pc = .ok (.invokestatic idx, 3)) (hL : LkS own idx mi 5) (hd : Nat.ble (d2 + 1) d = true) (hM : ∀ (l : Launch) (E : Ev) (A : Nat → Prop), Con l E d2 mi A V ad μ [a1, a2, a3, a4, a5] (pl Q1)) (hcat : Nat.ble ((st.map fun v => v.category).sum) 8 = true) (hmc : Nat.ble cs mc = true) (hms : Nat.ble sl ms = true) (kk : ∀ (z : Int) (μ' : Me), Q1 z μ' → XX Γ nL V ad (vl ad μ') cs sl (pc + 3) L (.long (J z) :: st)) : XX Γ nL V ad (vl ad μ) cs sl pc L (a5 :: a4 :: a3 :: a2 :: a1 :: st) := by
  refine x_callSG (As := [a1, a2, a3, a4, a5]) (mc2 := 0) (ms2 := 0) F dd hL rfl rfl hcat hd hmc hms hM ?_
  rintro v V' ad' ν' ⟨rfl, rfl, μ', rfl, z, rfl, hq⟩
  exact kk z μ' hq
theorem x_S5v {a1 a2 a3 a4 a5 : Value} {Q1 : Me → Prop} (F : Fx Γ cc own nL ret P d mc ms) (dd : decode cc pc = .ok (.invokestatic idx, 3)) (hL : LkS own idx mi 5) (hd : Nat.ble (d2 + 1) d = true) (hM : ∀ (l : Launch) (E : Ev) (A : Nat → Prop), Con l E d2 mi A V ad μ [a1, a2, a3, a4, a5] (pv Q1)) (hcat : Nat.ble ((st.map fun v => v.category).sum) 8 = true) (hmc : Nat.ble cs mc = true) (hms : Nat.ble sl ms = true) (kk : ∀ (μ' : Me), Q1 μ' → XX Γ nL V ad (vl ad μ') cs sl (pc + 3) L st) : XX Γ nL V ad (vl ad μ) cs sl pc L (a5 :: a4 :: a3 :: a2 :: a1 :: st) := by
  refine x_callSG (As := [a1, a2, a3, a4, a5]) (mc2 := 0) (ms2 := 0) F dd hL rfl rfl hcat hd hmc hms hM ?_
  rintro v V' ad' ν' ⟨rfl, rfl, μ', rfl, rfl, hq⟩
  exact kk μ' hq
theorem x_S5r {a1 a2 a3 a4 a5 : Value} {Q1 : Nat → Me → Prop} (F : Fx Γ cc own nL ret P d mc ms) (dd : decode cc pc = .ok (.invokestatic idx, 3)) (hL : LkS own idx mi 5) (hd : Nat.ble (d2 + 1) d = true) (hM : ∀ (l : Launch) (E : Ev) (A : Nat → Prop), Con l E d2 mi A V ad μ [a1, a2, a3, a4, a5] (pr Q1)) (hcat : Nat.ble ((st.map fun v => v.category).sum) 8 = true) (hmc : Nat.ble cs mc = true) (hms : Nat.ble sl ms = true) (kk : ∀ (z : Nat) (μ' : Me), Q1 z μ' → XX Γ nL V ad (vl ad μ') cs sl (pc + 3) L (.ref z :: st)) : XX Γ nL V ad (vl ad μ) cs sl pc L (a5 :: a4 :: a3 :: a2 :: a1 :: st) := by
  refine x_callSG (As := [a1, a2, a3, a4, a5]) (mc2 := 0) (ms2 := 0) F dd hL rfl rfl hcat hd hmc hms hM ?_
  rintro v V' ad' ν' ⟨rfl, rfl, μ', rfl, z, rfl, hq⟩
  exact kk z μ' hq
theorem x_S6i {a1 a2 a3 a4 a5 a6 : Value} {Q1 : Int → Me → Prop} (F : Fx Γ cc own nL ret P d mc ms) (dd : decode cc pc = .ok (.invokestatic idx, 3)) (hL : LkS own idx mi 6) (hd : Nat.ble (d2 + 1) d = true) (hM : ∀ (l : Launch) (E : Ev) (A : Nat → Prop), Con l E d2 mi A V ad μ [a1, a2, a3, a4, a5, a6] (pi Q1)) (hcat : Nat.ble ((st.map fun v => v.category).sum) 8 = true) (hmc : Nat.ble cs mc = true) (hms : Nat.ble sl ms = true) (kk : ∀ (z : Int) (μ' : Me), Q1 z μ' → XX Γ nL V ad (vl ad μ') cs sl (pc + 3) L (.int (I z) :: st)) : XX Γ nL V ad (vl ad μ) cs sl pc L (a6 :: a5 :: a4 :: a3 :: a2 :: a1 :: st) := by
  refine x_callSG (As := [a1, a2, a3, a4, a5, a6]) (mc2 := 0) (ms2 := 0) F dd hL rfl rfl hcat hd hmc hms hM ?_
  rintro v V' ad' ν' ⟨rfl, rfl, μ', rfl, z, rfl, hq⟩
  exact kk z μ' hq
theorem x_S6z {a1 a2 a3 a4 a5 a6 : Value} {Q1 : Bool → Me → Prop} (F : Fx Γ cc own nL ret P d mc ms) (dd : decode cc pc = .ok (.invokestatic idx, 3)) (hL : LkS own idx mi 6) (hd : Nat.ble (d2 + 1) d = true) (hM : ∀ (l : Launch) (E : Ev) (A : Nat → Prop), Con l E d2 mi A V ad μ [a1, a2, a3, a4, a5, a6] (pz Q1)) (hcat : Nat.ble ((st.map fun v => v.category).sum) 8 = true) (hmc : Nat.ble cs mc = true) (hms : Nat.ble sl ms = true) (kk : ∀ (z : Bool) (μ' : Me), Q1 z μ' → XX Γ nL V ad (vl ad μ') cs sl (pc + 3) L (.int (I (bI z)) :: st)) : XX Γ nL V ad (vl ad μ) cs sl pc L (a6 :: a5 :: a4 :: a3 :: a2 :: a1 :: st) := by
  refine x_callSG (As := [a1, a2, a3, a4, a5, a6]) (mc2 := 0) (ms2 := 0) F dd hL rfl rfl hcat hd hmc hms hM ?_
  rintro v V' ad' ν' ⟨rfl, rfl, μ', rfl, z, rfl, hq⟩
  exact kk z μ' hq
theorem x_S6l {a1 a2 a3 a4 a5 a6 : Value} {Q1 : Int → Me → Prop} (F : Fx Γ cc own nL ret P d mc ms) (dd : decode cc pc = .ok (.invokestatic idx, 3)) (hL : LkS own idx mi 6) (hd : Nat.ble (d2 + 1) d = true) (hM : ∀ (l : Launch) (E : Ev) (A : Nat → Prop), Con l E d2 mi A V ad μ [a1, a2, a3, a4, a5, a6] (pl Q1)) (hcat : Nat.ble ((st.map fun v => v.category).sum) 8 = true) (hmc : Nat.ble cs mc = true) (hms : Nat.ble sl ms = true) (kk : ∀ (z : Int) (μ' : Me), Q1 z μ' → XX Γ nL V ad (vl ad μ') cs sl (pc + 3) L (.long (J z) :: st)) : XX Γ nL V ad (vl ad μ) cs sl pc L (a6 :: a5 :: a4 :: a3 :: a2 :: a1 :: st) := by
  refine x_callSG (As := [a1, a2, a3, a4, a5, a6]) (mc2 := 0) (ms2 := 0) F dd hL rfl rfl hcat hd hmc hms hM ?_
  rintro v V' ad' ν' ⟨rfl, rfl, μ', rfl, z, rfl, hq⟩
  exact kk z μ' hq
theorem x_S6v {a1 a2 a3 a4 a5 a6 : Value} {Q1 : Me → Prop} (F : Fx Γ cc own nL ret P d mc ms) (dd : decode cc pc = .ok (.invokestatic idx, 3)) (hL : LkS own idx mi 6) (hd : Nat.ble (d2 + 1) d = true) (hM : ∀ (l : Launch) (E : Ev) (A : Nat → Prop), Con l E d2 mi A V ad μ [a1, a2, a3, a4, a5, a6] (pv Q1)) (hcat : Nat.ble ((st.map fun v => v.category).sum) 8 = true) (hmc : Nat.ble cs mc = true) (hms : Nat.ble sl ms = true) (kk : ∀ (μ' : Me), Q1 μ' → XX Γ nL V ad (vl ad μ') cs sl (pc + 3) L st) : XX Γ nL V ad (vl ad μ) cs sl pc L (a6 :: a5 :: a4 :: a3 :: a2 :: a1 :: st) := by
  refine x_callSG (As := [a1, a2, a3, a4, a5, a6]) (mc2 := 0) (ms2 := 0) F dd hL rfl rfl hcat hd hmc hms hM ?_
  rintro v V' ad' ν' ⟨rfl, rfl, μ', rfl, rfl, hq⟩
  exact kk μ' hq
theorem x_S6r {a1 a2 a3 a4 a5 a6 : Value} {Q1 : Nat → Me → Prop} (F : Fx Γ cc own nL ret P d mc ms) (dd : decode cc pc = .ok (.invokestatic idx, 3)) (hL : LkS own idx mi 6) (hd : Nat.ble (d2 + 1) d = true) (hM : ∀ (l : Launch) (E : Ev) (A : Nat → Prop), Con l E d2 mi A V ad μ [a1, a2, a3, a4, a5, a6] (pr Q1)) (hcat : Nat.ble ((st.map fun v => v.category).sum) 8 = true) (hmc : Nat.ble cs mc = true) (hms : Nat.ble sl ms = true) (kk : ∀ (z : Nat) (μ' : Me), Q1 z μ' → XX Γ nL V ad (vl ad μ') cs sl (pc + 3) L (.ref z :: st)) : XX Γ nL V ad (vl ad μ) cs sl pc L (a6 :: a5 :: a4 :: a3 :: a2 :: a1 :: st) := by
  refine x_callSG (As := [a1, a2, a3, a4, a5, a6]) (mc2 := 0) (ms2 := 0) F dd hL rfl rfl hcat hd hmc hms hM ?_
  rintro v V' ad' ν' ⟨rfl, rfl, μ', rfl, z, rfl, hq⟩
  exact kk z μ' hq
end CALLX
end
