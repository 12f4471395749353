section
-- ===== PART A: goes FIRST, ahead of the names: the tables' words, and 'selects' of the private methods out of them =====
/-- a private method of a class that the tables say can be made, by its rows of tables_1 -/
def lw_okq (q : MethodName × Nat) : Prop := (q.1.cls ≠ "java/lang/invoke/MethodHandle" ∧ q.1.cls ≠ "java/lang/invoke/VarHandle") ∧ Cond.instantiable q.1.cls q.2 ∈ tables_1 ∧ Cond.privateMethod q.1 ∈ tables_1 ∧ Cond.instanceMethod q.1 ∈ tables_1
theorem lw_p0 : lw_okq (⟨"GatesBent", "isComer", "(I)Z"⟩, 14) := ⟨⟨by decide +kernel, by decide +kernel⟩, List.mem_of_getElem? (i := 18) (by decide +kernel), List.mem_of_getElem? (i := 295) (by decide +kernel), List.mem_of_getElem? (i := 296) (by decide +kernel)⟩
theorem lw_p1 : lw_okq (⟨"GatesBent$Town", "likeBySum", "(LGatesBent$Comer;II)I"⟩, 8) := ⟨⟨by decide +kernel, by decide +kernel⟩, List.mem_of_getElem? (i := 148) (by decide +kernel), List.mem_of_getElem? (i := 317) (by decide +kernel), List.mem_of_getElem? (i := 318) (by decide +kernel)⟩
theorem lw_p2 : lw_okq (⟨"GatesBent", "nearest", "(LGatesBent$Comer;I)I"⟩, 14) := ⟨⟨by decide +kernel, by decide +kernel⟩, List.mem_of_getElem? (i := 18) (by decide +kernel), List.mem_of_getElem? (i := 337) (by decide +kernel), List.mem_of_getElem? (i := 338) (by decide +kernel)⟩
theorem lw_p3 : lw_okq (⟨"GatesBent", "daysUntilOut", "(I)I"⟩, 14) := ⟨⟨by decide +kernel, by decide +kernel⟩, List.mem_of_getElem? (i := 18) (by decide +kernel), List.mem_of_getElem? (i := 346) (by decide +kernel), List.mem_of_getElem? (i := 347) (by decide +kernel)⟩
theorem lw_p4 : lw_okq (⟨"GatesBent$Gate", "leastAlike", "(I)I"⟩, 2) := ⟨⟨by decide +kernel, by decide +kernel⟩, List.mem_of_getElem? (i := 53) (by decide +kernel), List.mem_of_getElem? (i := 392) (by decide +kernel), List.mem_of_getElem? (i := 393) (by decide +kernel)⟩
theorem lw_p5 : lw_okq (⟨"GatesBent$Reader", "readClause", "()Z"⟩, 4) := ⟨⟨by decide +kernel, by decide +kernel⟩, List.mem_of_getElem? (i := 26) (by decide +kernel), List.mem_of_getElem? (i := 420) (by decide +kernel), List.mem_of_getElem? (i := 421) (by decide +kernel)⟩
theorem lw_p6 : lw_okq (⟨"GatesBent$Reader", "readWord", "()I"⟩, 4) := ⟨⟨by decide +kernel, by decide +kernel⟩, List.mem_of_getElem? (i := 26) (by decide +kernel), List.mem_of_getElem? (i := 424) (by decide +kernel), List.mem_of_getElem? (i := 425) (by decide +kernel)⟩
theorem lw_p7 : lw_okq (⟨"GatesBent$Reader", "sameSigns", "(Ljava/lang/String;)I"⟩, 4) := ⟨⟨by decide +kernel, by decide +kernel⟩, List.mem_of_getElem? (i := 26) (by decide +kernel), List.mem_of_getElem? (i := 435) (by decide +kernel), List.mem_of_getElem? (i := 436) (by decide +kernel)⟩
theorem lw_p8 : lw_okq (⟨"GatesBent$Reader", "readSign", "(I)Z"⟩, 4) := ⟨⟨by decide +kernel, by decide +kernel⟩, List.mem_of_getElem? (i := 26) (by decide +kernel), List.mem_of_getElem? (i := 490) (by decide +kernel), List.mem_of_getElem? (i := 491) (by decide +kernel)⟩
theorem lw_p9 : lw_okq (⟨"GatesBent$Reader", "signAt", "()I"⟩, 4) := ⟨⟨by decide +kernel, by decide +kernel⟩, List.mem_of_getElem? (i := 26) (by decide +kernel), List.mem_of_getElem? (i := 494) (by decide +kernel), List.mem_of_getElem? (i := 495) (by decide +kernel)⟩
theorem lw_p10 : lw_okq (⟨"GatesBent$Reader", "readNumber", "()I"⟩, 4) := ⟨⟨by decide +kernel, by decide +kernel⟩, List.mem_of_getElem? (i := 26) (by decide +kernel), List.mem_of_getElem? (i := 498) (by decide +kernel), List.mem_of_getElem? (i := 499) (by decide +kernel)⟩
theorem lw_p11 : lw_okq (⟨"GatesBent$Reader", "readEither", "(I)Z"⟩, 4) := ⟨⟨by decide +kernel, by decide +kernel⟩, List.mem_of_getElem? (i := 26) (by decide +kernel), List.mem_of_getElem? (i := 502) (by decide +kernel), List.mem_of_getElem? (i := 503) (by decide +kernel)⟩
theorem lw_p12 : lw_okq (⟨"GatesBent$Reader", "readFactor", "(I)Z"⟩, 4) := ⟨⟨by decide +kernel, by decide +kernel⟩, List.mem_of_getElem? (i := 26) (by decide +kernel), List.mem_of_getElem? (i := 506) (by decide +kernel), List.mem_of_getElem? (i := 507) (by decide +kernel)⟩
theorem lw_p13 : lw_okq (⟨"GatesBent$Reader", "readTest", "()Z"⟩, 4) := ⟨⟨by decide +kernel, by decide +kernel⟩, List.mem_of_getElem? (i := 26) (by decide +kernel), List.mem_of_getElem? (i := 510) (by decide +kernel), List.mem_of_getElem? (i := 511) (by decide +kernel)⟩
theorem lw_p14 : lw_okq (⟨"GatesBent$Reader", "readOneOf", "(Ljava/lang/String;)I"⟩, 4) := ⟨⟨by decide +kernel, by decide +kernel⟩, List.mem_of_getElem? (i := 26) (by decide +kernel), List.mem_of_getElem? (i := 515) (by decide +kernel), List.mem_of_getElem? (i := 516) (by decide +kernel)⟩
theorem lw_p15 : lw_okq (⟨"GatesBent", "master", "(I)I"⟩, 14) := ⟨⟨by decide +kernel, by decide +kernel⟩, List.mem_of_getElem? (i := 18) (by decide +kernel), List.mem_of_getElem? (i := 528) (by decide +kernel), List.mem_of_getElem? (i := 529) (by decide +kernel)⟩
def lw_privs_1 : List (MethodName × Nat) := [(⟨"GatesBent", "isComer", "(I)Z"⟩, 14), (⟨"GatesBent$Town", "likeBySum", "(LGatesBent$Comer;II)I"⟩, 8), (⟨"GatesBent", "nearest", "(LGatesBent$Comer;I)I"⟩, 14), (⟨"GatesBent", "daysUntilOut", "(I)I"⟩, 14), (⟨"GatesBent$Gate", "leastAlike", "(I)I"⟩, 2), (⟨"GatesBent$Reader", "readClause", "()Z"⟩, 4), (⟨"GatesBent$Reader", "readWord", "()I"⟩, 4), (⟨"GatesBent$Reader", "sameSigns", "(Ljava/lang/String;)I"⟩, 4), (⟨"GatesBent$Reader", "readSign", "(I)Z"⟩, 4), (⟨"GatesBent$Reader", "signAt", "()I"⟩, 4), (⟨"GatesBent$Reader", "readNumber", "()I"⟩, 4), (⟨"GatesBent$Reader", "readEither", "(I)Z"⟩, 4), (⟨"GatesBent$Reader", "readFactor", "(I)Z"⟩, 4), (⟨"GatesBent$Reader", "readTest", "()Z"⟩, 4), (⟨"GatesBent$Reader", "readOneOf", "(Ljava/lang/String;)I"⟩, 4), (⟨"GatesBent", "master", "(I)I"⟩, 14)]
theorem lw_r1 : ∀ q ∈ lw_privs_1, lw_okq q := List.forall_mem_cons.mpr ⟨lw_p0, List.forall_mem_cons.mpr ⟨lw_p1, List.forall_mem_cons.mpr ⟨lw_p2, List.forall_mem_cons.mpr ⟨lw_p3, List.forall_mem_cons.mpr ⟨lw_p4, List.forall_mem_cons.mpr ⟨lw_p5, List.forall_mem_cons.mpr ⟨lw_p6, List.forall_mem_cons.mpr ⟨lw_p7, List.forall_mem_cons.mpr ⟨lw_p8, List.forall_mem_cons.mpr ⟨lw_p9, List.forall_mem_cons.mpr ⟨lw_p10, List.forall_mem_cons.mpr ⟨lw_p11, List.forall_mem_cons.mpr ⟨lw_p12, List.forall_mem_cons.mpr ⟨lw_p13, List.forall_mem_cons.mpr ⟨lw_p14, List.forall_mem_cons.mpr ⟨lw_p15, fun _ h => absurd h List.not_mem_nil⟩⟩⟩⟩⟩⟩⟩⟩⟩⟩⟩⟩⟩⟩⟩⟩
theorem lw_p16 : lw_okq (⟨"GatesBent", "askNeededByComer", "(I)V"⟩, 14) := ⟨⟨by decide +kernel, by decide +kernel⟩, List.mem_of_getElem? (i := 18) (by decide +kernel), List.mem_of_getElem? (i := 532) (by decide +kernel), List.mem_of_getElem? (i := 533) (by decide +kernel)⟩
theorem lw_p17 : lw_okq (⟨"GatesBent", "letByWalkAlone", "(I)I"⟩, 14) := ⟨⟨by decide +kernel, by decide +kernel⟩, List.mem_of_getElem? (i := 18) (by decide +kernel), List.mem_of_getElem? (i := 537) (by decide +kernel), List.mem_of_getElem? (i := 538) (by decide +kernel)⟩
theorem lw_p18 : lw_okq (⟨"GatesBent", "aheadBy", "(I)LGatesBent$Town;"⟩, 14) := ⟨⟨by decide +kernel, by decide +kernel⟩, List.mem_of_getElem? (i := 18) (by decide +kernel), List.mem_of_getElem? (i := 563) (by decide +kernel), List.mem_of_getElem? (i := 564) (by decide +kernel)⟩
theorem lw_p19 : lw_okq (⟨"GatesBent", "bestLessons", "(II)I"⟩, 14) := ⟨⟨by decide +kernel, by decide +kernel⟩, List.mem_of_getElem? (i := 18) (by decide +kernel), List.mem_of_getElem? (i := 571) (by decide +kernel), List.mem_of_getElem? (i := 572) (by decide +kernel)⟩
theorem lw_p20 : lw_okq (⟨"GatesBent", "letByLessons", "(III)I"⟩, 14) := ⟨⟨by decide +kernel, by decide +kernel⟩, List.mem_of_getElem? (i := 18) (by decide +kernel), List.mem_of_getElem? (i := 575) (by decide +kernel), List.mem_of_getElem? (i := 576) (by decide +kernel)⟩
theorem lw_p21 : lw_okq (⟨"GatesBent", "pupil", "(III)I"⟩, 14) := ⟨⟨by decide +kernel, by decide +kernel⟩, List.mem_of_getElem? (i := 18) (by decide +kernel), List.mem_of_getElem? (i := 580) (by decide +kernel), List.mem_of_getElem? (i := 581) (by decide +kernel)⟩
theorem lw_p22 : lw_okq (⟨"GatesBent", "walksBySeen", "(II)I"⟩, 14) := ⟨⟨by decide +kernel, by decide +kernel⟩, List.mem_of_getElem? (i := 18) (by decide +kernel), List.mem_of_getElem? (i := 609) (by decide +kernel), List.mem_of_getElem? (i := 610) (by decide +kernel)⟩
theorem lw_p23 : lw_okq (⟨"GatesBent", "askNeededByGate", "()V"⟩, 14) := ⟨⟨by decide +kernel, by decide +kernel⟩, List.mem_of_getElem? (i := 18) (by decide +kernel), List.mem_of_getElem? (i := 614) (by decide +kernel), List.mem_of_getElem? (i := 615) (by decide +kernel)⟩
theorem lw_p24 : lw_okq (⟨"GatesBent", "isAllSeenSo", "()Z"⟩, 14) := ⟨⟨by decide +kernel, by decide +kernel⟩, List.mem_of_getElem? (i := 18) (by decide +kernel), List.mem_of_getElem? (i := 618) (by decide +kernel), List.mem_of_getElem? (i := 619) (by decide +kernel)⟩
theorem lw_p25 : lw_okq (⟨"GatesBent", "numbersBySeen", "(II)I"⟩, 14) := ⟨⟨by decide +kernel, by decide +kernel⟩, List.mem_of_getElem? (i := 18) (by decide +kernel), List.mem_of_getElem? (i := 622) (by decide +kernel), List.mem_of_getElem? (i := 623) (by decide +kernel)⟩
theorem lw_p26 : lw_okq (⟨"GatesBent", "isInPlan", "(II)Z"⟩, 14) := ⟨⟨by decide +kernel, by decide +kernel⟩, List.mem_of_getElem? (i := 18) (by decide +kernel), List.mem_of_getElem? (i := 642) (by decide +kernel), List.mem_of_getElem? (i := 643) (by decide +kernel)⟩
theorem lw_p27 : lw_okq (⟨"GatesBent", "walks", "(LGatesBent$Comer;III)I"⟩, 14) := ⟨⟨by decide +kernel, by decide +kernel⟩, List.mem_of_getElem? (i := 18) (by decide +kernel), List.mem_of_getElem? (i := 684) (by decide +kernel), List.mem_of_getElem? (i := 685) (by decide +kernel)⟩
theorem lw_p28 : lw_okq (⟨"GatesBent", "startBody", "(I)V"⟩, 14) := ⟨⟨by decide +kernel, by decide +kernel⟩, List.mem_of_getElem? (i := 18) (by decide +kernel), List.mem_of_getElem? (i := 688) (by decide +kernel), List.mem_of_getElem? (i := 689) (by decide +kernel)⟩
theorem lw_p29 : lw_okq (⟨"GatesBent", "knocks", "(LGatesBent$Comer;III)I"⟩, 14) := ⟨⟨by decide +kernel, by decide +kernel⟩, List.mem_of_getElem? (i := 18) (by decide +kernel), List.mem_of_getElem? (i := 692) (by decide +kernel), List.mem_of_getElem? (i := 693) (by decide +kernel)⟩
theorem lw_p30 : lw_okq (⟨"GatesBent", "tells", "(LGatesBent$Comer;III)I"⟩, 14) := ⟨⟨by decide +kernel, by decide +kernel⟩, List.mem_of_getElem? (i := 18) (by decide +kernel), List.mem_of_getElem? (i := 696) (by decide +kernel), List.mem_of_getElem? (i := 697) (by decide +kernel)⟩
theorem lw_p31 : lw_okq (⟨"GatesBent$Tape", "cut", "(J)J"⟩, 3) := ⟨⟨by decide +kernel, by decide +kernel⟩, List.mem_of_getElem? (i := 218) (by decide +kernel), List.mem_of_getElem? (i := 733) (by decide +kernel), List.mem_of_getElem? (i := 734) (by decide +kernel)⟩
def lw_privs_2 : List (MethodName × Nat) := [(⟨"GatesBent", "askNeededByComer", "(I)V"⟩, 14), (⟨"GatesBent", "letByWalkAlone", "(I)I"⟩, 14), (⟨"GatesBent", "aheadBy", "(I)LGatesBent$Town;"⟩, 14), (⟨"GatesBent", "bestLessons", "(II)I"⟩, 14), (⟨"GatesBent", "letByLessons", "(III)I"⟩, 14), (⟨"GatesBent", "pupil", "(III)I"⟩, 14), (⟨"GatesBent", "walksBySeen", "(II)I"⟩, 14), (⟨"GatesBent", "askNeededByGate", "()V"⟩, 14), (⟨"GatesBent", "isAllSeenSo", "()Z"⟩, 14), (⟨"GatesBent", "numbersBySeen", "(II)I"⟩, 14), (⟨"GatesBent", "isInPlan", "(II)Z"⟩, 14), (⟨"GatesBent", "walks", "(LGatesBent$Comer;III)I"⟩, 14), (⟨"GatesBent", "startBody", "(I)V"⟩, 14), (⟨"GatesBent", "knocks", "(LGatesBent$Comer;III)I"⟩, 14), (⟨"GatesBent", "tells", "(LGatesBent$Comer;III)I"⟩, 14), (⟨"GatesBent$Tape", "cut", "(J)J"⟩, 3)]
theorem lw_r2 : ∀ q ∈ lw_privs_2, lw_okq q := List.forall_mem_cons.mpr ⟨lw_p16, List.forall_mem_cons.mpr ⟨lw_p17, List.forall_mem_cons.mpr ⟨lw_p18, List.forall_mem_cons.mpr ⟨lw_p19, List.forall_mem_cons.mpr ⟨lw_p20, List.forall_mem_cons.mpr ⟨lw_p21, List.forall_mem_cons.mpr ⟨lw_p22, List.forall_mem_cons.mpr ⟨lw_p23, List.forall_mem_cons.mpr ⟨lw_p24, List.forall_mem_cons.mpr ⟨lw_p25, List.forall_mem_cons.mpr ⟨lw_p26, List.forall_mem_cons.mpr ⟨lw_p27, List.forall_mem_cons.mpr ⟨lw_p28, List.forall_mem_cons.mpr ⟨lw_p29, List.forall_mem_cons.mpr ⟨lw_p30, List.forall_mem_cons.mpr ⟨lw_p31, fun _ h => absurd h List.not_mem_nil⟩⟩⟩⟩⟩⟩⟩⟩⟩⟩⟩⟩⟩⟩⟩⟩
theorem lw_p32 : lw_okq (⟨"GatesBentModel", "change", "(III)I"⟩, 32) := ⟨⟨by decide +kernel, by decide +kernel⟩, List.mem_of_getElem? (i := 750) (by decide +kernel), List.mem_of_getElem? (i := 872) (by decide +kernel), List.mem_of_getElem? (i := 873) (by decide +kernel)⟩
theorem lw_p33 : lw_okq (⟨"GatesBentModel", "one", "(II)I"⟩, 32) := ⟨⟨by decide +kernel, by decide +kernel⟩, List.mem_of_getElem? (i := 750) (by decide +kernel), List.mem_of_getElem? (i := 876) (by decide +kernel), List.mem_of_getElem? (i := 877) (by decide +kernel)⟩
theorem lw_p34 : lw_okq (⟨"GatesBentModel", "isComer", "(I)Z"⟩, 32) := ⟨⟨by decide +kernel, by decide +kernel⟩, List.mem_of_getElem? (i := 750) (by decide +kernel), List.mem_of_getElem? (i := 884) (by decide +kernel), List.mem_of_getElem? (i := 885) (by decide +kernel)⟩
theorem lw_p35 : lw_okq (⟨"GatesBentModel", "out", "(I)I"⟩, 32) := ⟨⟨by decide +kernel, by decide +kernel⟩, List.mem_of_getElem? (i := 750) (by decide +kernel), List.mem_of_getElem? (i := 888) (by decide +kernel), List.mem_of_getElem? (i := 889) (by decide +kernel)⟩
theorem lw_p36 : lw_okq (⟨"GatesBentModel", "keep", "(I)V"⟩, 32) := ⟨⟨by decide +kernel, by decide +kernel⟩, List.mem_of_getElem? (i := 750) (by decide +kernel), List.mem_of_getElem? (i := 892) (by decide +kernel), List.mem_of_getElem? (i := 893) (by decide +kernel)⟩
theorem lw_p37 : lw_okq (⟨"GatesBentModel", "isBy", "(I)Z"⟩, 32) := ⟨⟨by decide +kernel, by decide +kernel⟩, List.mem_of_getElem? (i := 750) (by decide +kernel), List.mem_of_getElem? (i := 896) (by decide +kernel), List.mem_of_getElem? (i := 897) (by decide +kernel)⟩
theorem lw_p38 : lw_okq (⟨"GatesBentModel", "lets", "(II)Z"⟩, 32) := ⟨⟨by decide +kernel, by decide +kernel⟩, List.mem_of_getElem? (i := 750) (by decide +kernel), List.mem_of_getElem? (i := 900) (by decide +kernel), List.mem_of_getElem? (i := 901) (by decide +kernel)⟩
theorem lw_p39 : lw_okq (⟨"GatesBentModel", "helps", "(II)I"⟩, 32) := ⟨⟨by decide +kernel, by decide +kernel⟩, List.mem_of_getElem? (i := 750) (by decide +kernel), List.mem_of_getElem? (i := 904) (by decide +kernel), List.mem_of_getElem? (i := 905) (by decide +kernel)⟩
theorem lw_p40 : lw_okq (⟨"GatesBentModel", "readFor", "(II)V"⟩, 32) := ⟨⟨by decide +kernel, by decide +kernel⟩, List.mem_of_getElem? (i := 750) (by decide +kernel), List.mem_of_getElem? (i := 908) (by decide +kernel), List.mem_of_getElem? (i := 909) (by decide +kernel)⟩
theorem lw_p41 : lw_okq (⟨"GatesBentModel", "readAll", "()Z"⟩, 32) := ⟨⟨by decide +kernel, by decide +kernel⟩, List.mem_of_getElem? (i := 750) (by decide +kernel), List.mem_of_getElem? (i := 912) (by decide +kernel), List.mem_of_getElem? (i := 913) (by decide +kernel)⟩
theorem lw_p42 : lw_okq (⟨"GatesBentModel", "clause", "()V"⟩, 32) := ⟨⟨by decide +kernel, by decide +kernel⟩, List.mem_of_getElem? (i := 750) (by decide +kernel), List.mem_of_getElem? (i := 916) (by decide +kernel), List.mem_of_getElem? (i := 917) (by decide +kernel)⟩
theorem lw_p43 : lw_okq (⟨"GatesBentModel", "isAt", "(I)Z"⟩, 32) := ⟨⟨by decide +kernel, by decide +kernel⟩, List.mem_of_getElem? (i := 750) (by decide +kernel), List.mem_of_getElem? (i := 920) (by decide +kernel), List.mem_of_getElem? (i := 921) (by decide +kernel)⟩
theorem lw_p44 : lw_okq (⟨"GatesBentModel", "takes", "(I)V"⟩, 32) := ⟨⟨by decide +kernel, by decide +kernel⟩, List.mem_of_getElem? (i := 750) (by decide +kernel), List.mem_of_getElem? (i := 924) (by decide +kernel), List.mem_of_getElem? (i := 925) (by decide +kernel)⟩
theorem lw_p45 : lw_okq (⟨"GatesBentModel", "number", "()I"⟩, 32) := ⟨⟨by decide +kernel, by decide +kernel⟩, List.mem_of_getElem? (i := 750) (by decide +kernel), List.mem_of_getElem? (i := 928) (by decide +kernel), List.mem_of_getElem? (i := 929) (by decide +kernel)⟩
theorem lw_p46 : lw_okq (⟨"GatesBentModel", "isDigit", "()Z"⟩, 32) := ⟨⟨by decide +kernel, by decide +kernel⟩, List.mem_of_getElem? (i := 750) (by decide +kernel), List.mem_of_getElem? (i := 932) (by decide +kernel), List.mem_of_getElem? (i := 933) (by decide +kernel)⟩
theorem lw_p47 : lw_okq (⟨"GatesBentModel", "any", "()Z"⟩, 32) := ⟨⟨by decide +kernel, by decide +kernel⟩, List.mem_of_getElem? (i := 750) (by decide +kernel), List.mem_of_getElem? (i := 936) (by decide +kernel), List.mem_of_getElem? (i := 937) (by decide +kernel)⟩
def lw_privs_3 : List (MethodName × Nat) := [(⟨"GatesBentModel", "change", "(III)I"⟩, 32), (⟨"GatesBentModel", "one", "(II)I"⟩, 32), (⟨"GatesBentModel", "isComer", "(I)Z"⟩, 32), (⟨"GatesBentModel", "out", "(I)I"⟩, 32), (⟨"GatesBentModel", "keep", "(I)V"⟩, 32), (⟨"GatesBentModel", "isBy", "(I)Z"⟩, 32), (⟨"GatesBentModel", "lets", "(II)Z"⟩, 32), (⟨"GatesBentModel", "helps", "(II)I"⟩, 32), (⟨"GatesBentModel", "readFor", "(II)V"⟩, 32), (⟨"GatesBentModel", "readAll", "()Z"⟩, 32), (⟨"GatesBentModel", "clause", "()V"⟩, 32), (⟨"GatesBentModel", "isAt", "(I)Z"⟩, 32), (⟨"GatesBentModel", "takes", "(I)V"⟩, 32), (⟨"GatesBentModel", "number", "()I"⟩, 32), (⟨"GatesBentModel", "isDigit", "()Z"⟩, 32), (⟨"GatesBentModel", "any", "()Z"⟩, 32)]
theorem lw_r3 : ∀ q ∈ lw_privs_3, lw_okq q := List.forall_mem_cons.mpr ⟨lw_p32, List.forall_mem_cons.mpr ⟨lw_p33, List.forall_mem_cons.mpr ⟨lw_p34, List.forall_mem_cons.mpr ⟨lw_p35, List.forall_mem_cons.mpr ⟨lw_p36, List.forall_mem_cons.mpr ⟨lw_p37, List.forall_mem_cons.mpr ⟨lw_p38, List.forall_mem_cons.mpr ⟨lw_p39, List.forall_mem_cons.mpr ⟨lw_p40, List.forall_mem_cons.mpr ⟨lw_p41, List.forall_mem_cons.mpr ⟨lw_p42, List.forall_mem_cons.mpr ⟨lw_p43, List.forall_mem_cons.mpr ⟨lw_p44, List.forall_mem_cons.mpr ⟨lw_p45, List.forall_mem_cons.mpr ⟨lw_p46, List.forall_mem_cons.mpr ⟨lw_p47, fun _ h => absurd h List.not_mem_nil⟩⟩⟩⟩⟩⟩⟩⟩⟩⟩⟩⟩⟩⟩⟩⟩
theorem lw_p48 : lw_okq (⟨"GatesBentModel", "both", "()Z"⟩, 32) := ⟨⟨by decide +kernel, by decide +kernel⟩, List.mem_of_getElem? (i := 750) (by decide +kernel), List.mem_of_getElem? (i := 940) (by decide +kernel), List.mem_of_getElem? (i := 941) (by decide +kernel)⟩
theorem lw_p49 : lw_okq (⟨"GatesBentModel", "factor", "()Z"⟩, 32) := ⟨⟨by decide +kernel, by decide +kernel⟩, List.mem_of_getElem? (i := 750) (by decide +kernel), List.mem_of_getElem? (i := 944) (by decide +kernel), List.mem_of_getElem? (i := 945) (by decide +kernel)⟩
theorem lw_p50 : lw_okq (⟨"GatesBentModel", "test", "()Z"⟩, 32) := ⟨⟨by decide +kernel, by decide +kernel⟩, List.mem_of_getElem? (i := 750) (by decide +kernel), List.mem_of_getElem? (i := 948) (by decide +kernel), List.mem_of_getElem? (i := 949) (by decide +kernel)⟩
theorem lw_p51 : lw_okq (⟨"GatesBentModel", "known", "(I)I"⟩, 32) := ⟨⟨by decide +kernel, by decide +kernel⟩, List.mem_of_getElem? (i := 750) (by decide +kernel), List.mem_of_getElem? (i := 952) (by decide +kernel), List.mem_of_getElem? (i := 953) (by decide +kernel)⟩
theorem lw_p52 : lw_okq (⟨"GatesBentModel", "walkAt", "(II)I"⟩, 32) := ⟨⟨by decide +kernel, by decide +kernel⟩, List.mem_of_getElem? (i := 750) (by decide +kernel), List.mem_of_getElem? (i := 956) (by decide +kernel), List.mem_of_getElem? (i := 957) (by decide +kernel)⟩
theorem lw_p53 : lw_okq (⟨"GatesBentModel", "likeTo", "(IIII)I"⟩, 32) := ⟨⟨by decide +kernel, by decide +kernel⟩, List.mem_of_getElem? (i := 750) (by decide +kernel), List.mem_of_getElem? (i := 960) (by decide +kernel), List.mem_of_getElem? (i := 961) (by decide +kernel)⟩
theorem lw_p54 : lw_okq (⟨"GatesBentModel", "day", "()V"⟩, 32) := ⟨⟨by decide +kernel, by decide +kernel⟩, List.mem_of_getElem? (i := 750) (by decide +kernel), List.mem_of_getElem? (i := 968) (by decide +kernel), List.mem_of_getElem? (i := 969) (by decide +kernel)⟩
theorem lw_p55 : lw_okq (⟨"GatesBentModel", "ageNow", "()I"⟩, 32) := ⟨⟨by decide +kernel, by decide +kernel⟩, List.mem_of_getElem? (i := 750) (by decide +kernel), List.mem_of_getElem? (i := 972) (by decide +kernel), List.mem_of_getElem? (i := 973) (by decide +kernel)⟩
theorem lw_p56 : lw_okq (⟨"GatesBentModel", "lay", "(I)V"⟩, 32) := ⟨⟨by decide +kernel, by decide +kernel⟩, List.mem_of_getElem? (i := 750) (by decide +kernel), List.mem_of_getElem? (i := 976) (by decide +kernel), List.mem_of_getElem? (i := 977) (by decide +kernel)⟩
theorem lw_p57 : lw_okq (⟨"GatesBentModel", "nearest", "(II)I"⟩, 32) := ⟨⟨by decide +kernel, by decide +kernel⟩, List.mem_of_getElem? (i := 750) (by decide +kernel), List.mem_of_getElem? (i := 980) (by decide +kernel), List.mem_of_getElem? (i := 981) (by decide +kernel)⟩
theorem lw_p58 : lw_okq (⟨"GatesBentModel", "taught", "(II)I"⟩, 32) := ⟨⟨by decide +kernel, by decide +kernel⟩, List.mem_of_getElem? (i := 750) (by decide +kernel), List.mem_of_getElem? (i := 1012) (by decide +kernel), List.mem_of_getElem? (i := 1013) (by decide +kernel)⟩
theorem lw_p59 : lw_okq (⟨"GatesBentModel", "needNow", "()I"⟩, 32) := ⟨⟨by decide +kernel, by decide +kernel⟩, List.mem_of_getElem? (i := 750) (by decide +kernel), List.mem_of_getElem? (i := 1020) (by decide +kernel), List.mem_of_getElem? (i := 1021) (by decide +kernel)⟩
theorem lw_p60 : lw_okq (⟨"GatesBentModel", "bys", "()I"⟩, 32) := ⟨⟨by decide +kernel, by decide +kernel⟩, List.mem_of_getElem? (i := 750) (by decide +kernel), List.mem_of_getElem? (i := 1024) (by decide +kernel), List.mem_of_getElem? (i := 1025) (by decide +kernel)⟩
theorem lw_p61 : lw_okq (⟨"GatesBentModel", "passes", "()I"⟩, 32) := ⟨⟨by decide +kernel, by decide +kernel⟩, List.mem_of_getElem? (i := 750) (by decide +kernel), List.mem_of_getElem? (i := 1028) (by decide +kernel), List.mem_of_getElem? (i := 1029) (by decide +kernel)⟩
theorem lw_p62 : lw_okq (⟨"GatesBentModel", "master", "(IZ)I"⟩, 32) := ⟨⟨by decide +kernel, by decide +kernel⟩, List.mem_of_getElem? (i := 750) (by decide +kernel), List.mem_of_getElem? (i := 1032) (by decide +kernel), List.mem_of_getElem? (i := 1033) (by decide +kernel)⟩
theorem lw_p63 : lw_okq (⟨"GatesBentModel", "days", "(I)V"⟩, 32) := ⟨⟨by decide +kernel, by decide +kernel⟩, List.mem_of_getElem? (i := 750) (by decide +kernel), List.mem_of_getElem? (i := 1041) (by decide +kernel), List.mem_of_getElem? (i := 1042) (by decide +kernel)⟩
def lw_privs_4 : List (MethodName × Nat) := [(⟨"GatesBentModel", "both", "()Z"⟩, 32), (⟨"GatesBentModel", "factor", "()Z"⟩, 32), (⟨"GatesBentModel", "test", "()Z"⟩, 32), (⟨"GatesBentModel", "known", "(I)I"⟩, 32), (⟨"GatesBentModel", "walkAt", "(II)I"⟩, 32), (⟨"GatesBentModel", "likeTo", "(IIII)I"⟩, 32), (⟨"GatesBentModel", "day", "()V"⟩, 32), (⟨"GatesBentModel", "ageNow", "()I"⟩, 32), (⟨"GatesBentModel", "lay", "(I)V"⟩, 32), (⟨"GatesBentModel", "nearest", "(II)I"⟩, 32), (⟨"GatesBentModel", "taught", "(II)I"⟩, 32), (⟨"GatesBentModel", "needNow", "()I"⟩, 32), (⟨"GatesBentModel", "bys", "()I"⟩, 32), (⟨"GatesBentModel", "passes", "()I"⟩, 32), (⟨"GatesBentModel", "master", "(IZ)I"⟩, 32), (⟨"GatesBentModel", "days", "(I)V"⟩, 32)]
theorem lw_r4 : ∀ q ∈ lw_privs_4, lw_okq q := List.forall_mem_cons.mpr ⟨lw_p48, List.forall_mem_cons.mpr ⟨lw_p49, List.forall_mem_cons.mpr ⟨lw_p50, List.forall_mem_cons.mpr ⟨lw_p51, List.forall_mem_cons.mpr ⟨lw_p52, List.forall_mem_cons.mpr ⟨lw_p53, List.forall_mem_cons.mpr ⟨lw_p54, List.forall_mem_cons.mpr ⟨lw_p55, List.forall_mem_cons.mpr ⟨lw_p56, List.forall_mem_cons.mpr ⟨lw_p57, List.forall_mem_cons.mpr ⟨lw_p58, List.forall_mem_cons.mpr ⟨lw_p59, List.forall_mem_cons.mpr ⟨lw_p60, List.forall_mem_cons.mpr ⟨lw_p61, List.forall_mem_cons.mpr ⟨lw_p62, List.forall_mem_cons.mpr ⟨lw_p63, fun _ h => absurd h List.not_mem_nil⟩⟩⟩⟩⟩⟩⟩⟩⟩⟩⟩⟩⟩⟩⟩⟩
theorem lw_p64 : lw_okq (⟨"GatesBentModel", "learn", "(III)V"⟩, 32) := ⟨⟨by decide +kernel, by decide +kernel⟩, List.mem_of_getElem? (i := 750) (by decide +kernel), List.mem_of_getElem? (i := 1053) (by decide +kernel), List.mem_of_getElem? (i := 1054) (by decide +kernel)⟩
theorem lw_p65 : lw_okq (⟨"GatesBentModel", "letsAll", "(I)I"⟩, 32) := ⟨⟨by decide +kernel, by decide +kernel⟩, List.mem_of_getElem? (i := 750) (by decide +kernel), List.mem_of_getElem? (i := 1057) (by decide +kernel), List.mem_of_getElem? (i := 1058) (by decide +kernel)⟩
theorem lw_p66 : lw_okq (⟨"GatesBentModel", "isSo", "(I)Z"⟩, 32) := ⟨⟨by decide +kernel, by decide +kernel⟩, List.mem_of_getElem? (i := 750) (by decide +kernel), List.mem_of_getElem? (i := 1073) (by decide +kernel), List.mem_of_getElem? (i := 1074) (by decide +kernel)⟩
theorem lw_p67 : lw_okq (⟨"GatesBentModel", "isAllSo", "(I)Z"⟩, 32) := ⟨⟨by decide +kernel, by decide +kernel⟩, List.mem_of_getElem? (i := 750) (by decide +kernel), List.mem_of_getElem? (i := 1081) (by decide +kernel), List.mem_of_getElem? (i := 1082) (by decide +kernel)⟩
theorem lw_p68 : lw_okq (⟨"GatesBentModel", "all", "(III)I"⟩, 32) := ⟨⟨by decide +kernel, by decide +kernel⟩, List.mem_of_getElem? (i := 750) (by decide +kernel), List.mem_of_getElem? (i := 1118) (by decide +kernel), List.mem_of_getElem? (i := 1119) (by decide +kernel)⟩
theorem lw_p69 : lw_okq (⟨"GatesBentModel", "byKind", "(IIII)I"⟩, 32) := ⟨⟨by decide +kernel, by decide +kernel⟩, List.mem_of_getElem? (i := 750) (by decide +kernel), List.mem_of_getElem? (i := 1122) (by decide +kernel), List.mem_of_getElem? (i := 1123) (by decide +kernel)⟩
theorem lw_p70 : lw_okq (⟨"GatesBentModel", "body", "(I)I"⟩, 32) := ⟨⟨by decide +kernel, by decide +kernel⟩, List.mem_of_getElem? (i := 750) (by decide +kernel), List.mem_of_getElem? (i := 1126) (by decide +kernel), List.mem_of_getElem? (i := 1127) (by decide +kernel)⟩
def lw_privs_5 : List (MethodName × Nat) := [(⟨"GatesBentModel", "learn", "(III)V"⟩, 32), (⟨"GatesBentModel", "letsAll", "(I)I"⟩, 32), (⟨"GatesBentModel", "isSo", "(I)Z"⟩, 32), (⟨"GatesBentModel", "isAllSo", "(I)Z"⟩, 32), (⟨"GatesBentModel", "all", "(III)I"⟩, 32), (⟨"GatesBentModel", "byKind", "(IIII)I"⟩, 32), (⟨"GatesBentModel", "body", "(I)I"⟩, 32)]
theorem lw_r5 : ∀ q ∈ lw_privs_5, lw_okq q := List.forall_mem_cons.mpr ⟨lw_p64, List.forall_mem_cons.mpr ⟨lw_p65, List.forall_mem_cons.mpr ⟨lw_p66, List.forall_mem_cons.mpr ⟨lw_p67, List.forall_mem_cons.mpr ⟨lw_p68, List.forall_mem_cons.mpr ⟨lw_p69, List.forall_mem_cons.mpr ⟨lw_p70, fun _ h => absurd h List.not_mem_nil⟩⟩⟩⟩⟩⟩⟩
def lw_privs : List (MethodName × Nat) := lw_privs_1 ++ (lw_privs_2 ++ (lw_privs_3 ++ (lw_privs_4 ++ (lw_privs_5))))
def lw_tbl : List Cond := k2_sels lw_privs ++ tables_1
theorem lw_privs_ok : ∀ q ∈ lw_privs, lw_okq q := by
  show ∀ q ∈ lw_privs_1 ++ (lw_privs_2 ++ (lw_privs_3 ++ (lw_privs_4 ++ (lw_privs_5)))), lw_okq q
  exact List.forall_mem_append.mpr ⟨lw_r1, List.forall_mem_append.mpr ⟨lw_r2, List.forall_mem_append.mpr ⟨lw_r3, List.forall_mem_append.mpr ⟨lw_r4, lw_r5⟩⟩⟩⟩
def RX0 : String := "GatesBent$Comer"
def TX0 : u_T := fun k => match k with
  | 0 => ("GatesBent$Comer", "number", "I", false)
  | 1 => ("GatesBent$Comer", "kind", "I", false)
  | 2 => ("GatesBent$Comer", "v", "I", false)
  | 3 => ("GatesBent$Comer", "walk", "I", false)
  | 4 => ("GatesBent$Comer", "gate", "I", false)
  | 5 => ("GatesBent$Comer", "tries", "I", false)
  | 6 => ("GatesBent$Comer", "passed", "I", false)
  | _ => ("GatesBent$Comer", "row", "[I", true)
def tyX0 : Nat → FieldType := fun k => match k with
  | 0 => .int
  | 1 => .int
  | 2 => .int
  | 3 => .int
  | 4 => .int
  | 5 => .int
  | 6 => .int
  | _ => .array .int
abbrev wsX00 : List Cond := u_ws RX0 TX0 8
theorem nmX0 : ∀ a, a < 8 → ∀ b, b < 8 → a ≠ b → (TX0 a).2.1 ≠ (TX0 b).2.1 := by decide +kernel
theorem tyX0_ok : ∀ k, k < 8 → parseFieldDescriptor (TX0 k).2.2.1 = some (tyX0 k) := by decide +kernel
abbrev cX0_init : ByteArray := prog_2_method_1_code
def yX0_init : MethodName := ⟨RX0, "<init>", "(I)V"⟩
abbrev cX0_become : ByteArray := prog_2_method_2_code
def yX0_become : MethodName := ⟨RX0, "become", "(LGatesBent$Comer;)V"⟩
abbrev cX0_begin : ByteArray := prog_2_method_3_code
def yX0_begin : MethodName := ⟨RX0, "begin", "(IIII)V"⟩
def RX1 : String := "GatesBent$Gate"
def TX1 : u_T := fun k => match k with
  | 0 => ("GatesBent$Gate", "walks", "[I", true)
  | _ => ("GatesBent$Gate", "known", "I", false)
def tyX1 : Nat → FieldType := fun k => match k with
  | 0 => .array .int
  | _ => .int
abbrev wsX10 : List Cond := u_ws RX1 TX1 2
theorem nmX1 : ∀ a, a < 2 → ∀ b, b < 2 → a ≠ b → (TX1 a).2.1 ≠ (TX1 b).2.1 := by decide +kernel
theorem tyX1_ok : ∀ k, k < 2 → parseFieldDescriptor (TX1 k).2.2.1 = some (tyX1 k) := by decide +kernel
abbrev cX1_init : ByteArray := prog_3_method_1_code
def yX1_init : MethodName := ⟨RX1, "<init>", "()V"⟩
abbrev cX1_become : ByteArray := prog_3_method_2_code
def yX1_become : MethodName := ⟨RX1, "become", "(LGatesBent$Gate;)V"⟩
abbrev cX1_learn : ByteArray := prog_3_method_3_code
def yX1_learn : MethodName := ⟨RX1, "learn", "(I)I"⟩
abbrev cX1_leastAlike : ByteArray := prog_3_method_4_code
def yX1_leastAlike : MethodName := ⟨RX1, "leastAlike", "(I)I"⟩
abbrev cX1_knowsAlike : ByteArray := prog_3_method_5_code
def yX1_knowsAlike : MethodName := ⟨RX1, "knowsAlike", "(II)Z"⟩
def RX2 : String := "GatesBent$House"
def TX2 : u_T := fun k => match k with
  | 0 => ("GatesBent$House", "ops", "[I", true)
  | 1 => ("GatesBent$House", "numbers", "[I", true)
  | 2 => ("GatesBent$House", "length", "I", false)
  | 3 => ("GatesBent$House", "need", "I", false)
  | _ => ("GatesBent$House", "age", "I", false)
def tyX2 : Nat → FieldType := fun k => match k with
  | 0 => .array .int
  | 1 => .array .int
  | 2 => .int
  | 3 => .int
  | _ => .int
abbrev wsX20 : List Cond := u_ws RX2 TX2 5
theorem nmX2 : ∀ a, a < 5 → ∀ b, b < 5 → a ≠ b → (TX2 a).2.1 ≠ (TX2 b).2.1 := by decide +kernel
theorem tyX2_ok : ∀ k, k < 5 → parseFieldDescriptor (TX2 k).2.2.1 = some (tyX2 k) := by decide +kernel
abbrev cX2_init : ByteArray := prog_4_method_1_code
def yX2_init : MethodName := ⟨RX2, "<init>", "(I)V"⟩
abbrev cX2_clear : ByteArray := prog_4_method_2_code
def yX2_clear : MethodName := ⟨RX2, "clear", "()V"⟩
abbrev cX2_put : ByteArray := prog_4_method_3_code
def yX2_put : MethodName := ⟨RX2, "put", "(II)V"⟩
abbrev cX2_bonus : ByteArray := prog_4_method_4_code
def yX2_bonus : MethodName := ⟨RX2, "bonus", "(LGatesBent$Comer;II)I"⟩
abbrev cX2_valueOf : ByteArray := prog_4_method_5_code
def yX2_valueOf : MethodName := ⟨RX2, "valueOf", "(ILGatesBent$Comer;II)I"⟩
abbrev cX2_isSo : ByteArray := prog_4_method_6_code
def yX2_isSo : MethodName := ⟨RX2, "isSo", "(III)Z"⟩
def RX3 : String := "GatesBent$Reader"
def TX3 : u_T := fun k => match k with
  | 0 => ("GatesBent$Reader", "text", "[B", true)
  | 1 => ("GatesBent$Reader", "length", "I", false)
  | 2 => ("GatesBent$Reader", "place", "I", false)
  | _ => ("GatesBent$Reader", "house", "LGatesBent$House;", false)
def tyX3 : Nat → FieldType := fun k => match k with
  | 0 => .array .byte
  | 1 => .int
  | 2 => .int
  | _ => .object "GatesBent$House"
abbrev wsX30 : List Cond := u_ws RX3 TX3 4
theorem nmX3 : ∀ a, a < 4 → ∀ b, b < 4 → a ≠ b → (TX3 a).2.1 ≠ (TX3 b).2.1 := by decide +kernel
theorem tyX3_ok : ∀ k, k < 4 → parseFieldDescriptor (TX3 k).2.2.1 = some (tyX3 k) := by decide +kernel
abbrev cX3_init : ByteArray := prog_5_method_1_code
def yX3_init : MethodName := ⟨RX3, "<init>", "()V"⟩
abbrev cX3_readHouse : ByteArray := prog_5_method_2_code
def yX3_readHouse : MethodName := ⟨RX3, "readHouse", "(LGatesBent$House;)Z"⟩
abbrev cX3_readClause : ByteArray := prog_5_method_3_code
def yX3_readClause : MethodName := ⟨RX3, "readClause", "()Z"⟩
abbrev cX3_readWord : ByteArray := prog_5_method_4_code
def yX3_readWord : MethodName := ⟨RX3, "readWord", "()I"⟩
abbrev cX3_wordOf : ByteArray := prog_5_method_5_code
def yX3_wordOf : MethodName := ⟨RX3, "wordOf", "(I)Ljava/lang/String;"⟩
abbrev cX3_sameSigns : ByteArray := prog_5_method_6_code
def yX3_sameSigns : MethodName := ⟨RX3, "sameSigns", "(Ljava/lang/String;)I"⟩
abbrev cX3_readEither : ByteArray := prog_5_method_7_code
def yX3_readEither : MethodName := ⟨RX3, "readEither", "(I)Z"⟩
abbrev cX3_readFactor : ByteArray := prog_5_method_8_code
def yX3_readFactor : MethodName := ⟨RX3, "readFactor", "(I)Z"⟩
abbrev cX3_readTest : ByteArray := prog_5_method_9_code
def yX3_readTest : MethodName := ⟨RX3, "readTest", "()Z"⟩
abbrev cX3_readNumber : ByteArray := prog_5_method_10_code
def yX3_readNumber : MethodName := ⟨RX3, "readNumber", "()I"⟩
abbrev cX3_readOneOf : ByteArray := prog_5_method_11_code
def yX3_readOneOf : MethodName := ⟨RX3, "readOneOf", "(Ljava/lang/String;)I"⟩
abbrev cX3_readSign : ByteArray := prog_5_method_12_code
def yX3_readSign : MethodName := ⟨RX3, "readSign", "(I)Z"⟩
abbrev cX3_signAt : ByteArray := prog_5_method_13_code
def yX3_signAt : MethodName := ⟨RX3, "signAt", "()I"⟩
def RX4 : String := "GatesBent$Rows"
def TX4 : u_T := fun k => match k with
  | 0 => ("GatesBent$Rows", "first", "[I", true)
  | 1 => ("GatesBent$Rows", "second", "[I", true)
  | 2 => ("GatesBent$Rows", "third", "[I", true)
  | _ => ("GatesBent$Rows", "many", "I", false)
def tyX4 : Nat → FieldType := fun k => match k with
  | 0 => .array .int
  | 1 => .array .int
  | 2 => .array .int
  | _ => .int
abbrev wsX40 : List Cond := u_ws RX4 TX4 4
theorem nmX4 : ∀ a, a < 4 → ∀ b, b < 4 → a ≠ b → (TX4 a).2.1 ≠ (TX4 b).2.1 := by decide +kernel
theorem tyX4_ok : ∀ k, k < 4 → parseFieldDescriptor (TX4 k).2.2.1 = some (tyX4 k) := by decide +kernel
abbrev cX4_init : ByteArray := prog_6_method_1_code
def yX4_init : MethodName := ⟨RX4, "<init>", "(I)V"⟩
abbrev cX4_become : ByteArray := prog_6_method_2_code
def yX4_become : MethodName := ⟨RX4, "become", "(LGatesBent$Rows;)V"⟩
abbrev cX4_add : ByteArray := prog_6_method_3_code
def yX4_add : MethodName := ⟨RX4, "add", "(III)I"⟩
abbrev cX4_clear : ByteArray := prog_6_method_4_code
def yX4_clear : MethodName := ⟨RX4, "clear", "()I"⟩
def RX5 : String := "GatesBent$Tape"
def TX5 : u_T := fun k => match k with
  | 0 => ("GatesBent$Tape", "items", "[J", true)
  | 1 => ("GatesBent$Tape", "sort", "I", false)
  | _ => ("GatesBent$Tape", "length", "I", false)
def tyX5 : Nat → FieldType := fun k => match k with
  | 0 => .array .long
  | 1 => .int
  | _ => .int
abbrev wsX50 : List Cond := u_ws RX5 TX5 3
theorem nmX5 : ∀ a, a < 3 → ∀ b, b < 3 → a ≠ b → (TX5 a).2.1 ≠ (TX5 b).2.1 := by decide +kernel
theorem tyX5_ok : ∀ k, k < 3 → parseFieldDescriptor (TX5 k).2.2.1 = some (tyX5 k) := by decide +kernel
abbrev cX5_init : ByteArray := prog_7_method_1_code
def yX5_init : MethodName := ⟨RX5, "<init>", "()V"⟩
abbrev cX5_become : ByteArray := prog_7_method_2_code
def yX5_become : MethodName := ⟨RX5, "become", "(II)V"⟩
abbrev cX5_hasPlace : ByteArray := prog_7_method_3_code
def yX5_hasPlace : MethodName := ⟨RX5, "hasPlace", "(I)Z"⟩
abbrev cX5_hasPlaces : ByteArray := prog_7_method_4_code
def yX5_hasPlaces : MethodName := ⟨RX5, "hasPlaces", "(II)Z"⟩
abbrev cX5_put : ByteArray := prog_7_method_5_code
def yX5_put : MethodName := ⟨RX5, "put", "(IJ)V"⟩
abbrev cX5_cut : ByteArray := prog_7_method_6_code
def yX5_cut : MethodName := ⟨RX5, "cut", "(J)J"⟩
def RX6 : String := "GatesBent$Town"
def TX6 : u_T := fun k => match k with
  | 0 => ("GatesBent$Town", "gates", "[LGatesBent$Gate;", true)
  | 1 => ("GatesBent$Town", "comers", "[LGatesBent$Comer;", true)
  | 2 => ("GatesBent$Town", "seen", "LGatesBent$Rows;", true)
  | 3 => ("GatesBent$Town", "plan", "LGatesBent$Rows;", true)
  | 4 => ("GatesBent$Town", "book", "LGatesBent$Rows;", true)
  | 5 => ("GatesBent$Town", "many", "I", false)
  | 6 => ("GatesBent$Town", "day", "I", false)
  | _ => ("GatesBent$Town", "house", "LGatesBent$House;", false)
def tyX6 : Nat → FieldType := fun k => match k with
  | 0 => .array (.object "GatesBent$Gate")
  | 1 => .array (.object "GatesBent$Comer")
  | 2 => .object "GatesBent$Rows"
  | 3 => .object "GatesBent$Rows"
  | 4 => .object "GatesBent$Rows"
  | 5 => .int
  | 6 => .int
  | _ => .object "GatesBent$House"
abbrev wsX60 : List Cond := u_ws RX6 TX6 8
theorem nmX6 : ∀ a, a < 8 → ∀ b, b < 8 → a ≠ b → (TX6 a).2.1 ≠ (TX6 b).2.1 := by decide +kernel
theorem tyX6_ok : ∀ k, k < 8 → parseFieldDescriptor (TX6 k).2.2.1 = some (tyX6 k) := by decide +kernel
abbrev cX6_init : ByteArray := prog_8_method_1_code
def yX6_init : MethodName := ⟨RX6, "<init>", "(LGatesBent$House;)V"⟩
abbrev cX6_become : ByteArray := prog_8_method_2_code
def yX6_become : MethodName := ⟨RX6, "become", "(LGatesBent$Town;)V"⟩
abbrev cX6_likeToWalk : ByteArray := prog_8_method_3_code
def yX6_likeToWalk : MethodName := ⟨RX6, "likeToWalk", "(LGatesBent$Comer;II)I"⟩
abbrev cX6_likeBySum : ByteArray := prog_8_method_4_code
def yX6_likeBySum : MethodName := ⟨RX6, "likeBySum", "(LGatesBent$Comer;II)I"⟩
abbrev cX6_marksNeeded : ByteArray := prog_8_method_5_code
def yX6_marksNeeded : MethodName := ⟨RX6, "marksNeeded", "(LGatesBent$Comer;I)I"⟩
abbrev cX6_letsBy : ByteArray := prog_8_method_6_code
def yX6_letsBy : MethodName := ⟨RX6, "letsBy", "(LGatesBent$Comer;I)Z"⟩
abbrev cX6_whoIsLet : ByteArray := prog_8_method_7_code
def yX6_whoIsLet : MethodName := ⟨RX6, "whoIsLet", "()I"⟩
abbrev cX6_passedTogether : ByteArray := prog_8_method_8_code
def yX6_passedTogether : MethodName := ⟨RX6, "passedTogether", "()I"⟩
abbrev cX6_goDays : ByteArray := prog_8_method_9_code
def yX6_goDays : MethodName := ⟨RX6, "goDays", "(I)V"⟩
abbrev cX6_spendDay : ByteArray := prog_8_method_10_code
def yX6_spendDay : MethodName := ⟨RX6, "spendDay", "(LGatesBent$Comer;)V"⟩
abbrev cX6_goByPlan : ByteArray := prog_8_method_11_code
def yX6_goByPlan : MethodName := ⟨RX6, "goByPlan", "()V"⟩
def RX7 : String := "GatesBent"
def TX7 : u_T := fun k => match k with
  | 0 => ("GatesBent", "now", "LGatesBent$Town;", true)
  | 1 => ("GatesBent", "kept", "LGatesBent$Town;", true)
  | 2 => ("GatesBent", "ahead", "LGatesBent$Town;", true)
  | 3 => ("GatesBent", "isImageTaken", "Z", false)
  | 4 => ("GatesBent", "reader", "LGatesBent$Reader;", true)
  | 5 => ("GatesBent", "houses", "[LGatesBent$House;", true)
  | 6 => ("GatesBent", "houseCount", "I", false)
  | 7 => ("GatesBent", "bodies", "[I", true)
  | 8 => ("GatesBent", "bodiesRun", "I", false)
  | 9 => ("GatesBent", "tapes", "[LGatesBent$Tape;", true)
  | 10 => ("GatesBent", "trial", "LGatesBent$Gate;", true)
  | 11 => ("GatesBent", "probe", "LGatesBent$Comer;", true)
  | 12 => ("GatesBent", "neededByComer", "[I", true)
  | _ => ("GatesBent", "neededByGate", "[I", true)
def tyX7 : Nat → FieldType := fun k => match k with
  | 0 => .object "GatesBent$Town"
  | 1 => .object "GatesBent$Town"
  | 2 => .object "GatesBent$Town"
  | 3 => .boolean
  | 4 => .object "GatesBent$Reader"
  | 5 => .array (.object "GatesBent$House")
  | 6 => .int
  | 7 => .array .int
  | 8 => .int
  | 9 => .array (.object "GatesBent$Tape")
  | 10 => .object "GatesBent$Gate"
  | 11 => .object "GatesBent$Comer"
  | 12 => .array .int
  | _ => .array .int
abbrev wsX70 : List Cond := u_ws RX7 TX7 14
theorem nmX7 : ∀ a, a < 14 → ∀ b, b < 14 → a ≠ b → (TX7 a).2.1 ≠ (TX7 b).2.1 := by decide +kernel
theorem tyX7_ok : ∀ k, k < 14 → parseFieldDescriptor (TX7 k).2.2.1 = some (tyX7 k) := by decide +kernel
abbrev cX7_init : ByteArray := prog_1_method_1_code
def yX7_init : MethodName := ⟨RX7, "<init>", "()V"⟩
abbrev cX7_alike : ByteArray := prog_1_method_2_code
def yX7_alike : MethodName := ⟨RX7, "alike", "(II)I"⟩
abbrev cX7_isIn : ByteArray := prog_1_method_3_code
def yX7_isIn : MethodName := ⟨RX7, "isIn", "(II)Z"⟩
abbrev cX7_isComer : ByteArray := prog_1_method_4_code
def yX7_isComer : MethodName := ⟨RX7, "isComer", "(I)Z"⟩
abbrev cX7_lowest : ByteArray := prog_1_method_5_code
def yX7_lowest : MethodName := ⟨RX7, "lowest", "(III)J"⟩
abbrev cX7_aheadBy : ByteArray := prog_1_method_6_code
def yX7_aheadBy : MethodName := ⟨RX7, "aheadBy", "(I)LGatesBent$Town;"⟩
abbrev cX7_comer : ByteArray := prog_1_method_7_code
def yX7_comer : MethodName := ⟨RX7, "comer", "(IIII)I"⟩
abbrev cX7_of : ByteArray := prog_1_method_8_code
def yX7_of : MethodName := ⟨RX7, "of", "(II)I"⟩
abbrev cX7_nearest : ByteArray := prog_1_method_9_code
def yX7_nearest : MethodName := ⟨RX7, "nearest", "(LGatesBent$Comer;I)I"⟩
abbrev cX7_daysUntilOut : ByteArray := prog_1_method_10_code
def yX7_daysUntilOut : MethodName := ⟨RX7, "daysUntilOut", "(I)I"⟩
abbrev cX7_set : ByteArray := prog_1_method_11_code
def yX7_set : MethodName := ⟨RX7, "set", "(III)I"⟩
abbrev cX7_like : ByteArray := prog_1_method_12_code
def yX7_like : MethodName := ⟨RX7, "like", "(III)I"⟩
abbrev cX7_teach : ByteArray := prog_1_method_13_code
def yX7_teach : MethodName := ⟨RX7, "teach", "(II)I"⟩
abbrev cX7_forget : ByteArray := prog_1_method_14_code
def yX7_forget : MethodName := ⟨RX7, "forget", "(I)I"⟩
abbrev cX7_row : ByteArray := prog_1_method_15_code
def yX7_row : MethodName := ⟨RX7, "row", "(III)I"⟩
abbrev cX7_feed : ByteArray := prog_1_method_16_code
def yX7_feed : MethodName := ⟨RX7, "feed", "(I)I"⟩
abbrev cX7_house : ByteArray := prog_1_method_17_code
def yX7_house : MethodName := ⟨RX7, "house", "()I"⟩
abbrev cX7_told : ByteArray := prog_1_method_18_code
def yX7_told : MethodName := ⟨RX7, "told", "(I)I"⟩
abbrev cX7_askNeededByComer : ByteArray := prog_1_method_19_code
def yX7_askNeededByComer : MethodName := ⟨RX7, "askNeededByComer", "(I)V"⟩
abbrev cX7_master : ByteArray := prog_1_method_20_code
def yX7_master : MethodName := ⟨RX7, "master", "(I)I"⟩
abbrev cX7_letByWalkAlone : ByteArray := prog_1_method_21_code
def yX7_letByWalkAlone : MethodName := ⟨RX7, "letByWalkAlone", "(I)I"⟩
abbrev cX7_pass : ByteArray := prog_1_method_22_code
def yX7_pass : MethodName := ⟨RX7, "pass", "(I)I"⟩
abbrev cX7_on : ByteArray := prog_1_method_23_code
def yX7_on : MethodName := ⟨RX7, "on", "(II)I"⟩
abbrev cX7_lessons : ByteArray := prog_1_method_24_code
def yX7_lessons : MethodName := ⟨RX7, "lessons", "(III)I"⟩
abbrev cX7_bestLessons : ByteArray := prog_1_method_25_code
def yX7_bestLessons : MethodName := ⟨RX7, "bestLessons", "(II)I"⟩
abbrev cX7_pupil : ByteArray := prog_1_method_26_code
def yX7_pupil : MethodName := ⟨RX7, "pupil", "(III)I"⟩
abbrev cX7_letByLessons : ByteArray := prog_1_method_27_code
def yX7_letByLessons : MethodName := ⟨RX7, "letByLessons", "(III)I"⟩
abbrev cX7_feign : ByteArray := prog_1_method_28_code
def yX7_feign : MethodName := ⟨RX7, "feign", "(III)I"⟩
abbrev cX7_see : ByteArray := prog_1_method_29_code
def yX7_see : MethodName := ⟨RX7, "see", "(IIZ)I"⟩
abbrev cX7_wrong : ByteArray := prog_1_method_30_code
def yX7_wrong : MethodName := ⟨RX7, "wrong", "()I"⟩
abbrev cX7_can : ByteArray := prog_1_method_31_code
def yX7_can : MethodName := ⟨RX7, "can", "(III)I"⟩
abbrev cX7_walksBySeen : ByteArray := prog_1_method_32_code
def yX7_walksBySeen : MethodName := ⟨RX7, "walksBySeen", "(II)I"⟩
abbrev cX7_numbersBySeen : ByteArray := prog_1_method_33_code
def yX7_numbersBySeen : MethodName := ⟨RX7, "numbersBySeen", "(II)I"⟩
abbrev cX7_askNeededByGate : ByteArray := prog_1_method_34_code
def yX7_askNeededByGate : MethodName := ⟨RX7, "askNeededByGate", "()V"⟩
abbrev cX7_isAllSeenSo : ByteArray := prog_1_method_35_code
def yX7_isAllSeenSo : MethodName := ⟨RX7, "isAllSeenSo", "()Z"⟩
abbrev cX7_odds : ByteArray := prog_1_method_36_code
def yX7_odds : MethodName := ⟨RX7, "odds", "(III)J"⟩
abbrev cX7_mean : ByteArray := prog_1_method_37_code
def yX7_mean : MethodName := ⟨RX7, "mean", "(II)J"⟩
abbrev cX7_plan : ByteArray := prog_1_method_38_code
def yX7_plan : MethodName := ⟨RX7, "plan", "(II)I"⟩
abbrev cX7_isInPlan : ByteArray := prog_1_method_39_code
def yX7_isInPlan : MethodName := ⟨RX7, "isInPlan", "(II)Z"⟩
abbrev cX7_ends : ByteArray := prog_1_method_40_code
def yX7_ends : MethodName := ⟨RX7, "ends", "(I)I"⟩
abbrev cX7_book : ByteArray := prog_1_method_41_code
def yX7_book : MethodName := ⟨RX7, "book", "(II)I"⟩
abbrev cX7_looked : ByteArray := prog_1_method_42_code
def yX7_looked : MethodName := ⟨RX7, "looked", "()I"⟩
abbrev cX7_judge : ByteArray := prog_1_method_43_code
def yX7_judge : MethodName := ⟨RX7, "judge", "(II)I"⟩
abbrev cX7_image : ByteArray := prog_1_method_44_code
def yX7_image : MethodName := ⟨RX7, "image", "()I"⟩
abbrev cX7_undo : ByteArray := prog_1_method_45_code
def yX7_undo : MethodName := ⟨RX7, "undo", "()I"⟩
abbrev cX7_act : ByteArray := prog_1_method_46_code
def yX7_act : MethodName := ⟨RX7, "act", "(III)I"⟩
abbrev cX7_startBody : ByteArray := prog_1_method_47_code
def yX7_startBody : MethodName := ⟨RX7, "startBody", "(I)V"⟩
abbrev cX7_walks : ByteArray := prog_1_method_48_code
def yX7_walks : MethodName := ⟨RX7, "walks", "(LGatesBent$Comer;III)I"⟩
abbrev cX7_knocks : ByteArray := prog_1_method_49_code
def yX7_knocks : MethodName := ⟨RX7, "knocks", "(LGatesBent$Comer;III)I"⟩
abbrev cX7_tells : ByteArray := prog_1_method_50_code
def yX7_tells : MethodName := ⟨RX7, "tells", "(LGatesBent$Comer;III)I"⟩
abbrev cX7_trace : ByteArray := prog_1_method_51_code
def yX7_trace : MethodName := ⟨RX7, "trace", "(I)I"⟩
abbrev cX7_taken : ByteArray := prog_1_method_52_code
def yX7_taken : MethodName := ⟨RX7, "taken", "(II)I"⟩
abbrev cX7_kindAbove : ByteArray := prog_1_method_53_code
def yX7_kindAbove : MethodName := ⟨RX7, "kindAbove", "(I)I"⟩
abbrev cX7_count : ByteArray := prog_1_method_54_code
def yX7_count : MethodName := ⟨RX7, "count", "(I)I"⟩
abbrev cX7_tape : ByteArray := prog_1_method_55_code
def yX7_tape : MethodName := ⟨RX7, "tape", "(III)I"⟩
abbrev cX7_item : ByteArray := prog_1_method_56_code
def yX7_item : MethodName := ⟨RX7, "item", "(IIJ)I"⟩
abbrev cX7_read : ByteArray := prog_1_method_57_code
def yX7_read : MethodName := ⟨RX7, "read", "(II)J"⟩
abbrev cX7_shift : ByteArray := prog_1_method_58_code
def yX7_shift : MethodName := ⟨RX7, "shift", "(IIIII)I"⟩
def RX8 : String := "GatesBentModel"
def TX8 : u_T := fun k => match k with
  | 0 => ("GatesBentModel", "now", "[I", true)
  | 1 => ("GatesBentModel", "minds", "[I", true)
  | 2 => ("GatesBentModel", "then", "[I", true)
  | 3 => ("GatesBentModel", "kept", "Z", false)
  | 4 => ("GatesBentModel", "text", "[I", true)
  | 5 => ("GatesBentModel", "texted", "I", false)
  | 6 => ("GatesBentModel", "rules", "[I", true)
  | 7 => ("GatesBentModel", "sizes", "[I", true)
  | 8 => ("GatesBentModel", "ruled", "I", false)
  | 9 => ("GatesBentModel", "read", "[I", true)
  | 10 => ("GatesBentModel", "size", "I", false)
  | 11 => ("GatesBentModel", "at", "I", false)
  | 12 => ("GatesBentModel", "well", "Z", false)
  | 13 => ("GatesBentModel", "within", "I", false)
  | 14 => ("GatesBentModel", "sum", "I", false)
  | 15 => ("GatesBentModel", "need", "I", false)
  | 16 => ("GatesBentModel", "age", "I", false)
  | 17 => ("GatesBentModel", "names", "[I", true)
  | 18 => ("GatesBentModel", "letters", "[C", true)
  | 19 => ("GatesBentModel", "words", "[C", true)
  | 20 => ("GatesBentModel", "given", "[I", true)
  | 21 => ("GatesBentModel", "best", "[I", true)
  | 22 => ("GatesBentModel", "most", "I", false)
  | 23 => ("GatesBentModel", "helped", "[I", true)
  | 24 => ("GatesBentModel", "above", "[I", true)
  | 25 => ("GatesBentModel", "bodies", "[I", true)
  | 26 => ("GatesBentModel", "trace", "[I", true)
  | 27 => ("GatesBentModel", "ran", "I", false)
  | 28 => ("GatesBentModel", "sorts", "[I", true)
  | 29 => ("GatesBentModel", "lengths", "[I", true)
  | 30 => ("GatesBentModel", "items", "[J", true)
  | _ => ("GatesBentModel", "moved", "[J", true)
def tyX8 : Nat → FieldType := fun k => match k with
  | 0 => .array .int
  | 1 => .array .int
  | 2 => .array .int
  | 3 => .boolean
  | 4 => .array .int
  | 5 => .int
  | 6 => .array .int
  | 7 => .array .int
  | 8 => .int
  | 9 => .array .int
  | 10 => .int
  | 11 => .int
  | 12 => .boolean
  | 13 => .int
  | 14 => .int
  | 15 => .int
  | 16 => .int
  | 17 => .array .int
  | 18 => .array .char
  | 19 => .array .char
  | 20 => .array .int
  | 21 => .array .int
  | 22 => .int
  | 23 => .array .int
  | 24 => .array .int
  | 25 => .array .int
  | 26 => .array .int
  | 27 => .int
  | 28 => .array .int
  | 29 => .array .int
  | 30 => .array .long
  | _ => .array .long
abbrev wsX80 : List Cond := u_ws RX8 TX8 32
theorem nmX8 : ∀ a, a < 32 → ∀ b, b < 32 → a ≠ b → (TX8 a).2.1 ≠ (TX8 b).2.1 := by decide +kernel
theorem tyX8_ok : ∀ k, k < 32 → parseFieldDescriptor (TX8 k).2.2.1 = some (tyX8 k) := by decide +kernel
abbrev cX8_init : ByteArray := prog_10_method_1_code
def yX8_init : MethodName := ⟨RX8, "<init>", "()V"⟩
abbrev cX8_isIn : ByteArray := prog_10_method_2_code
def yX8_isIn : MethodName := ⟨RX8, "isIn", "(III)Z"⟩
abbrev cX8_keep : ByteArray := prog_10_method_3_code
def yX8_keep : MethodName := ⟨RX8, "keep", "(I)V"⟩
abbrev cX8_lay : ByteArray := prog_10_method_4_code
def yX8_lay : MethodName := ⟨RX8, "lay", "(I)V"⟩
abbrev cX8_image : ByteArray := prog_10_method_5_code
def yX8_image : MethodName := ⟨RX8, "image", "()I"⟩
abbrev cX8_undo : ByteArray := prog_10_method_6_code
def yX8_undo : MethodName := ⟨RX8, "undo", "()I"⟩
abbrev cX8_isComer : ByteArray := prog_10_method_7_code
def yX8_isComer : MethodName := ⟨RX8, "isComer", "(I)Z"⟩
abbrev cX8_isGate : ByteArray := prog_10_method_8_code
def yX8_isGate : MethodName := ⟨RX8, "isGate", "(I)Z"⟩
abbrev cX8_one : ByteArray := prog_10_method_9_code
def yX8_one : MethodName := ⟨RX8, "one", "(II)I"⟩
abbrev cX8_change : ByteArray := prog_10_method_10_code
def yX8_change : MethodName := ⟨RX8, "change", "(III)I"⟩
abbrev cX8_known : ByteArray := prog_10_method_11_code
def yX8_known : MethodName := ⟨RX8, "known", "(I)I"⟩
abbrev cX8_walkAt : ByteArray := prog_10_method_12_code
def yX8_walkAt : MethodName := ⟨RX8, "walkAt", "(II)I"⟩
abbrev cX8_many : ByteArray := prog_10_method_13_code
def yX8_many : MethodName := ⟨RX8, "many", "(I)I"⟩
abbrev cX8_comer : ByteArray := prog_10_method_14_code
def yX8_comer : MethodName := ⟨RX8, "comer", "(IIII)I"⟩
abbrev cX8_of : ByteArray := prog_10_method_15_code
def yX8_of : MethodName := ⟨RX8, "of", "(II)I"⟩
abbrev cX8_set : ByteArray := prog_10_method_16_code
def yX8_set : MethodName := ⟨RX8, "set", "(III)I"⟩
abbrev cX8_like : ByteArray := prog_10_method_17_code
def yX8_like : MethodName := ⟨RX8, "like", "(III)I"⟩
abbrev cX8_forget : ByteArray := prog_10_method_18_code
def yX8_forget : MethodName := ⟨RX8, "forget", "(I)I"⟩
abbrev cX8_row : ByteArray := prog_10_method_19_code
def yX8_row : MethodName := ⟨RX8, "row", "(III)I"⟩
abbrev cX8_feed : ByteArray := prog_10_method_20_code
def yX8_feed : MethodName := ⟨RX8, "feed", "(I)I"⟩
abbrev cX8_isAt : ByteArray := prog_10_method_21_code
def yX8_isAt : MethodName := ⟨RX8, "isAt", "(I)Z"⟩
abbrev cX8_takes : ByteArray := prog_10_method_22_code
def yX8_takes : MethodName := ⟨RX8, "takes", "(I)V"⟩
abbrev cX8_isDigit : ByteArray := prog_10_method_23_code
def yX8_isDigit : MethodName := ⟨RX8, "isDigit", "()Z"⟩
abbrev cX8_number : ByteArray := prog_10_method_24_code
def yX8_number : MethodName := ⟨RX8, "number", "()I"⟩
abbrev cX8_test : ByteArray := prog_10_method_25_code
def yX8_test : MethodName := ⟨RX8, "test", "()Z"⟩
abbrev cX8_factor : ByteArray := prog_10_method_26_code
def yX8_factor : MethodName := ⟨RX8, "factor", "()Z"⟩
abbrev cX8_both : ByteArray := prog_10_method_27_code
def yX8_both : MethodName := ⟨RX8, "both", "()Z"⟩
abbrev cX8_any : ByteArray := prog_10_method_28_code
def yX8_any : MethodName := ⟨RX8, "any", "()Z"⟩
abbrev cX8_clause : ByteArray := prog_10_method_29_code
def yX8_clause : MethodName := ⟨RX8, "clause", "()V"⟩
abbrev cX8_readAll : ByteArray := prog_10_method_30_code
def yX8_readAll : MethodName := ⟨RX8, "readAll", "()Z"⟩
abbrev cX8_readFor : ByteArray := prog_10_method_31_code
def yX8_readFor : MethodName := ⟨RX8, "readFor", "(II)V"⟩
abbrev cX8_house : ByteArray := prog_10_method_32_code
def yX8_house : MethodName := ⟨RX8, "house", "()I"⟩
abbrev cX8_helps : ByteArray := prog_10_method_33_code
def yX8_helps : MethodName := ⟨RX8, "helps", "(II)I"⟩
abbrev cX8_needNow : ByteArray := prog_10_method_34_code
def yX8_needNow : MethodName := ⟨RX8, "needNow", "()I"⟩
abbrev cX8_ageNow : ByteArray := prog_10_method_35_code
def yX8_ageNow : MethodName := ⟨RX8, "ageNow", "()I"⟩
abbrev cX8_likeTo : ByteArray := prog_10_method_36_code
def yX8_likeTo : MethodName := ⟨RX8, "likeTo", "(IIII)I"⟩
abbrev cX8_lets : ByteArray := prog_10_method_37_code
def yX8_lets : MethodName := ⟨RX8, "lets", "(II)Z"⟩
abbrev cX8_isBy : ByteArray := prog_10_method_38_code
def yX8_isBy : MethodName := ⟨RX8, "isBy", "(I)Z"⟩
abbrev cX8_nearest : ByteArray := prog_10_method_39_code
def yX8_nearest : MethodName := ⟨RX8, "nearest", "(II)I"⟩
abbrev cX8_bys : ByteArray := prog_10_method_40_code
def yX8_bys : MethodName := ⟨RX8, "bys", "()I"⟩
abbrev cX8_passes : ByteArray := prog_10_method_41_code
def yX8_passes : MethodName := ⟨RX8, "passes", "()I"⟩
abbrev cX8_taught : ByteArray := prog_10_method_42_code
def yX8_taught : MethodName := ⟨RX8, "taught", "(II)I"⟩
abbrev cX8_teach : ByteArray := prog_10_method_43_code
def yX8_teach : MethodName := ⟨RX8, "teach", "(II)I"⟩
abbrev cX8_day : ByteArray := prog_10_method_44_code
def yX8_day : MethodName := ⟨RX8, "day", "()V"⟩
abbrev cX8_days : ByteArray := prog_10_method_45_code
def yX8_days : MethodName := ⟨RX8, "days", "(I)V"⟩
abbrev cX8_out : ByteArray := prog_10_method_46_code
def yX8_out : MethodName := ⟨RX8, "out", "(I)I"⟩
abbrev cX8_told : ByteArray := prog_10_method_47_code
def yX8_told : MethodName := ⟨RX8, "told", "(I)I"⟩
abbrev cX8_pass : ByteArray := prog_10_method_48_code
def yX8_pass : MethodName := ⟨RX8, "pass", "(I)I"⟩
abbrev cX8_on : ByteArray := prog_10_method_49_code
def yX8_on : MethodName := ⟨RX8, "on", "(II)I"⟩
abbrev cX8_letsAll : ByteArray := prog_10_method_50_code
def yX8_letsAll : MethodName := ⟨RX8, "letsAll", "(I)I"⟩
abbrev cX8_learn : ByteArray := prog_10_method_51_code
def yX8_learn : MethodName := ⟨RX8, "learn", "(III)V"⟩
abbrev cX8_lessons : ByteArray := prog_10_method_52_code
def yX8_lessons : MethodName := ⟨RX8, "lessons", "(III)I"⟩
abbrev cX8_master : ByteArray := prog_10_method_53_code
def yX8_master : MethodName := ⟨RX8, "master", "(IZ)I"⟩
abbrev cX8_feign : ByteArray := prog_10_method_54_code
def yX8_feign : MethodName := ⟨RX8, "feign", "(III)I"⟩
abbrev cX8_see : ByteArray := prog_10_method_55_code
def yX8_see : MethodName := ⟨RX8, "see", "(IIZ)I"⟩
abbrev cX8_isSo : ByteArray := prog_10_method_56_code
def yX8_isSo : MethodName := ⟨RX8, "isSo", "(I)Z"⟩
abbrev cX8_wrong : ByteArray := prog_10_method_57_code
def yX8_wrong : MethodName := ⟨RX8, "wrong", "()I"⟩
abbrev cX8_isAllSo : ByteArray := prog_10_method_58_code
def yX8_isAllSo : MethodName := ⟨RX8, "isAllSo", "(I)Z"⟩
abbrev cX8_can : ByteArray := prog_10_method_59_code
def yX8_can : MethodName := ⟨RX8, "can", "(III)I"⟩
abbrev cX8_fraction : ByteArray := prog_10_method_60_code
def yX8_fraction : MethodName := ⟨RX8, "fraction", "(JJI)J"⟩
abbrev cX8_odds : ByteArray := prog_10_method_61_code
def yX8_odds : MethodName := ⟨RX8, "odds", "(III)J"⟩
abbrev cX8_mean : ByteArray := prog_10_method_62_code
def yX8_mean : MethodName := ⟨RX8, "mean", "(II)J"⟩
abbrev cX8_plan : ByteArray := prog_10_method_63_code
def yX8_plan : MethodName := ⟨RX8, "plan", "(II)I"⟩
abbrev cX8_ends : ByteArray := prog_10_method_64_code
def yX8_ends : MethodName := ⟨RX8, "ends", "(I)I"⟩
abbrev cX8_book : ByteArray := prog_10_method_65_code
def yX8_book : MethodName := ⟨RX8, "book", "(II)I"⟩
abbrev cX8_looked : ByteArray := prog_10_method_66_code
def yX8_looked : MethodName := ⟨RX8, "looked", "()I"⟩
abbrev cX8_body : ByteArray := prog_10_method_67_code
def yX8_body : MethodName := ⟨RX8, "body", "(I)I"⟩
abbrev cX8_all : ByteArray := prog_10_method_68_code
def yX8_all : MethodName := ⟨RX8, "all", "(III)I"⟩
abbrev cX8_byKind : ByteArray := prog_10_method_69_code
def yX8_byKind : MethodName := ⟨RX8, "byKind", "(IIII)I"⟩
abbrev cX8_act : ByteArray := prog_10_method_70_code
def yX8_act : MethodName := ⟨RX8, "act", "(III)I"⟩
abbrev cX8_trace : ByteArray := prog_10_method_71_code
def yX8_trace : MethodName := ⟨RX8, "trace", "(I)I"⟩
abbrev cX8_taken : ByteArray := prog_10_method_72_code
def yX8_taken : MethodName := ⟨RX8, "taken", "(II)I"⟩
abbrev cX8_count : ByteArray := prog_10_method_73_code
def yX8_count : MethodName := ⟨RX8, "count", "(I)I"⟩
abbrev cX8_isTape : ByteArray := prog_10_method_74_code
def yX8_isTape : MethodName := ⟨RX8, "isTape", "(I)Z"⟩
abbrev cX8_tape : ByteArray := prog_10_method_75_code
def yX8_tape : MethodName := ⟨RX8, "tape", "(III)I"⟩
abbrev cX8_item : ByteArray := prog_10_method_76_code
def yX8_item : MethodName := ⟨RX8, "item", "(IIJ)I"⟩
abbrev cX8_read : ByteArray := prog_10_method_77_code
def yX8_read : MethodName := ⟨RX8, "read", "(II)J"⟩
abbrev cX8_shift : ByteArray := prog_10_method_78_code
def yX8_shift : MethodName := ⟨RX8, "shift", "(IIIII)I"⟩
abbrev cX8_judge : ByteArray := prog_10_method_79_code
def yX8_judge : MethodName := ⟨RX8, "judge", "(II)I"⟩
def RJ6 : String := "java/lang/Integer"
def TJ6 : u_T := fun k => match k with
  | _ => ("", "", "", false)
def tyJ6 : Nat → FieldType := fun k => match k with
  | _ => .int
abbrev wsJ60 : List Cond := u_ws RJ6 TJ6 0
theorem nmJ6 : ∀ a, a < 0 → ∀ b, b < 0 → a ≠ b → (TJ6 a).2.1 ≠ (TJ6 b).2.1 := by decide +kernel
theorem tyJ6_ok : ∀ k, k < 0 → parseFieldDescriptor (TJ6 k).2.2.1 = some (tyJ6 k) := by decide +kernel
abbrev cJ6_bitCount_0f7a4 : ByteArray := prog_11_method_49_code
def yJ6_bitCount_0f7a4 : MethodName := ⟨RJ6, "bitCount", "(I)I"⟩
def RJ9 : String := "java/lang/Math"
def TJ9 : u_T := fun k => match k with
  | _ => ("", "", "", false)
def tyJ9 : Nat → FieldType := fun k => match k with
  | _ => .int
abbrev wsJ90 : List Cond := u_ws RJ9 TJ9 0
theorem nmJ9 : ∀ a, a < 0 → ∀ b, b < 0 → a ≠ b → (TJ9 a).2.1 ≠ (TJ9 b).2.1 := by decide +kernel
theorem tyJ9_ok : ∀ k, k < 0 → parseFieldDescriptor (TJ9 k).2.2.1 = some (tyJ9 k) := by decide +kernel
abbrev cJ9_max_7cf53 : ByteArray := prog_12_method_65_code
def yJ9_max_7cf53 : MethodName := ⟨RJ9, "max", "(II)I"⟩
abbrev cJ9_min_7cf53 : ByteArray := prog_12_method_69_code
def yJ9_min_7cf53 : MethodName := ⟨RJ9, "min", "(II)I"⟩
def RJ0 : String := "java/lang/String"
def TJ0 : u_T := fun k => match k with
  | _ => ("", "", "", false)
def tyJ0 : Nat → FieldType := fun k => match k with
  | _ => .int
abbrev wsJ00 : List Cond := u_ws RJ0 TJ0 0
theorem nmJ0 : ∀ a, a < 0 → ∀ b, b < 0 → a ≠ b → (TJ0 a).2.1 ≠ (TJ0 b).2.1 := by decide +kernel
theorem tyJ0_ok : ∀ k, k < 0 → parseFieldDescriptor (TJ0 k).2.2.1 = some (tyJ0 k) := by decide +kernel
abbrev cJ0_length_8abf5 : ByteArray := prog_13_method_54_code
def yJ0_length_8abf5 : MethodName := ⟨RJ0, "length", "()I"⟩
abbrev cJ0_charAt_5068e : ByteArray := prog_13_method_56_code
def yJ0_charAt_5068e : MethodName := ⟨RJ0, "charAt", "(I)C"⟩
abbrev cJ0_coder_7d493 : ByteArray := prog_13_method_152_code
def yJ0_coder_7d493 : MethodName := ⟨RJ0, "coder", "()B"⟩
abbrev cJ0_isLatin1_aae02 : ByteArray := prog_13_method_154_code
def yJ0_isLatin1_aae02 : MethodName := ⟨RJ0, "isLatin1", "()Z"⟩
abbrev cJ0_checkIndex_df160 : ByteArray := prog_13_method_155_code
def yJ0_checkIndex_df160 : MethodName := ⟨RJ0, "checkIndex", "(II)V"⟩
def RJ1 : String := "java/lang/StringLatin1"
def TJ1 : u_T := fun k => match k with
  | _ => ("", "", "", false)
def tyJ1 : Nat → FieldType := fun k => match k with
  | _ => .int
abbrev wsJ10 : List Cond := u_ws RJ1 TJ1 0
theorem nmJ1 : ∀ a, a < 0 → ∀ b, b < 0 → a ≠ b → (TJ1 a).2.1 ≠ (TJ1 b).2.1 := by decide +kernel
theorem tyJ1_ok : ∀ k, k < 0 → parseFieldDescriptor (TJ1 k).2.2.1 = some (tyJ1 k) := by decide +kernel
abbrev cJ1_charAt_3b067 : ByteArray := prog_14_method_2_code
def yJ1_charAt_3b067 : MethodName := ⟨RJ1, "charAt", "([BI)C"⟩
def RJ2 : String := "java/lang/StringUTF16"
def TJ2 : u_T := fun k => match k with
  | _ => ("", "", "", false)
def tyJ2 : Nat → FieldType := fun k => match k with
  | _ => .int
abbrev wsJ20 : List Cond := u_ws RJ2 TJ2 0
theorem nmJ2 : ∀ a, a < 0 → ∀ b, b < 0 → a ≠ b → (TJ2 a).2.1 ≠ (TJ2 b).2.1 := by decide +kernel
theorem tyJ2_ok : ∀ k, k < 0 → parseFieldDescriptor (TJ2 k).2.2.1 = some (tyJ2 k) := by decide +kernel
abbrev cJ2_getChar_3b067 : ByteArray := prog_15_method_5_code
def yJ2_getChar_3b067 : MethodName := ⟨RJ2, "getChar", "([BI)C"⟩
abbrev cJ2_length_9d52b : ByteArray := prog_15_method_6_code
def yJ2_length_9d52b : MethodName := ⟨RJ2, "length", "([B)I"⟩
abbrev cJ2_charAt_3b067 : ByteArray := prog_15_method_83_code
def yJ2_charAt_3b067 : MethodName := ⟨RJ2, "charAt", "([BI)C"⟩
abbrev cJ2_checkIndex_2214a : ByteArray := prog_15_method_91_code
def yJ2_checkIndex_2214a : MethodName := ⟨RJ2, "checkIndex", "(I[B)V"⟩
def RJ10 : String := "java/lang/System"
def TJ10 : u_T := fun k => match k with
  | _ => ("", "", "", false)
def tyJ10 : Nat → FieldType := fun k => match k with
  | _ => .int
abbrev wsJ100 : List Cond := u_ws RJ10 TJ10 0
theorem nmJ10 : ∀ a, a < 0 → ∀ b, b < 0 → a ≠ b → (TJ10 a).2.1 ≠ (TJ10 b).2.1 := by decide +kernel
theorem tyJ10_ok : ∀ k, k < 0 → parseFieldDescriptor (TJ10 k).2.2.1 = some (tyJ10 k) := by decide +kernel
def RJ3 : String := "jdk/internal/util/Preconditions"
def TJ3 : u_T := fun k => match k with
  | _ => ("", "", "", false)
def tyJ3 : Nat → FieldType := fun k => match k with
  | _ => .int
abbrev wsJ30 : List Cond := u_ws RJ3 TJ3 0
theorem nmJ3 : ∀ a, a < 0 → ∀ b, b < 0 → a ≠ b → (TJ3 a).2.1 ≠ (TJ3 b).2.1 := by decide +kernel
theorem tyJ3_ok : ∀ k, k < 0 → parseFieldDescriptor (TJ3 k).2.2.1 = some (tyJ3 k) := by decide +kernel
abbrev cJ3_checkIndex_8e157 : ByteArray := prog_17_method_11_code
def yJ3_checkIndex_8e157 : MethodName := ⟨RJ3, "checkIndex", "(IILjava/util/function/BiFunction;)I"⟩
def RL : String := "GatesBentLaw"
abbrev cL_law : ByteArray := code
def yL_law : MethodName := ⟨RL, "law", "([I)Z"⟩
abbrev vwCl : List vw_C := [(RX0, TX0, 8), (RX1, TX1, 2), (RX2, TX2, 5), (RX3, TX3, 4), (RX4, TX4, 4), (RX5, TX5, 3), (RX6, TX6, 8), (RX7, TX7, 14), (RX8, TX8, 32)]
/-- the words that every method is given: those of the tables that hold under way -/
def wA : List Cond := lw_tbl.filter goodWord
theorem wA_of {w : Cond} (h : w ∈ lw_tbl) (g : goodWord w = true) : w ∈ wA := List.mem_filter.mpr ⟨h, g⟩
theorem wA_in {w : Cond} (h : w ∈ wA) : w ∈ lw_tbl := (List.mem_filter.mp h).1
theorem wA_good {w : Cond} (h : w ∈ wA) : goodWord w = true := (List.mem_filter.mp h).2
theorem wA_gi {ws : List Cond} (h : ∀ w ∈ ws, w ∈ wA) : GoodIn wA ws := fun w hw => ⟨h w hw, good_of_word (wA_good (h w hw))⟩
end
section
theorem tb0 : ∀ w ∈ k2_sels lw_privs, w ∈ lw_tbl := fun w h => List.mem_append_left _ h
theorem tb1 : ∀ w ∈ tables_1_1, w ∈ lw_tbl := fun w h => List.mem_append_right _ (List.mem_append_left _ h)
theorem tb2 : ∀ w ∈ tables_1_2, w ∈ lw_tbl := fun w h => List.mem_append_right _ (List.mem_append_right _ (List.mem_append_left _ h))
theorem tb3 : ∀ w ∈ tables_1_3, w ∈ lw_tbl := fun w h => List.mem_append_right _ (List.mem_append_right _ (List.mem_append_right _ (List.mem_append_left _ h)))
theorem tb4 : ∀ w ∈ tables_1_4, w ∈ lw_tbl := fun w h => List.mem_append_right _ (List.mem_append_right _ (List.mem_append_right _ (List.mem_append_right _ (List.mem_append_left _ h))))
theorem tb5 : ∀ w ∈ tables_1_5, w ∈ lw_tbl := fun w h => List.mem_append_right _ (List.mem_append_right _ (List.mem_append_right _ (List.mem_append_right _ (List.mem_append_right _ h))))
theorem kw_0 : Cond.selects "GatesBent" yX7_isComer yX7_isComer ∈ wA := wA_of (tb0 _ (List.mem_of_getElem? (i := 0) rfl)) rfl
theorem kw_1 : Cond.selects "GatesBent$Town" yX6_likeBySum yX6_likeBySum ∈ wA := wA_of (tb0 _ (List.mem_of_getElem? (i := 1) rfl)) rfl
theorem kw_2 : Cond.selects "GatesBent" yX7_nearest yX7_nearest ∈ wA := wA_of (tb0 _ (List.mem_of_getElem? (i := 2) rfl)) rfl
theorem kw_3 : Cond.selects "GatesBent" yX7_daysUntilOut yX7_daysUntilOut ∈ wA := wA_of (tb0 _ (List.mem_of_getElem? (i := 3) rfl)) rfl
theorem kw_4 : Cond.selects "GatesBent$Gate" yX1_leastAlike yX1_leastAlike ∈ wA := wA_of (tb0 _ (List.mem_of_getElem? (i := 4) rfl)) rfl
theorem kw_5 : Cond.selects "GatesBent$Reader" yX3_readClause yX3_readClause ∈ wA := wA_of (tb0 _ (List.mem_of_getElem? (i := 5) rfl)) rfl
theorem kw_6 : Cond.selects "GatesBent$Reader" yX3_readWord yX3_readWord ∈ wA := wA_of (tb0 _ (List.mem_of_getElem? (i := 6) rfl)) rfl
theorem kw_7 : Cond.selects "GatesBent$Reader" yX3_sameSigns yX3_sameSigns ∈ wA := wA_of (tb0 _ (List.mem_of_getElem? (i := 7) rfl)) rfl
theorem kw_8 : Cond.selects "GatesBent$Reader" yX3_readSign yX3_readSign ∈ wA := wA_of (tb0 _ (List.mem_of_getElem? (i := 8) rfl)) rfl
theorem kw_9 : Cond.selects "GatesBent$Reader" yX3_signAt yX3_signAt ∈ wA := wA_of (tb0 _ (List.mem_of_getElem? (i := 9) rfl)) rfl
theorem kw_10 : Cond.selects "GatesBent$Reader" yX3_readNumber yX3_readNumber ∈ wA := wA_of (tb0 _ (List.mem_of_getElem? (i := 10) rfl)) rfl
theorem kw_11 : Cond.selects "GatesBent$Reader" yX3_readEither yX3_readEither ∈ wA := wA_of (tb0 _ (List.mem_of_getElem? (i := 11) rfl)) rfl
theorem kw_12 : Cond.selects "GatesBent$Reader" yX3_readFactor yX3_readFactor ∈ wA := wA_of (tb0 _ (List.mem_of_getElem? (i := 12) rfl)) rfl
theorem kw_13 : Cond.selects "GatesBent$Reader" yX3_readTest yX3_readTest ∈ wA := wA_of (tb0 _ (List.mem_of_getElem? (i := 13) rfl)) rfl
theorem kw_14 : Cond.selects "GatesBent$Reader" yX3_readOneOf yX3_readOneOf ∈ wA := wA_of (tb0 _ (List.mem_of_getElem? (i := 14) rfl)) rfl
theorem kw_15 : Cond.selects "GatesBent" yX7_master yX7_master ∈ wA := wA_of (tb0 _ (List.mem_of_getElem? (i := 15) rfl)) rfl
theorem kw_16 : Cond.selects "GatesBent" yX7_askNeededByComer yX7_askNeededByComer ∈ wA := wA_of (tb0 _ (List.mem_of_getElem? (i := 16) rfl)) rfl
theorem kw_17 : Cond.selects "GatesBent" yX7_letByWalkAlone yX7_letByWalkAlone ∈ wA := wA_of (tb0 _ (List.mem_of_getElem? (i := 17) rfl)) rfl
theorem kw_18 : Cond.selects "GatesBent" yX7_aheadBy yX7_aheadBy ∈ wA := wA_of (tb0 _ (List.mem_of_getElem? (i := 18) rfl)) rfl
theorem kw_19 : Cond.selects "GatesBent" yX7_bestLessons yX7_bestLessons ∈ wA := wA_of (tb0 _ (List.mem_of_getElem? (i := 19) rfl)) rfl
theorem kw_20 : Cond.selects "GatesBent" yX7_letByLessons yX7_letByLessons ∈ wA := wA_of (tb0 _ (List.mem_of_getElem? (i := 20) rfl)) rfl
theorem kw_21 : Cond.selects "GatesBent" yX7_pupil yX7_pupil ∈ wA := wA_of (tb0 _ (List.mem_of_getElem? (i := 21) rfl)) rfl
theorem kw_22 : Cond.selects "GatesBent" yX7_walksBySeen yX7_walksBySeen ∈ wA := wA_of (tb0 _ (List.mem_of_getElem? (i := 22) rfl)) rfl
theorem kw_23 : Cond.selects "GatesBent" yX7_askNeededByGate yX7_askNeededByGate ∈ wA := wA_of (tb0 _ (List.mem_of_getElem? (i := 23) rfl)) rfl
theorem kw_24 : Cond.selects "GatesBent" yX7_isAllSeenSo yX7_isAllSeenSo ∈ wA := wA_of (tb0 _ (List.mem_of_getElem? (i := 24) rfl)) rfl
theorem kw_25 : Cond.selects "GatesBent" yX7_numbersBySeen yX7_numbersBySeen ∈ wA := wA_of (tb0 _ (List.mem_of_getElem? (i := 25) rfl)) rfl
theorem kw_26 : Cond.selects "GatesBent" yX7_isInPlan yX7_isInPlan ∈ wA := wA_of (tb0 _ (List.mem_of_getElem? (i := 26) rfl)) rfl
theorem kw_27 : Cond.selects "GatesBent" yX7_walks yX7_walks ∈ wA := wA_of (tb0 _ (List.mem_of_getElem? (i := 27) rfl)) rfl
theorem kw_28 : Cond.selects "GatesBent" yX7_startBody yX7_startBody ∈ wA := wA_of (tb0 _ (List.mem_of_getElem? (i := 28) rfl)) rfl
theorem kw_29 : Cond.selects "GatesBent" yX7_knocks yX7_knocks ∈ wA := wA_of (tb0 _ (List.mem_of_getElem? (i := 29) rfl)) rfl
theorem kw_30 : Cond.selects "GatesBent" yX7_tells yX7_tells ∈ wA := wA_of (tb0 _ (List.mem_of_getElem? (i := 30) rfl)) rfl
theorem kw_31 : Cond.selects "GatesBent$Tape" yX5_cut yX5_cut ∈ wA := wA_of (tb0 _ (List.mem_of_getElem? (i := 31) rfl)) rfl
theorem kw_32 : Cond.selects "GatesBentModel" yX8_change yX8_change ∈ wA := wA_of (tb0 _ (List.mem_of_getElem? (i := 32) rfl)) rfl
theorem kw_33 : Cond.selects "GatesBentModel" yX8_one yX8_one ∈ wA := wA_of (tb0 _ (List.mem_of_getElem? (i := 33) rfl)) rfl
theorem kw_34 : Cond.selects "GatesBentModel" yX8_isComer yX8_isComer ∈ wA := wA_of (tb0 _ (List.mem_of_getElem? (i := 34) rfl)) rfl
theorem kw_35 : Cond.selects "GatesBentModel" yX8_out yX8_out ∈ wA := wA_of (tb0 _ (List.mem_of_getElem? (i := 35) rfl)) rfl
theorem kw_36 : Cond.selects "GatesBentModel" yX8_keep yX8_keep ∈ wA := wA_of (tb0 _ (List.mem_of_getElem? (i := 36) rfl)) rfl
theorem kw_37 : Cond.selects "GatesBentModel" yX8_isBy yX8_isBy ∈ wA := wA_of (tb0 _ (List.mem_of_getElem? (i := 37) rfl)) rfl
theorem kw_38 : Cond.selects "GatesBentModel" yX8_lets yX8_lets ∈ wA := wA_of (tb0 _ (List.mem_of_getElem? (i := 38) rfl)) rfl
theorem kw_39 : Cond.selects "GatesBentModel" yX8_helps yX8_helps ∈ wA := wA_of (tb0 _ (List.mem_of_getElem? (i := 39) rfl)) rfl
theorem kw_40 : Cond.selects "GatesBentModel" yX8_readFor yX8_readFor ∈ wA := wA_of (tb0 _ (List.mem_of_getElem? (i := 40) rfl)) rfl
theorem kw_41 : Cond.selects "GatesBentModel" yX8_readAll yX8_readAll ∈ wA := wA_of (tb0 _ (List.mem_of_getElem? (i := 41) rfl)) rfl
theorem kw_42 : Cond.selects "GatesBentModel" yX8_clause yX8_clause ∈ wA := wA_of (tb0 _ (List.mem_of_getElem? (i := 42) rfl)) rfl
theorem kw_43 : Cond.selects "GatesBentModel" yX8_isAt yX8_isAt ∈ wA := wA_of (tb0 _ (List.mem_of_getElem? (i := 43) rfl)) rfl
theorem kw_44 : Cond.selects "GatesBentModel" yX8_takes yX8_takes ∈ wA := wA_of (tb0 _ (List.mem_of_getElem? (i := 44) rfl)) rfl
theorem kw_45 : Cond.selects "GatesBentModel" yX8_number yX8_number ∈ wA := wA_of (tb0 _ (List.mem_of_getElem? (i := 45) rfl)) rfl
theorem kw_46 : Cond.selects "GatesBentModel" yX8_isDigit yX8_isDigit ∈ wA := wA_of (tb0 _ (List.mem_of_getElem? (i := 46) rfl)) rfl
theorem kw_47 : Cond.selects "GatesBentModel" yX8_any yX8_any ∈ wA := wA_of (tb0 _ (List.mem_of_getElem? (i := 47) rfl)) rfl
theorem kw_48 : Cond.selects "GatesBentModel" yX8_both yX8_both ∈ wA := wA_of (tb0 _ (List.mem_of_getElem? (i := 48) rfl)) rfl
theorem kw_49 : Cond.selects "GatesBentModel" yX8_factor yX8_factor ∈ wA := wA_of (tb0 _ (List.mem_of_getElem? (i := 49) rfl)) rfl
theorem kw_50 : Cond.selects "GatesBentModel" yX8_test yX8_test ∈ wA := wA_of (tb0 _ (List.mem_of_getElem? (i := 50) rfl)) rfl
theorem kw_51 : Cond.selects "GatesBentModel" yX8_known yX8_known ∈ wA := wA_of (tb0 _ (List.mem_of_getElem? (i := 51) rfl)) rfl
theorem kw_52 : Cond.selects "GatesBentModel" yX8_walkAt yX8_walkAt ∈ wA := wA_of (tb0 _ (List.mem_of_getElem? (i := 52) rfl)) rfl
theorem kw_53 : Cond.selects "GatesBentModel" yX8_likeTo yX8_likeTo ∈ wA := wA_of (tb0 _ (List.mem_of_getElem? (i := 53) rfl)) rfl
theorem kw_54 : Cond.selects "GatesBentModel" yX8_day yX8_day ∈ wA := wA_of (tb0 _ (List.mem_of_getElem? (i := 54) rfl)) rfl
theorem kw_55 : Cond.selects "GatesBentModel" yX8_ageNow yX8_ageNow ∈ wA := wA_of (tb0 _ (List.mem_of_getElem? (i := 55) rfl)) rfl
theorem kw_56 : Cond.selects "GatesBentModel" yX8_lay yX8_lay ∈ wA := wA_of (tb0 _ (List.mem_of_getElem? (i := 56) rfl)) rfl
theorem kw_57 : Cond.selects "GatesBentModel" yX8_nearest yX8_nearest ∈ wA := wA_of (tb0 _ (List.mem_of_getElem? (i := 57) rfl)) rfl
theorem kw_58 : Cond.selects "GatesBentModel" yX8_taught yX8_taught ∈ wA := wA_of (tb0 _ (List.mem_of_getElem? (i := 58) rfl)) rfl
theorem kw_59 : Cond.selects "GatesBentModel" yX8_needNow yX8_needNow ∈ wA := wA_of (tb0 _ (List.mem_of_getElem? (i := 59) rfl)) rfl
theorem kw_60 : Cond.selects "GatesBentModel" yX8_bys yX8_bys ∈ wA := wA_of (tb0 _ (List.mem_of_getElem? (i := 60) rfl)) rfl
theorem kw_61 : Cond.selects "GatesBentModel" yX8_passes yX8_passes ∈ wA := wA_of (tb0 _ (List.mem_of_getElem? (i := 61) rfl)) rfl
theorem kw_62 : Cond.selects "GatesBentModel" yX8_master yX8_master ∈ wA := wA_of (tb0 _ (List.mem_of_getElem? (i := 62) rfl)) rfl
theorem kw_63 : Cond.selects "GatesBentModel" yX8_days yX8_days ∈ wA := wA_of (tb0 _ (List.mem_of_getElem? (i := 63) rfl)) rfl
theorem kw_64 : Cond.selects "GatesBentModel" yX8_learn yX8_learn ∈ wA := wA_of (tb0 _ (List.mem_of_getElem? (i := 64) rfl)) rfl
theorem kw_65 : Cond.selects "GatesBentModel" yX8_letsAll yX8_letsAll ∈ wA := wA_of (tb0 _ (List.mem_of_getElem? (i := 65) rfl)) rfl
theorem kw_66 : Cond.selects "GatesBentModel" yX8_isSo yX8_isSo ∈ wA := wA_of (tb0 _ (List.mem_of_getElem? (i := 66) rfl)) rfl
theorem kw_67 : Cond.selects "GatesBentModel" yX8_isAllSo yX8_isAllSo ∈ wA := wA_of (tb0 _ (List.mem_of_getElem? (i := 67) rfl)) rfl
theorem kw_68 : Cond.selects "GatesBentModel" yX8_all yX8_all ∈ wA := wA_of (tb0 _ (List.mem_of_getElem? (i := 68) rfl)) rfl
theorem kw_69 : Cond.selects "GatesBentModel" yX8_byKind yX8_byKind ∈ wA := wA_of (tb0 _ (List.mem_of_getElem? (i := 69) rfl)) rfl
theorem kw_70 : Cond.selects "GatesBentModel" yX8_body yX8_body ∈ wA := wA_of (tb0 _ (List.mem_of_getElem? (i := 70) rfl)) rfl
theorem kw_71 : Cond.initialized "GatesBentLaw" ∈ wA := wA_of (tb1 _ (List.mem_of_getElem? (i := 0) rfl)) rfl
theorem kw_72 : Cond.initialized "GatesBent" ∈ wA := wA_of (tb1 _ (List.mem_of_getElem? (i := 1) rfl)) rfl
theorem kw_73 : Cond.initialized "GatesBent$Reader" ∈ wA := wA_of (tb1 _ (List.mem_of_getElem? (i := 2) rfl)) rfl
theorem kw_74 : Cond.initialized "GatesBent$Gate" ∈ wA := wA_of (tb1 _ (List.mem_of_getElem? (i := 3) rfl)) rfl
theorem kw_75 : Cond.initialized "GatesBent$Comer" ∈ wA := wA_of (tb1 _ (List.mem_of_getElem? (i := 4) rfl)) rfl
theorem kw_76 : Cond.initialized "GatesBent$House" ∈ wA := wA_of (tb1 _ (List.mem_of_getElem? (i := 5) rfl)) rfl
theorem kw_77 : Cond.initialized "GatesBent$Town" ∈ wA := wA_of (tb1 _ (List.mem_of_getElem? (i := 6) rfl)) rfl
theorem kw_78 : Cond.initialized "GatesBent$Rows" ∈ wA := wA_of (tb1 _ (List.mem_of_getElem? (i := 7) rfl)) rfl
theorem kw_79 : Cond.initialized "GatesBent$Tape" ∈ wA := wA_of (tb1 _ (List.mem_of_getElem? (i := 8) rfl)) rfl
theorem kw_80 : Cond.initialized "GatesBentModel" ∈ wA := wA_of (tb1 _ (List.mem_of_getElem? (i := 9) rfl)) rfl
theorem kw_81 : Cond.initialized "java/lang/Math" ∈ wA := wA_of (tb1 _ (List.mem_of_getElem? (i := 10) rfl)) rfl
theorem kw_82 : Cond.initialized "java/lang/Integer" ∈ wA := wA_of (tb1 _ (List.mem_of_getElem? (i := 11) rfl)) rfl
theorem kw_83 : Cond.initialized "java/lang/System" ∈ wA := wA_of (tb1 _ (List.mem_of_getElem? (i := 12) rfl)) rfl
theorem kw_84 : Cond.initialized "java/lang/String" ∈ wA := wA_of (tb1 _ (List.mem_of_getElem? (i := 13) rfl)) rfl
theorem kw_85 : Cond.initialized "java/lang/StringLatin1" ∈ wA := wA_of (tb1 _ (List.mem_of_getElem? (i := 14) rfl)) rfl
theorem kw_86 : Cond.initialized "jdk/internal/util/Preconditions" ∈ wA := wA_of (tb1 _ (List.mem_of_getElem? (i := 15) rfl)) rfl
theorem kw_87 : Cond.initialized "java/lang/StringUTF16" ∈ wA := wA_of (tb1 _ (List.mem_of_getElem? (i := 16) rfl)) rfl
theorem kw_88 : Cond.classLink "GatesBentLaw" 7 "GatesBent" ∈ wA := wA_of (tb1 _ (List.mem_of_getElem? (i := 17) rfl)) rfl
theorem kw_89 : Cond.instantiable "GatesBent" 14 ∈ wA := wA_of (tb1 _ (List.mem_of_getElem? (i := 18) rfl)) rfl
theorem kw_90 : Cond.methodLink "GatesBentLaw" 9 yX7_init ∈ wA := wA_of (tb1 _ (List.mem_of_getElem? (i := 19) rfl)) rfl
theorem kw_91 : Cond.instanceMethod yX7_init ∈ wA := wA_of (tb1 _ (List.mem_of_getElem? (i := 20) rfl)) rfl
theorem kw_92 : Cond.code yX7_init cX7_init 3 none ∈ wA := wA_of (tb1 _ (List.mem_of_getElem? (i := 21) rfl)) rfl
theorem kw_93 : Cond.methodLink "GatesBent" 3 ⟨"java/lang/Object", "<init>", "()V"⟩ ∈ wA := wA_of (tb1 _ (List.mem_of_getElem? (i := 22) rfl)) rfl
theorem kw_94 : Cond.instanceMethod ⟨"java/lang/Object", "<init>", "()V"⟩ ∈ wA := wA_of (tb1 _ (List.mem_of_getElem? (i := 23) rfl)) rfl
theorem kw_95 : Cond.code ⟨"java/lang/Object", "<init>", "()V"⟩ object_method_1_code 1 none ∈ wA := wA_of (tb1 _ (List.mem_of_getElem? (i := 24) rfl)) rfl
theorem kw_96 : Cond.classLink "GatesBent" 9 "GatesBent$Reader" ∈ wA := wA_of (tb1 _ (List.mem_of_getElem? (i := 25) rfl)) rfl
theorem kw_97 : Cond.instantiable "GatesBent$Reader" 4 ∈ wA := wA_of (tb1 _ (List.mem_of_getElem? (i := 26) rfl)) rfl
theorem kw_99 : Cond.instanceMethod yX3_init ∈ wA := wA_of (tb1 _ (List.mem_of_getElem? (i := 28) rfl)) rfl
theorem kw_100 : Cond.code yX3_init cX3_init 1 none ∈ wA := wA_of (tb1 _ (List.mem_of_getElem? (i := 29) rfl)) rfl
theorem kw_101 : Cond.methodLink "GatesBent$Reader" 3 ⟨"java/lang/Object", "<init>", "()V"⟩ ∈ wA := wA_of (tb1 _ (List.mem_of_getElem? (i := 30) rfl)) rfl
theorem kw_102 : Cond.fieldLink "GatesBent$Reader" 9 "GatesBent$Reader" "text" "[B" ∈ wA := wA_of (tb1 _ (List.mem_of_getElem? (i := 31) rfl)) rfl
theorem kw_103 : Cond.fieldLink "GatesBent" 165 "GatesBent$Reader" "text" "[B" ∈ wA := wA_of (tb1 _ (List.mem_of_getElem? (i := 32) rfl)) rfl
theorem kw_104 : Cond.fieldLink "GatesBent$Reader" 32 "GatesBent$Reader" "length" "I" ∈ wA := wA_of (tb1 _ (List.mem_of_getElem? (i := 33) rfl)) rfl
theorem kw_105 : Cond.fieldLink "GatesBent" 162 "GatesBent$Reader" "length" "I" ∈ wA := wA_of (tb1 _ (List.mem_of_getElem? (i := 34) rfl)) rfl
theorem kw_106 : Cond.fieldLink "GatesBent$Reader" 24 "GatesBent$Reader" "place" "I" ∈ wA := wA_of (tb1 _ (List.mem_of_getElem? (i := 35) rfl)) rfl
theorem kw_107 : Cond.fieldLink "GatesBent" 176 "GatesBent$Reader" "place" "I" ∈ wA := wA_of (tb1 _ (List.mem_of_getElem? (i := 36) rfl)) rfl
theorem kw_108 : Cond.fieldLink "GatesBent$Reader" 15 "GatesBent$Reader" "house" "LGatesBent$House;" ∈ wA := wA_of (tb1 _ (List.mem_of_getElem? (i := 37) rfl)) rfl
theorem kw_118 : Cond.arrayClass FieldType.byte ∈ wA := wA_of (tb1 _ (List.mem_of_getElem? (i := 47) rfl)) rfl
theorem kw_119 : Cond.classLink "GatesBent" 18 "GatesBent$House" ∈ wA := wA_of (tb1 _ (List.mem_of_getElem? (i := 48) rfl)) rfl
theorem kw_121 : Cond.classLink "GatesBent" 28 "GatesBent$Tape" ∈ wA := wA_of (tb1 _ (List.mem_of_getElem? (i := 50) rfl)) rfl
theorem kw_123 : Cond.classLink "GatesBent" 34 "GatesBent$Gate" ∈ wA := wA_of (tb1 _ (List.mem_of_getElem? (i := 52) rfl)) rfl
theorem kw_124 : Cond.instantiable "GatesBent$Gate" 2 ∈ wA := wA_of (tb1 _ (List.mem_of_getElem? (i := 53) rfl)) rfl
theorem kw_126 : Cond.instanceMethod yX1_init ∈ wA := wA_of (tb1 _ (List.mem_of_getElem? (i := 55) rfl)) rfl
theorem kw_127 : Cond.code yX1_init cX1_init 1 none ∈ wA := wA_of (tb1 _ (List.mem_of_getElem? (i := 56) rfl)) rfl
theorem kw_128 : Cond.methodLink "GatesBent$Gate" 3 ⟨"java/lang/Object", "<init>", "()V"⟩ ∈ wA := wA_of (tb1 _ (List.mem_of_getElem? (i := 57) rfl)) rfl
theorem kw_129 : Cond.fieldLink "GatesBent$Gate" 9 "GatesBent$Gate" "walks" "[I" ∈ wA := wA_of (tb1 _ (List.mem_of_getElem? (i := 58) rfl)) rfl
theorem kw_130 : Cond.fieldLink "GatesBent" 142 "GatesBent$Gate" "walks" "[I" ∈ wA := wA_of (tb1 _ (List.mem_of_getElem? (i := 59) rfl)) rfl
theorem kw_131 : Cond.fieldLink "GatesBent$Gate" 15 "GatesBent$Gate" "known" "I" ∈ wA := wA_of (tb1 _ (List.mem_of_getElem? (i := 60) rfl)) rfl
theorem kw_132 : Cond.fieldLink "GatesBent" 139 "GatesBent$Gate" "known" "I" ∈ wA := wA_of (tb1 _ (List.mem_of_getElem? (i := 61) rfl)) rfl
theorem kw_133 : Cond.fieldLink "GatesBent$Town" 139 "GatesBent$Gate" "known" "I" ∈ wA := wA_of (tb1 _ (List.mem_of_getElem? (i := 62) rfl)) rfl
theorem kw_139 : Cond.arrayClass FieldType.int ∈ wA := wA_of (tb1 _ (List.mem_of_getElem? (i := 68) rfl)) rfl
theorem kw_140 : Cond.classLink "GatesBent" 41 "GatesBent$Comer" ∈ wA := wA_of (tb1 _ (List.mem_of_getElem? (i := 69) rfl)) rfl
theorem kw_141 : Cond.instantiable "GatesBent$Comer" 8 ∈ wA := wA_of (tb1 _ (List.mem_of_getElem? (i := 70) rfl)) rfl
theorem kw_142 : Cond.methodLink "GatesBent" 43 yX0_init ∈ wA := wA_of (tb1 _ (List.mem_of_getElem? (i := 71) rfl)) rfl
theorem kw_143 : Cond.instanceMethod yX0_init ∈ wA := wA_of (tb1 _ (List.mem_of_getElem? (i := 72) rfl)) rfl
theorem kw_144 : Cond.code yX0_init cX0_init 2 none ∈ wA := wA_of (tb1 _ (List.mem_of_getElem? (i := 73) rfl)) rfl
theorem kw_145 : Cond.methodLink "GatesBent$Comer" 3 ⟨"java/lang/Object", "<init>", "()V"⟩ ∈ wA := wA_of (tb1 _ (List.mem_of_getElem? (i := 74) rfl)) rfl
theorem kw_146 : Cond.fieldLink "GatesBent$Comer" 15 "GatesBent$Comer" "number" "I" ∈ wA := wA_of (tb1 _ (List.mem_of_getElem? (i := 75) rfl)) rfl
theorem kw_147 : Cond.fieldLink "GatesBent$House" 36 "GatesBent$Comer" "number" "I" ∈ wA := wA_of (tb1 _ (List.mem_of_getElem? (i := 76) rfl)) rfl
theorem kw_148 : Cond.fieldLink "GatesBent$Town" 122 "GatesBent$Comer" "number" "I" ∈ wA := wA_of (tb1 _ (List.mem_of_getElem? (i := 77) rfl)) rfl
theorem kw_149 : Cond.fieldLink "GatesBent" 269 "GatesBent$Comer" "number" "I" ∈ wA := wA_of (tb1 _ (List.mem_of_getElem? (i := 78) rfl)) rfl
theorem kw_150 : Cond.fieldLink "GatesBent$Comer" 19 "GatesBent$Comer" "kind" "I" ∈ wA := wA_of (tb1 _ (List.mem_of_getElem? (i := 79) rfl)) rfl
theorem kw_151 : Cond.fieldLink "GatesBent$Town" 77 "GatesBent$Comer" "kind" "I" ∈ wA := wA_of (tb1 _ (List.mem_of_getElem? (i := 80) rfl)) rfl
theorem kw_152 : Cond.fieldLink "GatesBent$House" 41 "GatesBent$Comer" "kind" "I" ∈ wA := wA_of (tb1 _ (List.mem_of_getElem? (i := 81) rfl)) rfl
theorem kw_153 : Cond.fieldLink "GatesBent" 114 "GatesBent$Comer" "kind" "I" ∈ wA := wA_of (tb1 _ (List.mem_of_getElem? (i := 82) rfl)) rfl
theorem kw_154 : Cond.fieldLink "GatesBent$Comer" 22 "GatesBent$Comer" "v" "I" ∈ wA := wA_of (tb1 _ (List.mem_of_getElem? (i := 83) rfl)) rfl
theorem kw_155 : Cond.fieldLink "GatesBent$Town" 80 "GatesBent$Comer" "v" "I" ∈ wA := wA_of (tb1 _ (List.mem_of_getElem? (i := 84) rfl)) rfl
theorem kw_156 : Cond.fieldLink "GatesBent$House" 44 "GatesBent$Comer" "v" "I" ∈ wA := wA_of (tb1 _ (List.mem_of_getElem? (i := 85) rfl)) rfl
theorem kw_157 : Cond.fieldLink "GatesBent" 117 "GatesBent$Comer" "v" "I" ∈ wA := wA_of (tb1 _ (List.mem_of_getElem? (i := 86) rfl)) rfl
theorem kw_158 : Cond.fieldLink "GatesBent$Comer" 25 "GatesBent$Comer" "walk" "I" ∈ wA := wA_of (tb1 _ (List.mem_of_getElem? (i := 87) rfl)) rfl
theorem kw_159 : Cond.fieldLink "GatesBent$Town" 61 "GatesBent$Comer" "walk" "I" ∈ wA := wA_of (tb1 _ (List.mem_of_getElem? (i := 88) rfl)) rfl
theorem kw_160 : Cond.fieldLink "GatesBent" 120 "GatesBent$Comer" "walk" "I" ∈ wA := wA_of (tb1 _ (List.mem_of_getElem? (i := 89) rfl)) rfl
theorem kw_161 : Cond.fieldLink "GatesBent$Comer" 28 "GatesBent$Comer" "gate" "I" ∈ wA := wA_of (tb1 _ (List.mem_of_getElem? (i := 90) rfl)) rfl
theorem kw_162 : Cond.fieldLink "GatesBent$Town" 83 "GatesBent$Comer" "gate" "I" ∈ wA := wA_of (tb1 _ (List.mem_of_getElem? (i := 91) rfl)) rfl
theorem kw_163 : Cond.fieldLink "GatesBent" 123 "GatesBent$Comer" "gate" "I" ∈ wA := wA_of (tb1 _ (List.mem_of_getElem? (i := 92) rfl)) rfl
theorem kw_164 : Cond.fieldLink "GatesBent$Comer" 31 "GatesBent$Comer" "tries" "I" ∈ wA := wA_of (tb1 _ (List.mem_of_getElem? (i := 93) rfl)) rfl
theorem kw_165 : Cond.fieldLink "GatesBent$Town" 91 "GatesBent$Comer" "tries" "I" ∈ wA := wA_of (tb1 _ (List.mem_of_getElem? (i := 94) rfl)) rfl
theorem kw_166 : Cond.fieldLink "GatesBent$House" 47 "GatesBent$Comer" "tries" "I" ∈ wA := wA_of (tb1 _ (List.mem_of_getElem? (i := 95) rfl)) rfl
theorem kw_167 : Cond.fieldLink "GatesBent" 126 "GatesBent$Comer" "tries" "I" ∈ wA := wA_of (tb1 _ (List.mem_of_getElem? (i := 96) rfl)) rfl
theorem kw_168 : Cond.fieldLink "GatesBent$Comer" 34 "GatesBent$Comer" "passed" "I" ∈ wA := wA_of (tb1 _ (List.mem_of_getElem? (i := 97) rfl)) rfl
theorem kw_169 : Cond.fieldLink "GatesBent$Town" 113 "GatesBent$Comer" "passed" "I" ∈ wA := wA_of (tb1 _ (List.mem_of_getElem? (i := 98) rfl)) rfl
theorem kw_170 : Cond.fieldLink "GatesBent" 129 "GatesBent$Comer" "passed" "I" ∈ wA := wA_of (tb1 _ (List.mem_of_getElem? (i := 99) rfl)) rfl
theorem kw_171 : Cond.fieldLink "GatesBent$Comer" 9 "GatesBent$Comer" "row" "[I" ∈ wA := wA_of (tb1 _ (List.mem_of_getElem? (i := 100) rfl)) rfl
theorem kw_172 : Cond.fieldLink "GatesBent$Town" 94 "GatesBent$Comer" "row" "[I" ∈ wA := wA_of (tb1 _ (List.mem_of_getElem? (i := 101) rfl)) rfl
theorem kw_173 : Cond.fieldLink "GatesBent" 159 "GatesBent$Comer" "row" "[I" ∈ wA := wA_of (tb1 _ (List.mem_of_getElem? (i := 102) rfl)) rfl
theorem kw_191 : Cond.instantiable "GatesBent$House" 5 ∈ wA := wA_of (tb1 _ (List.mem_of_getElem? (i := 120) rfl)) rfl
theorem kw_192 : Cond.methodLink "GatesBent" 56 yX2_init ∈ wA := wA_of (tb1 _ (List.mem_of_getElem? (i := 121) rfl)) rfl
theorem kw_193 : Cond.instanceMethod yX2_init ∈ wA := wA_of (tb1 _ (List.mem_of_getElem? (i := 122) rfl)) rfl
theorem kw_194 : Cond.code yX2_init cX2_init 2 none ∈ wA := wA_of (tb1 _ (List.mem_of_getElem? (i := 123) rfl)) rfl
theorem kw_195 : Cond.methodLink "GatesBent$House" 3 ⟨"java/lang/Object", "<init>", "()V"⟩ ∈ wA := wA_of (tb1 _ (List.mem_of_getElem? (i := 124) rfl)) rfl
theorem kw_196 : Cond.fieldLink "GatesBent$House" 9 "GatesBent$House" "ops" "[I" ∈ wA := wA_of (tb1 _ (List.mem_of_getElem? (i := 125) rfl)) rfl
theorem kw_197 : Cond.fieldLink "GatesBent$House" 15 "GatesBent$House" "numbers" "[I" ∈ wA := wA_of (tb1 _ (List.mem_of_getElem? (i := 126) rfl)) rfl
theorem kw_198 : Cond.fieldLink "GatesBent$House" 22 "GatesBent$House" "length" "I" ∈ wA := wA_of (tb1 _ (List.mem_of_getElem? (i := 127) rfl)) rfl
theorem kw_199 : Cond.fieldLink "GatesBent$House" 18 "GatesBent$House" "need" "I" ∈ wA := wA_of (tb1 _ (List.mem_of_getElem? (i := 128) rfl)) rfl
theorem kw_200 : Cond.fieldLink "GatesBent$Reader" 46 "GatesBent$House" "need" "I" ∈ wA := wA_of (tb1 _ (List.mem_of_getElem? (i := 129) rfl)) rfl
theorem kw_201 : Cond.fieldLink "GatesBent$Town" 98 "GatesBent$House" "need" "I" ∈ wA := wA_of (tb1 _ (List.mem_of_getElem? (i := 130) rfl)) rfl
theorem kw_202 : Cond.fieldLink "GatesBent" 189 "GatesBent$House" "need" "I" ∈ wA := wA_of (tb1 _ (List.mem_of_getElem? (i := 131) rfl)) rfl
theorem kw_203 : Cond.fieldLink "GatesBent$House" 25 "GatesBent$House" "age" "I" ∈ wA := wA_of (tb1 _ (List.mem_of_getElem? (i := 132) rfl)) rfl
theorem kw_204 : Cond.fieldLink "GatesBent$Reader" 49 "GatesBent$House" "age" "I" ∈ wA := wA_of (tb1 _ (List.mem_of_getElem? (i := 133) rfl)) rfl
theorem kw_205 : Cond.fieldLink "GatesBent$Town" 119 "GatesBent$House" "age" "I" ∈ wA := wA_of (tb1 _ (List.mem_of_getElem? (i := 134) rfl)) rfl
theorem kw_206 : Cond.fieldLink "GatesBent" 192 "GatesBent$House" "age" "I" ∈ wA := wA_of (tb1 _ (List.mem_of_getElem? (i := 135) rfl)) rfl
theorem kw_218 : Cond.classLink "GatesBent" 57 "GatesBent$Town" ∈ wA := wA_of (tb1 _ (List.mem_of_getElem? (i := 147) rfl)) rfl
theorem kw_219 : Cond.instantiable "GatesBent$Town" 8 ∈ wA := wA_of (tb1 _ (List.mem_of_getElem? (i := 148) rfl)) rfl
theorem kw_220 : Cond.methodLink "GatesBent" 59 yX6_init ∈ wA := wA_of (tb1 _ (List.mem_of_getElem? (i := 149) rfl)) rfl
theorem kw_221 : Cond.instanceMethod yX6_init ∈ wA := wA_of (tb1 _ (List.mem_of_getElem? (i := 150) rfl)) rfl
theorem kw_222 : Cond.code yX6_init cX6_init 3 none ∈ wA := wA_of (tb1 _ (List.mem_of_getElem? (i := 151) rfl)) rfl
theorem kw_223 : Cond.methodLink "GatesBent$Town" 3 ⟨"java/lang/Object", "<init>", "()V"⟩ ∈ wA := wA_of (tb1 _ (List.mem_of_getElem? (i := 152) rfl)) rfl
theorem kw_224 : Cond.classLink "GatesBent$Town" 9 "GatesBent$Gate" ∈ wA := wA_of (tb1 _ (List.mem_of_getElem? (i := 153) rfl)) rfl
theorem kw_226 : Cond.classLink "GatesBent$Town" 17 "GatesBent$Comer" ∈ wA := wA_of (tb1 _ (List.mem_of_getElem? (i := 155) rfl)) rfl
theorem kw_228 : Cond.classLink "GatesBent$Town" 23 "GatesBent$Rows" ∈ wA := wA_of (tb1 _ (List.mem_of_getElem? (i := 157) rfl)) rfl
theorem kw_229 : Cond.instantiable "GatesBent$Rows" 4 ∈ wA := wA_of (tb1 _ (List.mem_of_getElem? (i := 158) rfl)) rfl
theorem kw_230 : Cond.methodLink "GatesBent$Town" 25 yX4_init ∈ wA := wA_of (tb1 _ (List.mem_of_getElem? (i := 159) rfl)) rfl
theorem kw_231 : Cond.instanceMethod yX4_init ∈ wA := wA_of (tb1 _ (List.mem_of_getElem? (i := 160) rfl)) rfl
theorem kw_232 : Cond.code yX4_init cX4_init 2 none ∈ wA := wA_of (tb1 _ (List.mem_of_getElem? (i := 161) rfl)) rfl
theorem kw_233 : Cond.methodLink "GatesBent$Rows" 3 ⟨"java/lang/Object", "<init>", "()V"⟩ ∈ wA := wA_of (tb1 _ (List.mem_of_getElem? (i := 162) rfl)) rfl
theorem kw_234 : Cond.fieldLink "GatesBent$Rows" 9 "GatesBent$Rows" "first" "[I" ∈ wA := wA_of (tb1 _ (List.mem_of_getElem? (i := 163) rfl)) rfl
theorem kw_235 : Cond.fieldLink "GatesBent$Town" 129 "GatesBent$Rows" "first" "[I" ∈ wA := wA_of (tb1 _ (List.mem_of_getElem? (i := 164) rfl)) rfl
theorem kw_236 : Cond.fieldLink "GatesBent" 245 "GatesBent$Rows" "first" "[I" ∈ wA := wA_of (tb1 _ (List.mem_of_getElem? (i := 165) rfl)) rfl
theorem kw_237 : Cond.fieldLink "GatesBent$Rows" 15 "GatesBent$Rows" "second" "[I" ∈ wA := wA_of (tb1 _ (List.mem_of_getElem? (i := 166) rfl)) rfl
theorem kw_238 : Cond.fieldLink "GatesBent$Town" 126 "GatesBent$Rows" "second" "[I" ∈ wA := wA_of (tb1 _ (List.mem_of_getElem? (i := 167) rfl)) rfl
theorem kw_239 : Cond.fieldLink "GatesBent" 248 "GatesBent$Rows" "second" "[I" ∈ wA := wA_of (tb1 _ (List.mem_of_getElem? (i := 168) rfl)) rfl
theorem kw_240 : Cond.fieldLink "GatesBent$Rows" 18 "GatesBent$Rows" "third" "[I" ∈ wA := wA_of (tb1 _ (List.mem_of_getElem? (i := 169) rfl)) rfl
theorem kw_241 : Cond.fieldLink "GatesBent" 251 "GatesBent$Rows" "third" "[I" ∈ wA := wA_of (tb1 _ (List.mem_of_getElem? (i := 170) rfl)) rfl
theorem kw_242 : Cond.fieldLink "GatesBent$Rows" 21 "GatesBent$Rows" "many" "I" ∈ wA := wA_of (tb1 _ (List.mem_of_getElem? (i := 171) rfl)) rfl
theorem kw_243 : Cond.fieldLink "GatesBent$Town" 125 "GatesBent$Rows" "many" "I" ∈ wA := wA_of (tb1 _ (List.mem_of_getElem? (i := 172) rfl)) rfl
theorem kw_244 : Cond.fieldLink "GatesBent" 244 "GatesBent$Rows" "many" "I" ∈ wA := wA_of (tb1 _ (List.mem_of_getElem? (i := 173) rfl)) rfl
theorem kw_255 : Cond.methodLink "GatesBent$Town" 43 yX0_init ∈ wA := wA_of (tb1 _ (List.mem_of_getElem? (i := 184) rfl)) rfl
theorem kw_256 : Cond.fieldLink "GatesBent$Town" 11 "GatesBent$Town" "gates" "[LGatesBent$Gate;" ∈ wA := wA_of (tb1 _ (List.mem_of_getElem? (i := 185) rfl)) rfl
theorem kw_257 : Cond.fieldLink "GatesBent" 135 "GatesBent$Town" "gates" "[LGatesBent$Gate;" ∈ wA := wA_of (tb1 _ (List.mem_of_getElem? (i := 186) rfl)) rfl
theorem kw_258 : Cond.fieldLink "GatesBent$Town" 19 "GatesBent$Town" "comers" "[LGatesBent$Comer;" ∈ wA := wA_of (tb1 _ (List.mem_of_getElem? (i := 187) rfl)) rfl
theorem kw_259 : Cond.fieldLink "GatesBent" 94 "GatesBent$Town" "comers" "[LGatesBent$Comer;" ∈ wA := wA_of (tb1 _ (List.mem_of_getElem? (i := 188) rfl)) rfl
theorem kw_260 : Cond.fieldLink "GatesBent$Town" 28 "GatesBent$Town" "seen" "LGatesBent$Rows;" ∈ wA := wA_of (tb1 _ (List.mem_of_getElem? (i := 189) rfl)) rfl
theorem kw_261 : Cond.fieldLink "GatesBent" 232 "GatesBent$Town" "seen" "LGatesBent$Rows;" ∈ wA := wA_of (tb1 _ (List.mem_of_getElem? (i := 190) rfl)) rfl
theorem kw_262 : Cond.fieldLink "GatesBent$Town" 32 "GatesBent$Town" "plan" "LGatesBent$Rows;" ∈ wA := wA_of (tb1 _ (List.mem_of_getElem? (i := 191) rfl)) rfl
theorem kw_263 : Cond.fieldLink "GatesBent" 278 "GatesBent$Town" "plan" "LGatesBent$Rows;" ∈ wA := wA_of (tb1 _ (List.mem_of_getElem? (i := 192) rfl)) rfl
theorem kw_264 : Cond.fieldLink "GatesBent$Town" 35 "GatesBent$Town" "book" "LGatesBent$Rows;" ∈ wA := wA_of (tb1 _ (List.mem_of_getElem? (i := 193) rfl)) rfl
theorem kw_265 : Cond.fieldLink "GatesBent" 287 "GatesBent$Town" "book" "LGatesBent$Rows;" ∈ wA := wA_of (tb1 _ (List.mem_of_getElem? (i := 194) rfl)) rfl
theorem kw_266 : Cond.fieldLink "GatesBent$Town" 54 "GatesBent$Town" "many" "I" ∈ wA := wA_of (tb1 _ (List.mem_of_getElem? (i := 195) rfl)) rfl
theorem kw_267 : Cond.fieldLink "GatesBent" 79 "GatesBent$Town" "many" "I" ∈ wA := wA_of (tb1 _ (List.mem_of_getElem? (i := 196) rfl)) rfl
theorem kw_268 : Cond.fieldLink "GatesBent$Town" 58 "GatesBent$Town" "day" "I" ∈ wA := wA_of (tb1 _ (List.mem_of_getElem? (i := 197) rfl)) rfl
theorem kw_269 : Cond.fieldLink "GatesBent" 153 "GatesBent$Town" "day" "I" ∈ wA := wA_of (tb1 _ (List.mem_of_getElem? (i := 198) rfl)) rfl
theorem kw_270 : Cond.fieldLink "GatesBent$Town" 38 "GatesBent$Town" "house" "LGatesBent$House;" ∈ wA := wA_of (tb1 _ (List.mem_of_getElem? (i := 199) rfl)) rfl
theorem kw_271 : Cond.fieldLink "GatesBent" 179 "GatesBent$Town" "house" "LGatesBent$House;" ∈ wA := wA_of (tb1 _ (List.mem_of_getElem? (i := 200) rfl)) rfl
theorem kw_289 : Cond.instantiable "GatesBent$Tape" 3 ∈ wA := wA_of (tb1 _ (List.mem_of_getElem? (i := 218) rfl)) rfl
theorem kw_291 : Cond.instanceMethod yX5_init ∈ wA := wA_of (tb1 _ (List.mem_of_getElem? (i := 220) rfl)) rfl
theorem kw_292 : Cond.code yX5_init cX5_init 1 none ∈ wA := wA_of (tb1 _ (List.mem_of_getElem? (i := 221) rfl)) rfl
theorem kw_293 : Cond.methodLink "GatesBent$Tape" 3 ⟨"java/lang/Object", "<init>", "()V"⟩ ∈ wA := wA_of (tb1 _ (List.mem_of_getElem? (i := 222) rfl)) rfl
theorem kw_294 : Cond.fieldLink "GatesBent$Tape" 9 "GatesBent$Tape" "items" "[J" ∈ wA := wA_of (tb1 _ (List.mem_of_getElem? (i := 223) rfl)) rfl
theorem kw_295 : Cond.fieldLink "GatesBent" 296 "GatesBent$Tape" "items" "[J" ∈ wA := wA_of (tb1 _ (List.mem_of_getElem? (i := 224) rfl)) rfl
theorem kw_296 : Cond.fieldLink "GatesBent$Tape" 15 "GatesBent$Tape" "sort" "I" ∈ wA := wA_of (tb1 _ (List.mem_of_getElem? (i := 225) rfl)) rfl
theorem kw_297 : Cond.fieldLink "GatesBent" 290 "GatesBent$Tape" "sort" "I" ∈ wA := wA_of (tb1 _ (List.mem_of_getElem? (i := 226) rfl)) rfl
theorem kw_298 : Cond.fieldLink "GatesBent$Tape" 19 "GatesBent$Tape" "length" "I" ∈ wA := wA_of (tb1 _ (List.mem_of_getElem? (i := 227) rfl)) rfl
theorem kw_306 : Cond.arrayClass FieldType.long ∈ wA := wA_of (tb1 _ (List.mem_of_getElem? (i := 235) rfl)) rfl
theorem kw_307 : Cond.fieldLink "GatesBent" 62 "GatesBent" "now" "LGatesBent$Town;" ∈ wA := wA_of (tb1 _ (List.mem_of_getElem? (i := 236) rfl)) rfl
theorem kw_308 : Cond.fieldLink "GatesBent" 66 "GatesBent" "kept" "LGatesBent$Town;" ∈ wA := wA_of (tb1 _ (List.mem_of_getElem? (i := 237) rfl)) rfl
theorem kw_309 : Cond.fieldLink "GatesBent" 69 "GatesBent" "ahead" "LGatesBent$Town;" ∈ wA := wA_of (tb1 _ (List.mem_of_getElem? (i := 238) rfl)) rfl
theorem kw_310 : Cond.fieldLink "GatesBent" 300 "GatesBent" "isImageTaken" "Z" ∈ wA := wA_of (tb1 _ (List.mem_of_getElem? (i := 239) rfl)) rfl
theorem kw_311 : Cond.fieldLink "GatesBent" 12 "GatesBent" "reader" "LGatesBent$Reader;" ∈ wA := wA_of (tb2 _ (List.mem_of_getElem? (i := 0) rfl)) rfl
theorem kw_312 : Cond.fieldLink "GatesBent" 20 "GatesBent" "houses" "[LGatesBent$House;" ∈ wA := wA_of (tb2 _ (List.mem_of_getElem? (i := 1) rfl)) rfl
theorem kw_313 : Cond.fieldLink "GatesBent" 169 "GatesBent" "houseCount" "I" ∈ wA := wA_of (tb2 _ (List.mem_of_getElem? (i := 2) rfl)) rfl
theorem kw_314 : Cond.fieldLink "GatesBent" 24 "GatesBent" "bodies" "[I" ∈ wA := wA_of (tb2 _ (List.mem_of_getElem? (i := 3) rfl)) rfl
theorem kw_315 : Cond.fieldLink "GatesBent" 304 "GatesBent" "bodiesRun" "I" ∈ wA := wA_of (tb2 _ (List.mem_of_getElem? (i := 4) rfl)) rfl
theorem kw_316 : Cond.fieldLink "GatesBent" 30 "GatesBent" "tapes" "[LGatesBent$Tape;" ∈ wA := wA_of (tb2 _ (List.mem_of_getElem? (i := 5) rfl)) rfl
theorem kw_317 : Cond.fieldLink "GatesBent" 37 "GatesBent" "trial" "LGatesBent$Gate;" ∈ wA := wA_of (tb2 _ (List.mem_of_getElem? (i := 6) rfl)) rfl
theorem kw_318 : Cond.fieldLink "GatesBent" 46 "GatesBent" "probe" "LGatesBent$Comer;" ∈ wA := wA_of (tb2 _ (List.mem_of_getElem? (i := 7) rfl)) rfl
theorem kw_319 : Cond.fieldLink "GatesBent" 50 "GatesBent" "neededByComer" "[I" ∈ wA := wA_of (tb2 _ (List.mem_of_getElem? (i := 8) rfl)) rfl
theorem kw_320 : Cond.fieldLink "GatesBent" 53 "GatesBent" "neededByGate" "[I" ∈ wA := wA_of (tb2 _ (List.mem_of_getElem? (i := 9) rfl)) rfl
theorem kw_350 : Cond.methodLink "GatesBentLaw" 13 yX7_comer ∈ wA := wA_of (tb2 _ (List.mem_of_getElem? (i := 39) rfl)) rfl
theorem kw_351 : Cond.instanceMethod yX7_comer ∈ wA := wA_of (tb2 _ (List.mem_of_getElem? (i := 40) rfl)) rfl
theorem kw_352 : Cond.selects "GatesBent" yX7_comer yX7_comer ∈ wA := wA_of (tb2 _ (List.mem_of_getElem? (i := 41) rfl)) rfl
theorem kw_353 : Cond.code yX7_comer cX7_comer 5 (some FieldType.int) ∈ wA := wA_of (tb2 _ (List.mem_of_getElem? (i := 42) rfl)) rfl
theorem kw_354 : Cond.methodLink "GatesBent" 83 yX7_isIn ∈ wA := wA_of (tb2 _ (List.mem_of_getElem? (i := 43) rfl)) rfl
theorem kw_355 : Cond.static yX7_isIn ∈ wA := wA_of (tb2 _ (List.mem_of_getElem? (i := 44) rfl)) rfl
theorem kw_356 : Cond.code yX7_isIn cX7_isIn 2 (some FieldType.boolean) ∈ wA := wA_of (tb2 _ (List.mem_of_getElem? (i := 45) rfl)) rfl
theorem kw_357 : Cond.methodLink "GatesBent" 98 yX0_begin ∈ wA := wA_of (tb2 _ (List.mem_of_getElem? (i := 46) rfl)) rfl
theorem kw_358 : Cond.instanceMethod yX0_begin ∈ wA := wA_of (tb2 _ (List.mem_of_getElem? (i := 47) rfl)) rfl
theorem kw_359 : Cond.selects "GatesBent$Comer" yX0_begin yX0_begin ∈ wA := wA_of (tb2 _ (List.mem_of_getElem? (i := 48) rfl)) rfl
theorem kw_360 : Cond.code yX0_begin cX0_begin 6 none ∈ wA := wA_of (tb2 _ (List.mem_of_getElem? (i := 49) rfl)) rfl
theorem kw_361 : Cond.methodLink "GatesBentLaw" 18 yX7_of ∈ wA := wA_of (tb2 _ (List.mem_of_getElem? (i := 50) rfl)) rfl
theorem kw_362 : Cond.instanceMethod yX7_of ∈ wA := wA_of (tb2 _ (List.mem_of_getElem? (i := 51) rfl)) rfl
theorem kw_363 : Cond.selects "GatesBent" yX7_of yX7_of ∈ wA := wA_of (tb2 _ (List.mem_of_getElem? (i := 52) rfl)) rfl
theorem kw_364 : Cond.code yX7_of cX7_of 4 (some FieldType.int) ∈ wA := wA_of (tb2 _ (List.mem_of_getElem? (i := 53) rfl)) rfl
theorem kw_365 : Cond.methodLink "GatesBent" 102 yX7_isComer ∈ wA := wA_of (tb2 _ (List.mem_of_getElem? (i := 54) rfl)) rfl
theorem kw_367 : Cond.instanceMethod yX7_isComer ∈ wA := wA_of (tb2 _ (List.mem_of_getElem? (i := 56) rfl)) rfl
theorem kw_368 : Cond.code yX7_isComer cX7_isComer 2 (some FieldType.boolean) ∈ wA := wA_of (tb2 _ (List.mem_of_getElem? (i := 57) rfl)) rfl
theorem kw_369 : Cond.methodLink "GatesBent" 106 yX6_letsBy ∈ wA := wA_of (tb2 _ (List.mem_of_getElem? (i := 58) rfl)) rfl
theorem kw_370 : Cond.instanceMethod yX6_letsBy ∈ wA := wA_of (tb2 _ (List.mem_of_getElem? (i := 59) rfl)) rfl
theorem kw_371 : Cond.selects "GatesBent$Town" yX6_letsBy yX6_letsBy ∈ wA := wA_of (tb2 _ (List.mem_of_getElem? (i := 60) rfl)) rfl
theorem kw_372 : Cond.code yX6_letsBy cX6_letsBy 3 (some FieldType.boolean) ∈ wA := wA_of (tb2 _ (List.mem_of_getElem? (i := 61) rfl)) rfl
theorem kw_373 : Cond.methodLink "GatesBent$Town" 101 yX6_marksNeeded ∈ wA := wA_of (tb2 _ (List.mem_of_getElem? (i := 62) rfl)) rfl
theorem kw_374 : Cond.instanceMethod yX6_marksNeeded ∈ wA := wA_of (tb2 _ (List.mem_of_getElem? (i := 63) rfl)) rfl
theorem kw_375 : Cond.selects "GatesBent$Town" yX6_marksNeeded yX6_marksNeeded ∈ wA := wA_of (tb2 _ (List.mem_of_getElem? (i := 64) rfl)) rfl
theorem kw_376 : Cond.code yX6_marksNeeded cX6_marksNeeded 5 (some FieldType.int) ∈ wA := wA_of (tb2 _ (List.mem_of_getElem? (i := 65) rfl)) rfl
theorem kw_377 : Cond.methodLink "GatesBent$Town" 68 yX2_bonus ∈ wA := wA_of (tb2 _ (List.mem_of_getElem? (i := 66) rfl)) rfl
theorem kw_378 : Cond.instanceMethod yX2_bonus ∈ wA := wA_of (tb2 _ (List.mem_of_getElem? (i := 67) rfl)) rfl
theorem kw_379 : Cond.selects "GatesBent$House" yX2_bonus yX2_bonus ∈ wA := wA_of (tb2 _ (List.mem_of_getElem? (i := 68) rfl)) rfl
theorem kw_380 : Cond.code yX2_bonus cX2_bonus 10 (some FieldType.int) ∈ wA := wA_of (tb2 _ (List.mem_of_getElem? (i := 69) rfl)) rfl
theorem kw_381 : Cond.methodLink "GatesBent$House" 28 yX2_valueOf ∈ wA := wA_of (tb2 _ (List.mem_of_getElem? (i := 70) rfl)) rfl
theorem kw_382 : Cond.static yX2_valueOf ∈ wA := wA_of (tb2 _ (List.mem_of_getElem? (i := 71) rfl)) rfl
theorem kw_383 : Cond.code yX2_valueOf cX2_valueOf 4 (some FieldType.int) ∈ wA := wA_of (tb2 _ (List.mem_of_getElem? (i := 72) rfl)) rfl
theorem kw_384 : Cond.methodLink "GatesBent$House" 32 yX2_isSo ∈ wA := wA_of (tb2 _ (List.mem_of_getElem? (i := 73) rfl)) rfl
theorem kw_385 : Cond.static yX2_isSo ∈ wA := wA_of (tb2 _ (List.mem_of_getElem? (i := 74) rfl)) rfl
theorem kw_386 : Cond.code yX2_isSo cX2_isSo 3 (some FieldType.boolean) ∈ wA := wA_of (tb2 _ (List.mem_of_getElem? (i := 75) rfl)) rfl
theorem kw_387 : Cond.methodLink "GatesBent$Town" 74 yX6_likeBySum ∈ wA := wA_of (tb2 _ (List.mem_of_getElem? (i := 76) rfl)) rfl
theorem kw_389 : Cond.instanceMethod yX6_likeBySum ∈ wA := wA_of (tb2 _ (List.mem_of_getElem? (i := 78) rfl)) rfl
theorem kw_390 : Cond.code yX6_likeBySum cX6_likeBySum 4 (some FieldType.int) ∈ wA := wA_of (tb2 _ (List.mem_of_getElem? (i := 79) rfl)) rfl
theorem kw_391 : Cond.methodLink "GatesBent$Town" 86 yJ9_min_7cf53 ∈ wA := wA_of (tb2 _ (List.mem_of_getElem? (i := 80) rfl)) rfl
theorem kw_392 : Cond.static yJ9_min_7cf53 ∈ wA := wA_of (tb2 _ (List.mem_of_getElem? (i := 81) rfl)) rfl
theorem kw_393 : Cond.code yJ9_min_7cf53 cJ9_min_7cf53 2 (some FieldType.int) ∈ wA := wA_of (tb2 _ (List.mem_of_getElem? (i := 82) rfl)) rfl
theorem kw_394 : Cond.methodLink "GatesBent$Town" 105 yX1_knowsAlike ∈ wA := wA_of (tb2 _ (List.mem_of_getElem? (i := 83) rfl)) rfl
theorem kw_395 : Cond.instanceMethod yX1_knowsAlike ∈ wA := wA_of (tb2 _ (List.mem_of_getElem? (i := 84) rfl)) rfl
theorem kw_396 : Cond.selects "GatesBent$Gate" yX1_knowsAlike yX1_knowsAlike ∈ wA := wA_of (tb2 _ (List.mem_of_getElem? (i := 85) rfl)) rfl
theorem kw_397 : Cond.code yX1_knowsAlike cX1_knowsAlike 4 (some FieldType.boolean) ∈ wA := wA_of (tb2 _ (List.mem_of_getElem? (i := 86) rfl)) rfl
theorem kw_399 : Cond.static yX7_alike ∈ wA := wA_of (tb2 _ (List.mem_of_getElem? (i := 88) rfl)) rfl
theorem kw_400 : Cond.code yX7_alike cX7_alike 2 (some FieldType.int) ∈ wA := wA_of (tb2 _ (List.mem_of_getElem? (i := 89) rfl)) rfl
theorem kw_401 : Cond.methodLink "GatesBent" 73 yJ6_bitCount_0f7a4 ∈ wA := wA_of (tb2 _ (List.mem_of_getElem? (i := 90) rfl)) rfl
theorem kw_402 : Cond.static yJ6_bitCount_0f7a4 ∈ wA := wA_of (tb2 _ (List.mem_of_getElem? (i := 91) rfl)) rfl
theorem kw_403 : Cond.code yJ6_bitCount_0f7a4 cJ6_bitCount_0f7a4 1 (some FieldType.int) ∈ wA := wA_of (tb2 _ (List.mem_of_getElem? (i := 92) rfl)) rfl
theorem kw_404 : Cond.constant "java/lang/Integer" 265 (1431655765 : Int32) ∈ wA := wA_of (tb2 _ (List.mem_of_getElem? (i := 93) rfl)) rfl
theorem kw_405 : Cond.constant "java/lang/Integer" 266 (858993459 : Int32) ∈ wA := wA_of (tb2 _ (List.mem_of_getElem? (i := 94) rfl)) rfl
theorem kw_406 : Cond.constant "java/lang/Integer" 267 (252645135 : Int32) ∈ wA := wA_of (tb2 _ (List.mem_of_getElem? (i := 95) rfl)) rfl
theorem kw_407 : Cond.methodLink "GatesBent" 110 yX7_nearest ∈ wA := wA_of (tb2 _ (List.mem_of_getElem? (i := 96) rfl)) rfl
theorem kw_409 : Cond.instanceMethod yX7_nearest ∈ wA := wA_of (tb2 _ (List.mem_of_getElem? (i := 98) rfl)) rfl
theorem kw_410 : Cond.code yX7_nearest cX7_nearest 8 (some FieldType.int) ∈ wA := wA_of (tb2 _ (List.mem_of_getElem? (i := 99) rfl)) rfl
theorem kw_411 : Cond.methodLink "GatesBent" 145 yX6_likeToWalk ∈ wA := wA_of (tb2 _ (List.mem_of_getElem? (i := 100) rfl)) rfl
theorem kw_412 : Cond.instanceMethod yX6_likeToWalk ∈ wA := wA_of (tb2 _ (List.mem_of_getElem? (i := 101) rfl)) rfl
theorem kw_413 : Cond.selects "GatesBent$Town" yX6_likeToWalk yX6_likeToWalk ∈ wA := wA_of (tb2 _ (List.mem_of_getElem? (i := 102) rfl)) rfl
theorem kw_414 : Cond.code yX6_likeToWalk cX6_likeToWalk 4 (some FieldType.int) ∈ wA := wA_of (tb2 _ (List.mem_of_getElem? (i := 103) rfl)) rfl
theorem kw_416 : Cond.methodLink "GatesBent" 132 yX7_daysUntilOut ∈ wA := wA_of (tb2 _ (List.mem_of_getElem? (i := 105) rfl)) rfl
theorem kw_418 : Cond.instanceMethod yX7_daysUntilOut ∈ wA := wA_of (tb2 _ (List.mem_of_getElem? (i := 107) rfl)) rfl
theorem kw_419 : Cond.code yX7_daysUntilOut cX7_daysUntilOut 4 (some FieldType.int) ∈ wA := wA_of (tb2 _ (List.mem_of_getElem? (i := 108) rfl)) rfl
theorem kw_420 : Cond.methodLink "GatesBent" 87 yX6_become ∈ wA := wA_of (tb2 _ (List.mem_of_getElem? (i := 109) rfl)) rfl
theorem kw_421 : Cond.instanceMethod yX6_become ∈ wA := wA_of (tb2 _ (List.mem_of_getElem? (i := 110) rfl)) rfl
theorem kw_422 : Cond.selects "GatesBent$Town" yX6_become yX6_become ∈ wA := wA_of (tb2 _ (List.mem_of_getElem? (i := 111) rfl)) rfl
theorem kw_423 : Cond.code yX6_become cX6_become 3 none ∈ wA := wA_of (tb2 _ (List.mem_of_getElem? (i := 112) rfl)) rfl
theorem kw_424 : Cond.methodLink "GatesBent$Town" 44 yX1_become ∈ wA := wA_of (tb2 _ (List.mem_of_getElem? (i := 113) rfl)) rfl
theorem kw_425 : Cond.instanceMethod yX1_become ∈ wA := wA_of (tb2 _ (List.mem_of_getElem? (i := 114) rfl)) rfl
theorem kw_426 : Cond.selects "GatesBent$Gate" yX1_become yX1_become ∈ wA := wA_of (tb2 _ (List.mem_of_getElem? (i := 115) rfl)) rfl
theorem kw_427 : Cond.code yX1_become cX1_become 2 none ∈ wA := wA_of (tb2 _ (List.mem_of_getElem? (i := 116) rfl)) rfl
theorem kw_428 : Cond.methodLink "GatesBent$Gate" 19 ⟨"java/lang/System", "arraycopy", "(Ljava/lang/Object;ILjava/lang/Object;II)V"⟩ ∈ wA := wA_of (tb2 _ (List.mem_of_getElem? (i := 117) rfl)) rfl
theorem kw_429 : Cond.static ⟨"java/lang/System", "arraycopy", "(Ljava/lang/Object;ILjava/lang/Object;II)V"⟩ ∈ wA := wA_of (tb2 _ (List.mem_of_getElem? (i := 118) rfl)) rfl
theorem kw_430 : Cond.native ⟨"java/lang/System", "arraycopy", "(Ljava/lang/Object;ILjava/lang/Object;II)V"⟩ ∈ wA := wA_of (tb2 _ (List.mem_of_getElem? (i := 119) rfl)) rfl
theorem kw_431 : Cond.methodLink "GatesBent$Town" 48 yX0_become ∈ wA := wA_of (tb2 _ (List.mem_of_getElem? (i := 120) rfl)) rfl
theorem kw_432 : Cond.instanceMethod yX0_become ∈ wA := wA_of (tb2 _ (List.mem_of_getElem? (i := 121) rfl)) rfl
theorem kw_433 : Cond.selects "GatesBent$Comer" yX0_become yX0_become ∈ wA := wA_of (tb2 _ (List.mem_of_getElem? (i := 122) rfl)) rfl
theorem kw_434 : Cond.code yX0_become cX0_become 2 none ∈ wA := wA_of (tb2 _ (List.mem_of_getElem? (i := 123) rfl)) rfl
theorem kw_435 : Cond.methodLink "GatesBent$Comer" 37 ⟨"java/lang/System", "arraycopy", "(Ljava/lang/Object;ILjava/lang/Object;II)V"⟩ ∈ wA := wA_of (tb2 _ (List.mem_of_getElem? (i := 124) rfl)) rfl
theorem kw_436 : Cond.methodLink "GatesBent$Town" 51 yX4_become ∈ wA := wA_of (tb2 _ (List.mem_of_getElem? (i := 125) rfl)) rfl
theorem kw_437 : Cond.instanceMethod yX4_become ∈ wA := wA_of (tb2 _ (List.mem_of_getElem? (i := 126) rfl)) rfl
theorem kw_438 : Cond.selects "GatesBent$Rows" yX4_become yX4_become ∈ wA := wA_of (tb2 _ (List.mem_of_getElem? (i := 127) rfl)) rfl
theorem kw_439 : Cond.code yX4_become cX4_become 2 none ∈ wA := wA_of (tb2 _ (List.mem_of_getElem? (i := 128) rfl)) rfl
theorem kw_440 : Cond.methodLink "GatesBent$Rows" 25 ⟨"java/lang/System", "arraycopy", "(Ljava/lang/Object;ILjava/lang/Object;II)V"⟩ ∈ wA := wA_of (tb2 _ (List.mem_of_getElem? (i := 129) rfl)) rfl
theorem kw_441 : Cond.methodLink "GatesBent" 149 yX6_spendDay ∈ wA := wA_of (tb2 _ (List.mem_of_getElem? (i := 130) rfl)) rfl
theorem kw_442 : Cond.instanceMethod yX6_spendDay ∈ wA := wA_of (tb2 _ (List.mem_of_getElem? (i := 131) rfl)) rfl
theorem kw_443 : Cond.selects "GatesBent$Town" yX6_spendDay yX6_spendDay ∈ wA := wA_of (tb2 _ (List.mem_of_getElem? (i := 132) rfl)) rfl
theorem kw_444 : Cond.code yX6_spendDay cX6_spendDay 2 none ∈ wA := wA_of (tb2 _ (List.mem_of_getElem? (i := 133) rfl)) rfl
theorem kw_445 : Cond.methodLink "GatesBent$Town" 109 yX6_letsBy ∈ wA := wA_of (tb2 _ (List.mem_of_getElem? (i := 134) rfl)) rfl
theorem kw_446 : Cond.methodLink "GatesBentLaw" 23 yX7_set ∈ wA := wA_of (tb2 _ (List.mem_of_getElem? (i := 135) rfl)) rfl
theorem kw_447 : Cond.instanceMethod yX7_set ∈ wA := wA_of (tb2 _ (List.mem_of_getElem? (i := 136) rfl)) rfl
theorem kw_448 : Cond.selects "GatesBent" yX7_set yX7_set ∈ wA := wA_of (tb2 _ (List.mem_of_getElem? (i := 137) rfl)) rfl
theorem kw_449 : Cond.code yX7_set cX7_set 6 (some FieldType.int) ∈ wA := wA_of (tb2 _ (List.mem_of_getElem? (i := 138) rfl)) rfl
theorem kw_450 : Cond.methodLink "GatesBentLaw" 28 yX7_like ∈ wA := wA_of (tb2 _ (List.mem_of_getElem? (i := 139) rfl)) rfl
theorem kw_451 : Cond.instanceMethod yX7_like ∈ wA := wA_of (tb2 _ (List.mem_of_getElem? (i := 140) rfl)) rfl
theorem kw_452 : Cond.selects "GatesBent" yX7_like yX7_like ∈ wA := wA_of (tb2 _ (List.mem_of_getElem? (i := 141) rfl)) rfl
theorem kw_453 : Cond.code yX7_like cX7_like 4 (some FieldType.int) ∈ wA := wA_of (tb2 _ (List.mem_of_getElem? (i := 142) rfl)) rfl
theorem kw_454 : Cond.methodLink "GatesBentLaw" 32 yX7_teach ∈ wA := wA_of (tb2 _ (List.mem_of_getElem? (i := 143) rfl)) rfl
theorem kw_455 : Cond.instanceMethod yX7_teach ∈ wA := wA_of (tb2 _ (List.mem_of_getElem? (i := 144) rfl)) rfl
theorem kw_456 : Cond.selects "GatesBent" yX7_teach yX7_teach ∈ wA := wA_of (tb2 _ (List.mem_of_getElem? (i := 145) rfl)) rfl
theorem kw_457 : Cond.code yX7_teach cX7_teach 3 (some FieldType.int) ∈ wA := wA_of (tb2 _ (List.mem_of_getElem? (i := 146) rfl)) rfl
theorem kw_458 : Cond.methodLink "GatesBent" 156 yX1_learn ∈ wA := wA_of (tb2 _ (List.mem_of_getElem? (i := 147) rfl)) rfl
theorem kw_459 : Cond.instanceMethod yX1_learn ∈ wA := wA_of (tb2 _ (List.mem_of_getElem? (i := 148) rfl)) rfl
theorem kw_460 : Cond.selects "GatesBent$Gate" yX1_learn yX1_learn ∈ wA := wA_of (tb2 _ (List.mem_of_getElem? (i := 149) rfl)) rfl
theorem kw_461 : Cond.code yX1_learn cX1_learn 5 (some FieldType.int) ∈ wA := wA_of (tb2 _ (List.mem_of_getElem? (i := 150) rfl)) rfl
theorem kw_462 : Cond.methodLink "GatesBent$Gate" 25 yX1_leastAlike ∈ wA := wA_of (tb2 _ (List.mem_of_getElem? (i := 151) rfl)) rfl
theorem kw_464 : Cond.instanceMethod yX1_leastAlike ∈ wA := wA_of (tb2 _ (List.mem_of_getElem? (i := 153) rfl)) rfl
theorem kw_465 : Cond.code yX1_leastAlike cX1_leastAlike 4 (some FieldType.int) ∈ wA := wA_of (tb2 _ (List.mem_of_getElem? (i := 154) rfl)) rfl
theorem kw_466 : Cond.methodLink "GatesBentLaw" 36 yX7_forget ∈ wA := wA_of (tb2 _ (List.mem_of_getElem? (i := 155) rfl)) rfl
theorem kw_467 : Cond.instanceMethod yX7_forget ∈ wA := wA_of (tb2 _ (List.mem_of_getElem? (i := 156) rfl)) rfl
theorem kw_468 : Cond.selects "GatesBent" yX7_forget yX7_forget ∈ wA := wA_of (tb2 _ (List.mem_of_getElem? (i := 157) rfl)) rfl
theorem kw_469 : Cond.code yX7_forget cX7_forget 3 (some FieldType.int) ∈ wA := wA_of (tb2 _ (List.mem_of_getElem? (i := 158) rfl)) rfl
theorem kw_470 : Cond.methodLink "GatesBentLaw" 41 yX7_row ∈ wA := wA_of (tb2 _ (List.mem_of_getElem? (i := 159) rfl)) rfl
theorem kw_471 : Cond.instanceMethod yX7_row ∈ wA := wA_of (tb2 _ (List.mem_of_getElem? (i := 160) rfl)) rfl
theorem kw_472 : Cond.selects "GatesBent" yX7_row yX7_row ∈ wA := wA_of (tb2 _ (List.mem_of_getElem? (i := 161) rfl)) rfl
theorem kw_473 : Cond.code yX7_row cX7_row 6 (some FieldType.int) ∈ wA := wA_of (tb2 _ (List.mem_of_getElem? (i := 162) rfl)) rfl
theorem kw_474 : Cond.methodLink "GatesBentLaw" 45 yX7_feed ∈ wA := wA_of (tb2 _ (List.mem_of_getElem? (i := 163) rfl)) rfl
theorem kw_475 : Cond.instanceMethod yX7_feed ∈ wA := wA_of (tb2 _ (List.mem_of_getElem? (i := 164) rfl)) rfl
theorem kw_476 : Cond.selects "GatesBent" yX7_feed yX7_feed ∈ wA := wA_of (tb2 _ (List.mem_of_getElem? (i := 165) rfl)) rfl
theorem kw_477 : Cond.code yX7_feed cX7_feed 2 (some FieldType.int) ∈ wA := wA_of (tb2 _ (List.mem_of_getElem? (i := 166) rfl)) rfl
theorem kw_478 : Cond.methodLink "GatesBentLaw" 49 yX7_house ∈ wA := wA_of (tb2 _ (List.mem_of_getElem? (i := 167) rfl)) rfl
theorem kw_479 : Cond.instanceMethod yX7_house ∈ wA := wA_of (tb2 _ (List.mem_of_getElem? (i := 168) rfl)) rfl
theorem kw_480 : Cond.selects "GatesBent" yX7_house yX7_house ∈ wA := wA_of (tb2 _ (List.mem_of_getElem? (i := 169) rfl)) rfl
theorem kw_481 : Cond.code yX7_house cX7_house 3 (some FieldType.int) ∈ wA := wA_of (tb2 _ (List.mem_of_getElem? (i := 170) rfl)) rfl
theorem kw_482 : Cond.methodLink "GatesBent" 172 yX3_readHouse ∈ wA := wA_of (tb2 _ (List.mem_of_getElem? (i := 171) rfl)) rfl
theorem kw_483 : Cond.instanceMethod yX3_readHouse ∈ wA := wA_of (tb2 _ (List.mem_of_getElem? (i := 172) rfl)) rfl
theorem kw_484 : Cond.selects "GatesBent$Reader" yX3_readHouse yX3_readHouse ∈ wA := wA_of (tb2 _ (List.mem_of_getElem? (i := 173) rfl)) rfl
theorem kw_485 : Cond.code yX3_readHouse cX3_readHouse 3 (some FieldType.boolean) ∈ wA := wA_of (tb2 _ (List.mem_of_getElem? (i := 174) rfl)) rfl
theorem kw_486 : Cond.methodLink "GatesBent$Reader" 19 yX2_clear ∈ wA := wA_of (tb2 _ (List.mem_of_getElem? (i := 175) rfl)) rfl
theorem kw_487 : Cond.instanceMethod yX2_clear ∈ wA := wA_of (tb2 _ (List.mem_of_getElem? (i := 176) rfl)) rfl
theorem kw_488 : Cond.selects "GatesBent$House" yX2_clear yX2_clear ∈ wA := wA_of (tb2 _ (List.mem_of_getElem? (i := 177) rfl)) rfl
theorem kw_489 : Cond.code yX2_clear cX2_clear 1 none ∈ wA := wA_of (tb2 _ (List.mem_of_getElem? (i := 178) rfl)) rfl
theorem kw_490 : Cond.methodLink "GatesBent$Reader" 28 yX3_readClause ∈ wA := wA_of (tb2 _ (List.mem_of_getElem? (i := 179) rfl)) rfl
theorem kw_492 : Cond.instanceMethod yX3_readClause ∈ wA := wA_of (tb2 _ (List.mem_of_getElem? (i := 181) rfl)) rfl
theorem kw_493 : Cond.code yX3_readClause cX3_readClause 3 (some FieldType.boolean) ∈ wA := wA_of (tb2 _ (List.mem_of_getElem? (i := 182) rfl)) rfl
theorem kw_494 : Cond.methodLink "GatesBent$Reader" 39 yX3_readWord ∈ wA := wA_of (tb2 _ (List.mem_of_getElem? (i := 183) rfl)) rfl
theorem kw_496 : Cond.instanceMethod yX3_readWord ∈ wA := wA_of (tb2 _ (List.mem_of_getElem? (i := 185) rfl)) rfl
theorem kw_497 : Cond.code yX3_readWord cX3_readWord 5 (some FieldType.int) ∈ wA := wA_of (tb2 _ (List.mem_of_getElem? (i := 186) rfl)) rfl
theorem kw_498 : Cond.methodLink "GatesBent$Reader" 59 yX3_wordOf ∈ wA := wA_of (tb2 _ (List.mem_of_getElem? (i := 187) rfl)) rfl
theorem kw_499 : Cond.static yX3_wordOf ∈ wA := wA_of (tb2 _ (List.mem_of_getElem? (i := 188) rfl)) rfl
theorem kw_500 : Cond.code yX3_wordOf cX3_wordOf 1 (some (FieldType.object "java/lang/String")) ∈ wA := wA_of (tb2 _ (List.mem_of_getElem? (i := 189) rfl)) rfl
theorem kw_505 : Cond.methodLink "GatesBent$Reader" 63 yX3_sameSigns ∈ wA := wA_of (tb2 _ (List.mem_of_getElem? (i := 194) rfl)) rfl
theorem kw_507 : Cond.instanceMethod yX3_sameSigns ∈ wA := wA_of (tb2 _ (List.mem_of_getElem? (i := 196) rfl)) rfl
theorem kw_508 : Cond.code yX3_sameSigns cX3_sameSigns 3 (some FieldType.int) ∈ wA := wA_of (tb2 _ (List.mem_of_getElem? (i := 197) rfl)) rfl
theorem kw_509 : Cond.methodLink "GatesBent$Reader" 67 yJ0_length_8abf5 ∈ wA := wA_of (tb2 _ (List.mem_of_getElem? (i := 198) rfl)) rfl
theorem kw_510 : Cond.instanceMethod yJ0_length_8abf5 ∈ wA := wA_of (tb2 _ (List.mem_of_getElem? (i := 199) rfl)) rfl
theorem kw_511 : Cond.selects "java/lang/String" yJ0_length_8abf5 yJ0_length_8abf5 ∈ wA := wA_of (tb2 _ (List.mem_of_getElem? (i := 200) rfl)) rfl
theorem kw_512 : Cond.code yJ0_length_8abf5 cJ0_length_8abf5 1 (some FieldType.int) ∈ wA := wA_of (tb2 _ (List.mem_of_getElem? (i := 201) rfl)) rfl
theorem kw_513 : Cond.methodLink "java/lang/String" 335 yJ0_coder_7d493 ∈ wA := wA_of (tb2 _ (List.mem_of_getElem? (i := 202) rfl)) rfl
theorem kw_514 : Cond.instanceMethod yJ0_coder_7d493 ∈ wA := wA_of (tb2 _ (List.mem_of_getElem? (i := 203) rfl)) rfl
theorem kw_515 : Cond.selects "java/lang/String" yJ0_coder_7d493 yJ0_coder_7d493 ∈ wA := wA_of (tb2 _ (List.mem_of_getElem? (i := 204) rfl)) rfl
theorem kw_516 : Cond.code yJ0_coder_7d493 cJ0_coder_7d493 1 (some FieldType.byte) ∈ wA := wA_of (tb2 _ (List.mem_of_getElem? (i := 205) rfl)) rfl
theorem kw_517 : Cond.fieldLink "java/lang/String" 38 "java/lang/String" "COMPACT_STRINGS" "Z" ∈ wA := wA_of (tb2 _ (List.mem_of_getElem? (i := 206) rfl)) rfl
theorem kw_519 : Cond.methodLink "GatesBent$Reader" 83 yJ0_charAt_5068e ∈ wA := wA_of (tb2 _ (List.mem_of_getElem? (i := 208) rfl)) rfl
theorem kw_520 : Cond.instanceMethod yJ0_charAt_5068e ∈ wA := wA_of (tb2 _ (List.mem_of_getElem? (i := 209) rfl)) rfl
theorem kw_521 : Cond.selects "java/lang/String" yJ0_charAt_5068e yJ0_charAt_5068e ∈ wA := wA_of (tb2 _ (List.mem_of_getElem? (i := 210) rfl)) rfl
theorem kw_522 : Cond.code yJ0_charAt_5068e cJ0_charAt_5068e 2 (some FieldType.char) ∈ wA := wA_of (tb2 _ (List.mem_of_getElem? (i := 211) rfl)) rfl
theorem kw_523 : Cond.methodLink "java/lang/String" 492 yJ0_isLatin1_aae02 ∈ wA := wA_of (tb2 _ (List.mem_of_getElem? (i := 212) rfl)) rfl
theorem kw_524 : Cond.instanceMethod yJ0_isLatin1_aae02 ∈ wA := wA_of (tb2 _ (List.mem_of_getElem? (i := 213) rfl)) rfl
theorem kw_525 : Cond.selects "java/lang/String" yJ0_isLatin1_aae02 yJ0_isLatin1_aae02 ∈ wA := wA_of (tb2 _ (List.mem_of_getElem? (i := 214) rfl)) rfl
theorem kw_526 : Cond.code yJ0_isLatin1_aae02 cJ0_isLatin1_aae02 1 (some FieldType.boolean) ∈ wA := wA_of (tb2 _ (List.mem_of_getElem? (i := 215) rfl)) rfl
theorem kw_527 : Cond.methodLink "java/lang/String" 495 yJ1_charAt_3b067 ∈ wA := wA_of (tb2 _ (List.mem_of_getElem? (i := 216) rfl)) rfl
theorem kw_528 : Cond.static yJ1_charAt_3b067 ∈ wA := wA_of (tb2 _ (List.mem_of_getElem? (i := 217) rfl)) rfl
theorem kw_529 : Cond.code yJ1_charAt_3b067 cJ1_charAt_3b067 2 (some FieldType.char) ∈ wA := wA_of (tb2 _ (List.mem_of_getElem? (i := 218) rfl)) rfl
theorem kw_530 : Cond.methodLink "java/lang/StringLatin1" 9 yJ0_checkIndex_df160 ∈ wA := wA_of (tb2 _ (List.mem_of_getElem? (i := 219) rfl)) rfl
theorem kw_531 : Cond.static yJ0_checkIndex_df160 ∈ wA := wA_of (tb2 _ (List.mem_of_getElem? (i := 220) rfl)) rfl
theorem kw_532 : Cond.code yJ0_checkIndex_df160 cJ0_checkIndex_df160 2 none ∈ wA := wA_of (tb2 _ (List.mem_of_getElem? (i := 221) rfl)) rfl
theorem kw_533 : Cond.fieldLink "java/lang/String" 1053 "jdk/internal/util/Preconditions" "SIOOBE_FORMATTER" "Ljava/util/function/BiFunction;" ∈ wA := wA_of (tb2 _ (List.mem_of_getElem? (i := 222) rfl)) rfl
theorem kw_535 : Cond.methodLink "java/lang/String" 1059 yJ3_checkIndex_8e157 ∈ wA := wA_of (tb2 _ (List.mem_of_getElem? (i := 224) rfl)) rfl
theorem kw_536 : Cond.static yJ3_checkIndex_8e157 ∈ wA := wA_of (tb2 _ (List.mem_of_getElem? (i := 225) rfl)) rfl
theorem kw_537 : Cond.code yJ3_checkIndex_8e157 cJ3_checkIndex_8e157 3 (some FieldType.int) ∈ wA := wA_of (tb2 _ (List.mem_of_getElem? (i := 226) rfl)) rfl
theorem kw_538 : Cond.methodLink "java/lang/String" 498 yJ2_charAt_3b067 ∈ wA := wA_of (tb2 _ (List.mem_of_getElem? (i := 227) rfl)) rfl
theorem kw_539 : Cond.static yJ2_charAt_3b067 ∈ wA := wA_of (tb2 _ (List.mem_of_getElem? (i := 228) rfl)) rfl
theorem kw_540 : Cond.code yJ2_charAt_3b067 cJ2_charAt_3b067 2 (some FieldType.char) ∈ wA := wA_of (tb2 _ (List.mem_of_getElem? (i := 229) rfl)) rfl
theorem kw_541 : Cond.methodLink "java/lang/StringUTF16" 67 yJ2_checkIndex_2214a ∈ wA := wA_of (tb2 _ (List.mem_of_getElem? (i := 230) rfl)) rfl
theorem kw_542 : Cond.static yJ2_checkIndex_2214a ∈ wA := wA_of (tb2 _ (List.mem_of_getElem? (i := 231) rfl)) rfl
theorem kw_543 : Cond.code yJ2_checkIndex_2214a cJ2_checkIndex_2214a 2 none ∈ wA := wA_of (tb2 _ (List.mem_of_getElem? (i := 232) rfl)) rfl
theorem kw_544 : Cond.methodLink "java/lang/StringUTF16" 48 yJ2_length_9d52b ∈ wA := wA_of (tb2 _ (List.mem_of_getElem? (i := 233) rfl)) rfl
theorem kw_545 : Cond.static yJ2_length_9d52b ∈ wA := wA_of (tb2 _ (List.mem_of_getElem? (i := 234) rfl)) rfl
theorem kw_546 : Cond.code yJ2_length_9d52b cJ2_length_9d52b 1 (some FieldType.int) ∈ wA := wA_of (tb2 _ (List.mem_of_getElem? (i := 235) rfl)) rfl
theorem kw_547 : Cond.methodLink "java/lang/StringUTF16" 414 yJ0_checkIndex_df160 ∈ wA := wA_of (tb2 _ (List.mem_of_getElem? (i := 236) rfl)) rfl
theorem kw_548 : Cond.methodLink "java/lang/StringUTF16" 71 yJ2_getChar_3b067 ∈ wA := wA_of (tb2 _ (List.mem_of_getElem? (i := 237) rfl)) rfl
theorem kw_549 : Cond.static yJ2_getChar_3b067 ∈ wA := wA_of (tb2 _ (List.mem_of_getElem? (i := 238) rfl)) rfl
theorem kw_550 : Cond.code yJ2_getChar_3b067 cJ2_getChar_3b067 2 (some FieldType.char) ∈ wA := wA_of (tb2 _ (List.mem_of_getElem? (i := 239) rfl)) rfl
theorem kw_551 : Cond.fieldLink "java/lang/StringUTF16" 44 "java/lang/StringUTF16" "$assertionsDisabled" "Z" ∈ wA := wA_of (tb3 _ (List.mem_of_getElem? (i := 0) rfl)) rfl
theorem kw_553 : Cond.fieldLink "java/lang/StringUTF16" 59 "java/lang/StringUTF16" "HI_BYTE_SHIFT" "I" ∈ wA := wA_of (tb3 _ (List.mem_of_getElem? (i := 2) rfl)) rfl
theorem kw_555 : Cond.fieldLink "java/lang/StringUTF16" 63 "java/lang/StringUTF16" "LO_BYTE_SHIFT" "I" ∈ wA := wA_of (tb3 _ (List.mem_of_getElem? (i := 4) rfl)) rfl
theorem kw_557 : Cond.methodLink "GatesBent$Reader" 71 yJ9_max_7cf53 ∈ wA := wA_of (tb3 _ (List.mem_of_getElem? (i := 6) rfl)) rfl
theorem kw_558 : Cond.static yJ9_max_7cf53 ∈ wA := wA_of (tb3 _ (List.mem_of_getElem? (i := 7) rfl)) rfl
theorem kw_559 : Cond.code yJ9_max_7cf53 cJ9_max_7cf53 2 (some FieldType.int) ∈ wA := wA_of (tb3 _ (List.mem_of_getElem? (i := 8) rfl)) rfl
theorem kw_560 : Cond.methodLink "GatesBent$Reader" 35 yX3_readSign ∈ wA := wA_of (tb3 _ (List.mem_of_getElem? (i := 9) rfl)) rfl
theorem kw_562 : Cond.instanceMethod yX3_readSign ∈ wA := wA_of (tb3 _ (List.mem_of_getElem? (i := 11) rfl)) rfl
theorem kw_563 : Cond.code yX3_readSign cX3_readSign 2 (some FieldType.boolean) ∈ wA := wA_of (tb3 _ (List.mem_of_getElem? (i := 12) rfl)) rfl
theorem kw_564 : Cond.methodLink "GatesBent$Reader" 90 yX3_signAt ∈ wA := wA_of (tb3 _ (List.mem_of_getElem? (i := 13) rfl)) rfl
theorem kw_566 : Cond.instanceMethod yX3_signAt ∈ wA := wA_of (tb3 _ (List.mem_of_getElem? (i := 15) rfl)) rfl
theorem kw_567 : Cond.code yX3_signAt cX3_signAt 1 (some FieldType.int) ∈ wA := wA_of (tb3 _ (List.mem_of_getElem? (i := 16) rfl)) rfl
theorem kw_568 : Cond.methodLink "GatesBent$Reader" 43 yX3_readNumber ∈ wA := wA_of (tb3 _ (List.mem_of_getElem? (i := 17) rfl)) rfl
theorem kw_570 : Cond.instanceMethod yX3_readNumber ∈ wA := wA_of (tb3 _ (List.mem_of_getElem? (i := 19) rfl)) rfl
theorem kw_571 : Cond.code yX3_readNumber cX3_readNumber 4 (some FieldType.int) ∈ wA := wA_of (tb3 _ (List.mem_of_getElem? (i := 20) rfl)) rfl
theorem kw_572 : Cond.methodLink "GatesBent$Reader" 52 yX3_readEither ∈ wA := wA_of (tb3 _ (List.mem_of_getElem? (i := 21) rfl)) rfl
theorem kw_574 : Cond.instanceMethod yX3_readEither ∈ wA := wA_of (tb3 _ (List.mem_of_getElem? (i := 23) rfl)) rfl
theorem kw_575 : Cond.code yX3_readEither cX3_readEither 4 (some FieldType.boolean) ∈ wA := wA_of (tb3 _ (List.mem_of_getElem? (i := 24) rfl)) rfl
theorem kw_576 : Cond.methodLink "GatesBent$Reader" 87 yX3_readFactor ∈ wA := wA_of (tb3 _ (List.mem_of_getElem? (i := 25) rfl)) rfl
theorem kw_578 : Cond.instanceMethod yX3_readFactor ∈ wA := wA_of (tb3 _ (List.mem_of_getElem? (i := 27) rfl)) rfl
theorem kw_579 : Cond.code yX3_readFactor cX3_readFactor 3 (some FieldType.boolean) ∈ wA := wA_of (tb3 _ (List.mem_of_getElem? (i := 28) rfl)) rfl
theorem kw_580 : Cond.methodLink "GatesBent$Reader" 93 yX3_readTest ∈ wA := wA_of (tb3 _ (List.mem_of_getElem? (i := 29) rfl)) rfl
theorem kw_582 : Cond.instanceMethod yX3_readTest ∈ wA := wA_of (tb3 _ (List.mem_of_getElem? (i := 31) rfl)) rfl
theorem kw_583 : Cond.code yX3_readTest cX3_readTest 4 (some FieldType.boolean) ∈ wA := wA_of (tb3 _ (List.mem_of_getElem? (i := 32) rfl)) rfl
theorem kw_585 : Cond.methodLink "GatesBent$Reader" 98 yX3_readOneOf ∈ wA := wA_of (tb3 _ (List.mem_of_getElem? (i := 34) rfl)) rfl
theorem kw_587 : Cond.instanceMethod yX3_readOneOf ∈ wA := wA_of (tb3 _ (List.mem_of_getElem? (i := 36) rfl)) rfl
theorem kw_588 : Cond.code yX3_readOneOf cX3_readOneOf 4 (some FieldType.int) ∈ wA := wA_of (tb3 _ (List.mem_of_getElem? (i := 37) rfl)) rfl
theorem kw_590 : Cond.methodLink "GatesBent$Reader" 55 yX2_put ∈ wA := wA_of (tb3 _ (List.mem_of_getElem? (i := 39) rfl)) rfl
theorem kw_591 : Cond.instanceMethod yX2_put ∈ wA := wA_of (tb3 _ (List.mem_of_getElem? (i := 40) rfl)) rfl
theorem kw_592 : Cond.selects "GatesBent$House" yX2_put yX2_put ∈ wA := wA_of (tb3 _ (List.mem_of_getElem? (i := 41) rfl)) rfl
theorem kw_593 : Cond.code yX2_put cX2_put 3 none ∈ wA := wA_of (tb3 _ (List.mem_of_getElem? (i := 42) rfl)) rfl
theorem kw_594 : Cond.methodLink "GatesBentLaw" 54 yX7_told ∈ wA := wA_of (tb3 _ (List.mem_of_getElem? (i := 43) rfl)) rfl
theorem kw_595 : Cond.instanceMethod yX7_told ∈ wA := wA_of (tb3 _ (List.mem_of_getElem? (i := 44) rfl)) rfl
theorem kw_596 : Cond.selects "GatesBent" yX7_told yX7_told ∈ wA := wA_of (tb3 _ (List.mem_of_getElem? (i := 45) rfl)) rfl
theorem kw_597 : Cond.code yX7_told cX7_told 4 (some FieldType.int) ∈ wA := wA_of (tb3 _ (List.mem_of_getElem? (i := 46) rfl)) rfl
theorem kw_598 : Cond.methodLink "GatesBent" 183 yX7_master ∈ wA := wA_of (tb3 _ (List.mem_of_getElem? (i := 47) rfl)) rfl
theorem kw_600 : Cond.instanceMethod yX7_master ∈ wA := wA_of (tb3 _ (List.mem_of_getElem? (i := 49) rfl)) rfl
theorem kw_601 : Cond.code yX7_master cX7_master 6 (some FieldType.int) ∈ wA := wA_of (tb3 _ (List.mem_of_getElem? (i := 50) rfl)) rfl
theorem kw_602 : Cond.methodLink "GatesBent" 205 yX7_askNeededByComer ∈ wA := wA_of (tb3 _ (List.mem_of_getElem? (i := 51) rfl)) rfl
theorem kw_604 : Cond.instanceMethod yX7_askNeededByComer ∈ wA := wA_of (tb3 _ (List.mem_of_getElem? (i := 53) rfl)) rfl
theorem kw_605 : Cond.code yX7_askNeededByComer cX7_askNeededByComer 3 none ∈ wA := wA_of (tb3 _ (List.mem_of_getElem? (i := 54) rfl)) rfl
theorem kw_606 : Cond.methodLink "GatesBent" 202 yX6_marksNeeded ∈ wA := wA_of (tb3 _ (List.mem_of_getElem? (i := 55) rfl)) rfl
theorem kw_607 : Cond.methodLink "GatesBent" 186 yX7_letByWalkAlone ∈ wA := wA_of (tb3 _ (List.mem_of_getElem? (i := 56) rfl)) rfl
theorem kw_609 : Cond.instanceMethod yX7_letByWalkAlone ∈ wA := wA_of (tb3 _ (List.mem_of_getElem? (i := 58) rfl)) rfl
theorem kw_610 : Cond.code yX7_letByWalkAlone cX7_letByWalkAlone 4 (some FieldType.int) ∈ wA := wA_of (tb3 _ (List.mem_of_getElem? (i := 59) rfl)) rfl
theorem kw_611 : Cond.methodLink "GatesBent" 208 yX7_alike ∈ wA := wA_of (tb3 _ (List.mem_of_getElem? (i := 60) rfl)) rfl
theorem kw_612 : Cond.methodLink "GatesBent" 195 yX6_whoIsLet ∈ wA := wA_of (tb3 _ (List.mem_of_getElem? (i := 61) rfl)) rfl
theorem kw_613 : Cond.instanceMethod yX6_whoIsLet ∈ wA := wA_of (tb3 _ (List.mem_of_getElem? (i := 62) rfl)) rfl
theorem kw_614 : Cond.selects "GatesBent$Town" yX6_whoIsLet yX6_whoIsLet ∈ wA := wA_of (tb3 _ (List.mem_of_getElem? (i := 63) rfl)) rfl
theorem kw_615 : Cond.code yX6_whoIsLet cX6_whoIsLet 3 (some FieldType.int) ∈ wA := wA_of (tb3 _ (List.mem_of_getElem? (i := 64) rfl)) rfl
theorem kw_616 : Cond.methodLink "GatesBent" 199 yX6_passedTogether ∈ wA := wA_of (tb3 _ (List.mem_of_getElem? (i := 65) rfl)) rfl
theorem kw_617 : Cond.instanceMethod yX6_passedTogether ∈ wA := wA_of (tb3 _ (List.mem_of_getElem? (i := 66) rfl)) rfl
theorem kw_618 : Cond.selects "GatesBent$Town" yX6_passedTogether yX6_passedTogether ∈ wA := wA_of (tb3 _ (List.mem_of_getElem? (i := 67) rfl)) rfl
theorem kw_619 : Cond.code yX6_passedTogether cX6_passedTogether 3 (some FieldType.int) ∈ wA := wA_of (tb3 _ (List.mem_of_getElem? (i := 68) rfl)) rfl
theorem kw_620 : Cond.methodLink "GatesBentLaw" 58 yX7_pass ∈ wA := wA_of (tb3 _ (List.mem_of_getElem? (i := 69) rfl)) rfl
theorem kw_621 : Cond.instanceMethod yX7_pass ∈ wA := wA_of (tb3 _ (List.mem_of_getElem? (i := 70) rfl)) rfl
theorem kw_622 : Cond.selects "GatesBent" yX7_pass yX7_pass ∈ wA := wA_of (tb3 _ (List.mem_of_getElem? (i := 71) rfl)) rfl
theorem kw_623 : Cond.code yX7_pass cX7_pass 2 (some FieldType.int) ∈ wA := wA_of (tb3 _ (List.mem_of_getElem? (i := 72) rfl)) rfl
theorem kw_624 : Cond.methodLink "GatesBent" 91 yX6_goDays ∈ wA := wA_of (tb3 _ (List.mem_of_getElem? (i := 73) rfl)) rfl
theorem kw_625 : Cond.instanceMethod yX6_goDays ∈ wA := wA_of (tb3 _ (List.mem_of_getElem? (i := 74) rfl)) rfl
theorem kw_626 : Cond.selects "GatesBent$Town" yX6_goDays yX6_goDays ∈ wA := wA_of (tb3 _ (List.mem_of_getElem? (i := 75) rfl)) rfl
theorem kw_627 : Cond.code yX6_goDays cX6_goDays 4 none ∈ wA := wA_of (tb3 _ (List.mem_of_getElem? (i := 76) rfl)) rfl
theorem kw_628 : Cond.methodLink "GatesBent$Town" 116 yX6_spendDay ∈ wA := wA_of (tb3 _ (List.mem_of_getElem? (i := 77) rfl)) rfl
theorem kw_629 : Cond.methodLink "GatesBentLaw" 62 yX7_on ∈ wA := wA_of (tb3 _ (List.mem_of_getElem? (i := 78) rfl)) rfl
theorem kw_630 : Cond.instanceMethod yX7_on ∈ wA := wA_of (tb3 _ (List.mem_of_getElem? (i := 79) rfl)) rfl
theorem kw_631 : Cond.selects "GatesBent" yX7_on yX7_on ∈ wA := wA_of (tb3 _ (List.mem_of_getElem? (i := 80) rfl)) rfl
theorem kw_632 : Cond.code yX7_on cX7_on 4 (some FieldType.int) ∈ wA := wA_of (tb3 _ (List.mem_of_getElem? (i := 81) rfl)) rfl
theorem kw_633 : Cond.methodLink "GatesBent" 212 yX7_aheadBy ∈ wA := wA_of (tb3 _ (List.mem_of_getElem? (i := 82) rfl)) rfl
theorem kw_635 : Cond.instanceMethod yX7_aheadBy ∈ wA := wA_of (tb3 _ (List.mem_of_getElem? (i := 84) rfl)) rfl
theorem kw_636 : Cond.code yX7_aheadBy cX7_aheadBy 2 (some (FieldType.object "GatesBent$Town")) ∈ wA := wA_of (tb3 _ (List.mem_of_getElem? (i := 85) rfl)) rfl
theorem kw_637 : Cond.methodLink "GatesBentLaw" 66 yX7_lessons ∈ wA := wA_of (tb3 _ (List.mem_of_getElem? (i := 86) rfl)) rfl
theorem kw_638 : Cond.instanceMethod yX7_lessons ∈ wA := wA_of (tb3 _ (List.mem_of_getElem? (i := 87) rfl)) rfl
theorem kw_639 : Cond.selects "GatesBent" yX7_lessons yX7_lessons ∈ wA := wA_of (tb3 _ (List.mem_of_getElem? (i := 88) rfl)) rfl
theorem kw_640 : Cond.code yX7_lessons cX7_lessons 5 (some FieldType.int) ∈ wA := wA_of (tb3 _ (List.mem_of_getElem? (i := 89) rfl)) rfl
theorem kw_641 : Cond.methodLink "GatesBent" 216 yX7_bestLessons ∈ wA := wA_of (tb3 _ (List.mem_of_getElem? (i := 90) rfl)) rfl
theorem kw_643 : Cond.instanceMethod yX7_bestLessons ∈ wA := wA_of (tb3 _ (List.mem_of_getElem? (i := 92) rfl)) rfl
theorem kw_644 : Cond.code yX7_bestLessons cX7_bestLessons 8 (some FieldType.int) ∈ wA := wA_of (tb3 _ (List.mem_of_getElem? (i := 93) rfl)) rfl
theorem kw_645 : Cond.methodLink "GatesBent" 219 yX7_letByLessons ∈ wA := wA_of (tb3 _ (List.mem_of_getElem? (i := 94) rfl)) rfl
theorem kw_647 : Cond.instanceMethod yX7_letByLessons ∈ wA := wA_of (tb3 _ (List.mem_of_getElem? (i := 96) rfl)) rfl
theorem kw_648 : Cond.code yX7_letByLessons cX7_letByLessons 6 (some FieldType.int) ∈ wA := wA_of (tb3 _ (List.mem_of_getElem? (i := 97) rfl)) rfl
theorem kw_649 : Cond.methodLink "GatesBent" 226 yX1_become ∈ wA := wA_of (tb3 _ (List.mem_of_getElem? (i := 98) rfl)) rfl
theorem kw_650 : Cond.methodLink "GatesBent" 223 yX7_pupil ∈ wA := wA_of (tb3 _ (List.mem_of_getElem? (i := 99) rfl)) rfl
theorem kw_652 : Cond.instanceMethod yX7_pupil ∈ wA := wA_of (tb3 _ (List.mem_of_getElem? (i := 101) rfl)) rfl
theorem kw_653 : Cond.code yX7_pupil cX7_pupil 6 (some FieldType.int) ∈ wA := wA_of (tb3 _ (List.mem_of_getElem? (i := 102) rfl)) rfl
theorem kw_654 : Cond.methodLink "GatesBent" 229 yX1_knowsAlike ∈ wA := wA_of (tb3 _ (List.mem_of_getElem? (i := 103) rfl)) rfl
theorem kw_655 : Cond.methodLink "GatesBentLaw" 70 yX7_feign ∈ wA := wA_of (tb3 _ (List.mem_of_getElem? (i := 104) rfl)) rfl
theorem kw_656 : Cond.instanceMethod yX7_feign ∈ wA := wA_of (tb3 _ (List.mem_of_getElem? (i := 105) rfl)) rfl
theorem kw_657 : Cond.selects "GatesBent" yX7_feign yX7_feign ∈ wA := wA_of (tb3 _ (List.mem_of_getElem? (i := 106) rfl)) rfl
theorem kw_658 : Cond.code yX7_feign cX7_feign 10 (some FieldType.int) ∈ wA := wA_of (tb3 _ (List.mem_of_getElem? (i := 107) rfl)) rfl
theorem kw_659 : Cond.methodLink "GatesBentLaw" 74 yX7_see ∈ wA := wA_of (tb3 _ (List.mem_of_getElem? (i := 108) rfl)) rfl
theorem kw_660 : Cond.instanceMethod yX7_see ∈ wA := wA_of (tb3 _ (List.mem_of_getElem? (i := 109) rfl)) rfl
theorem kw_661 : Cond.selects "GatesBent" yX7_see yX7_see ∈ wA := wA_of (tb3 _ (List.mem_of_getElem? (i := 110) rfl)) rfl
theorem kw_662 : Cond.code yX7_see cX7_see 4 (some FieldType.int) ∈ wA := wA_of (tb3 _ (List.mem_of_getElem? (i := 111) rfl)) rfl
theorem kw_663 : Cond.methodLink "GatesBent" 236 yX4_clear ∈ wA := wA_of (tb3 _ (List.mem_of_getElem? (i := 112) rfl)) rfl
theorem kw_664 : Cond.instanceMethod yX4_clear ∈ wA := wA_of (tb3 _ (List.mem_of_getElem? (i := 113) rfl)) rfl
theorem kw_665 : Cond.selects "GatesBent$Rows" yX4_clear yX4_clear ∈ wA := wA_of (tb3 _ (List.mem_of_getElem? (i := 114) rfl)) rfl
theorem kw_666 : Cond.code yX4_clear cX4_clear 1 (some FieldType.int) ∈ wA := wA_of (tb3 _ (List.mem_of_getElem? (i := 115) rfl)) rfl
theorem kw_667 : Cond.methodLink "GatesBent" 241 yX4_add ∈ wA := wA_of (tb3 _ (List.mem_of_getElem? (i := 116) rfl)) rfl
theorem kw_668 : Cond.instanceMethod yX4_add ∈ wA := wA_of (tb3 _ (List.mem_of_getElem? (i := 117) rfl)) rfl
theorem kw_669 : Cond.selects "GatesBent$Rows" yX4_add yX4_add ∈ wA := wA_of (tb3 _ (List.mem_of_getElem? (i := 118) rfl)) rfl
theorem kw_670 : Cond.code yX4_add cX4_add 4 (some FieldType.int) ∈ wA := wA_of (tb3 _ (List.mem_of_getElem? (i := 119) rfl)) rfl
theorem kw_671 : Cond.methodLink "GatesBentLaw" 79 yX7_wrong ∈ wA := wA_of (tb3 _ (List.mem_of_getElem? (i := 120) rfl)) rfl
theorem kw_672 : Cond.instanceMethod yX7_wrong ∈ wA := wA_of (tb3 _ (List.mem_of_getElem? (i := 121) rfl)) rfl
theorem kw_673 : Cond.selects "GatesBent" yX7_wrong yX7_wrong ∈ wA := wA_of (tb3 _ (List.mem_of_getElem? (i := 122) rfl)) rfl
theorem kw_674 : Cond.code yX7_wrong cX7_wrong 4 (some FieldType.int) ∈ wA := wA_of (tb3 _ (List.mem_of_getElem? (i := 123) rfl)) rfl
theorem kw_675 : Cond.methodLink "GatesBentLaw" 83 yX7_can ∈ wA := wA_of (tb3 _ (List.mem_of_getElem? (i := 124) rfl)) rfl
theorem kw_676 : Cond.instanceMethod yX7_can ∈ wA := wA_of (tb3 _ (List.mem_of_getElem? (i := 125) rfl)) rfl
theorem kw_677 : Cond.selects "GatesBent" yX7_can yX7_can ∈ wA := wA_of (tb3 _ (List.mem_of_getElem? (i := 126) rfl)) rfl
theorem kw_678 : Cond.code yX7_can cX7_can 4 (some FieldType.int) ∈ wA := wA_of (tb3 _ (List.mem_of_getElem? (i := 127) rfl)) rfl
theorem kw_679 : Cond.methodLink "GatesBent" 254 yX7_walksBySeen ∈ wA := wA_of (tb3 _ (List.mem_of_getElem? (i := 128) rfl)) rfl
theorem kw_681 : Cond.instanceMethod yX7_walksBySeen ∈ wA := wA_of (tb3 _ (List.mem_of_getElem? (i := 130) rfl)) rfl
theorem kw_682 : Cond.code yX7_walksBySeen cX7_walksBySeen 6 (some FieldType.int) ∈ wA := wA_of (tb3 _ (List.mem_of_getElem? (i := 131) rfl)) rfl
theorem kw_683 : Cond.methodLink "GatesBent" 260 yX0_become ∈ wA := wA_of (tb3 _ (List.mem_of_getElem? (i := 132) rfl)) rfl
theorem kw_684 : Cond.methodLink "GatesBent" 262 yX7_askNeededByGate ∈ wA := wA_of (tb3 _ (List.mem_of_getElem? (i := 133) rfl)) rfl
theorem kw_686 : Cond.instanceMethod yX7_askNeededByGate ∈ wA := wA_of (tb3 _ (List.mem_of_getElem? (i := 135) rfl)) rfl
theorem kw_687 : Cond.code yX7_askNeededByGate cX7_askNeededByGate 2 none ∈ wA := wA_of (tb3 _ (List.mem_of_getElem? (i := 136) rfl)) rfl
theorem kw_688 : Cond.methodLink "GatesBent" 265 yX7_isAllSeenSo ∈ wA := wA_of (tb3 _ (List.mem_of_getElem? (i := 137) rfl)) rfl
theorem kw_690 : Cond.instanceMethod yX7_isAllSeenSo ∈ wA := wA_of (tb3 _ (List.mem_of_getElem? (i := 139) rfl)) rfl
theorem kw_691 : Cond.code yX7_isAllSeenSo cX7_isAllSeenSo 5 (some FieldType.boolean) ∈ wA := wA_of (tb3 _ (List.mem_of_getElem? (i := 140) rfl)) rfl
theorem kw_692 : Cond.methodLink "GatesBent" 257 yX7_numbersBySeen ∈ wA := wA_of (tb3 _ (List.mem_of_getElem? (i := 141) rfl)) rfl
theorem kw_694 : Cond.instanceMethod yX7_numbersBySeen ∈ wA := wA_of (tb3 _ (List.mem_of_getElem? (i := 143) rfl)) rfl
theorem kw_695 : Cond.code yX7_numbersBySeen cX7_numbersBySeen 6 (some FieldType.int) ∈ wA := wA_of (tb3 _ (List.mem_of_getElem? (i := 144) rfl)) rfl
theorem kw_696 : Cond.methodLink "GatesBentLaw" 87 yX7_odds ∈ wA := wA_of (tb3 _ (List.mem_of_getElem? (i := 145) rfl)) rfl
theorem kw_697 : Cond.instanceMethod yX7_odds ∈ wA := wA_of (tb3 _ (List.mem_of_getElem? (i := 146) rfl)) rfl
theorem kw_698 : Cond.selects "GatesBent" yX7_odds yX7_odds ∈ wA := wA_of (tb3 _ (List.mem_of_getElem? (i := 147) rfl)) rfl
theorem kw_699 : Cond.code yX7_odds cX7_odds 8 (some FieldType.long) ∈ wA := wA_of (tb3 _ (List.mem_of_getElem? (i := 148) rfl)) rfl
theorem kw_700 : Cond.constantLong "GatesBent" 272 (-9223372036854775808 : Int64) ∈ wA := wA_of (tb3 _ (List.mem_of_getElem? (i := 149) rfl)) rfl
theorem kw_701 : Cond.methodLink "GatesBent" 274 yX7_lowest ∈ wA := wA_of (tb3 _ (List.mem_of_getElem? (i := 150) rfl)) rfl
theorem kw_702 : Cond.static yX7_lowest ∈ wA := wA_of (tb3 _ (List.mem_of_getElem? (i := 151) rfl)) rfl
theorem kw_703 : Cond.code yX7_lowest cX7_lowest 5 (some FieldType.long) ∈ wA := wA_of (tb3 _ (List.mem_of_getElem? (i := 152) rfl)) rfl
theorem kw_704 : Cond.methodLink "GatesBentLaw" 92 yX7_mean ∈ wA := wA_of (tb3 _ (List.mem_of_getElem? (i := 153) rfl)) rfl
theorem kw_705 : Cond.instanceMethod yX7_mean ∈ wA := wA_of (tb3 _ (List.mem_of_getElem? (i := 154) rfl)) rfl
theorem kw_706 : Cond.selects "GatesBent" yX7_mean yX7_mean ∈ wA := wA_of (tb3 _ (List.mem_of_getElem? (i := 155) rfl)) rfl
theorem kw_707 : Cond.code yX7_mean cX7_mean 3 (some FieldType.long) ∈ wA := wA_of (tb3 _ (List.mem_of_getElem? (i := 156) rfl)) rfl
theorem kw_708 : Cond.methodLink "GatesBentLaw" 97 yX7_plan ∈ wA := wA_of (tb3 _ (List.mem_of_getElem? (i := 157) rfl)) rfl
theorem kw_709 : Cond.instanceMethod yX7_plan ∈ wA := wA_of (tb3 _ (List.mem_of_getElem? (i := 158) rfl)) rfl
theorem kw_710 : Cond.selects "GatesBent" yX7_plan yX7_plan ∈ wA := wA_of (tb3 _ (List.mem_of_getElem? (i := 159) rfl)) rfl
theorem kw_711 : Cond.code yX7_plan cX7_plan 3 (some FieldType.int) ∈ wA := wA_of (tb3 _ (List.mem_of_getElem? (i := 160) rfl)) rfl
theorem kw_712 : Cond.methodLink "GatesBent" 281 yX7_isInPlan ∈ wA := wA_of (tb3 _ (List.mem_of_getElem? (i := 161) rfl)) rfl
theorem kw_714 : Cond.instanceMethod yX7_isInPlan ∈ wA := wA_of (tb3 _ (List.mem_of_getElem? (i := 163) rfl)) rfl
theorem kw_715 : Cond.code yX7_isInPlan cX7_isInPlan 3 (some FieldType.boolean) ∈ wA := wA_of (tb3 _ (List.mem_of_getElem? (i := 164) rfl)) rfl
theorem kw_716 : Cond.methodLink "GatesBentLaw" 101 yX7_ends ∈ wA := wA_of (tb3 _ (List.mem_of_getElem? (i := 165) rfl)) rfl
theorem kw_717 : Cond.instanceMethod yX7_ends ∈ wA := wA_of (tb3 _ (List.mem_of_getElem? (i := 166) rfl)) rfl
theorem kw_718 : Cond.selects "GatesBent" yX7_ends yX7_ends ∈ wA := wA_of (tb3 _ (List.mem_of_getElem? (i := 167) rfl)) rfl
theorem kw_719 : Cond.code yX7_ends cX7_ends 2 (some FieldType.int) ∈ wA := wA_of (tb3 _ (List.mem_of_getElem? (i := 168) rfl)) rfl
theorem kw_720 : Cond.methodLink "GatesBent" 284 yX6_goByPlan ∈ wA := wA_of (tb3 _ (List.mem_of_getElem? (i := 169) rfl)) rfl
theorem kw_721 : Cond.instanceMethod yX6_goByPlan ∈ wA := wA_of (tb3 _ (List.mem_of_getElem? (i := 170) rfl)) rfl
theorem kw_722 : Cond.selects "GatesBent$Town" yX6_goByPlan yX6_goByPlan ∈ wA := wA_of (tb3 _ (List.mem_of_getElem? (i := 171) rfl)) rfl
theorem kw_723 : Cond.code yX6_goByPlan cX6_goByPlan 3 none ∈ wA := wA_of (tb3 _ (List.mem_of_getElem? (i := 172) rfl)) rfl
theorem kw_724 : Cond.methodLink "GatesBent$Town" 132 yX6_goDays ∈ wA := wA_of (tb3 _ (List.mem_of_getElem? (i := 173) rfl)) rfl
theorem kw_725 : Cond.methodLink "GatesBent$Town" 135 yX1_learn ∈ wA := wA_of (tb3 _ (List.mem_of_getElem? (i := 174) rfl)) rfl
theorem kw_726 : Cond.methodLink "GatesBentLaw" 105 yX7_book ∈ wA := wA_of (tb3 _ (List.mem_of_getElem? (i := 175) rfl)) rfl
theorem kw_727 : Cond.instanceMethod yX7_book ∈ wA := wA_of (tb3 _ (List.mem_of_getElem? (i := 176) rfl)) rfl
theorem kw_728 : Cond.selects "GatesBent" yX7_book yX7_book ∈ wA := wA_of (tb3 _ (List.mem_of_getElem? (i := 177) rfl)) rfl
theorem kw_729 : Cond.code yX7_book cX7_book 3 (some FieldType.int) ∈ wA := wA_of (tb3 _ (List.mem_of_getElem? (i := 178) rfl)) rfl
theorem kw_730 : Cond.methodLink "GatesBentLaw" 109 yX7_looked ∈ wA := wA_of (tb3 _ (List.mem_of_getElem? (i := 179) rfl)) rfl
theorem kw_731 : Cond.instanceMethod yX7_looked ∈ wA := wA_of (tb3 _ (List.mem_of_getElem? (i := 180) rfl)) rfl
theorem kw_732 : Cond.selects "GatesBent" yX7_looked yX7_looked ∈ wA := wA_of (tb3 _ (List.mem_of_getElem? (i := 181) rfl)) rfl
theorem kw_733 : Cond.code yX7_looked cX7_looked 3 (some FieldType.int) ∈ wA := wA_of (tb3 _ (List.mem_of_getElem? (i := 182) rfl)) rfl
theorem kw_734 : Cond.methodLink "GatesBentLaw" 113 yX7_judge ∈ wA := wA_of (tb3 _ (List.mem_of_getElem? (i := 183) rfl)) rfl
theorem kw_735 : Cond.instanceMethod yX7_judge ∈ wA := wA_of (tb3 _ (List.mem_of_getElem? (i := 184) rfl)) rfl
theorem kw_736 : Cond.selects "GatesBent" yX7_judge yX7_judge ∈ wA := wA_of (tb3 _ (List.mem_of_getElem? (i := 185) rfl)) rfl
theorem kw_737 : Cond.code yX7_judge cX7_judge 5 (some FieldType.int) ∈ wA := wA_of (tb3 _ (List.mem_of_getElem? (i := 186) rfl)) rfl
theorem kw_738 : Cond.methodLink "GatesBent" 293 yX5_hasPlace ∈ wA := wA_of (tb3 _ (List.mem_of_getElem? (i := 187) rfl)) rfl
theorem kw_739 : Cond.instanceMethod yX5_hasPlace ∈ wA := wA_of (tb3 _ (List.mem_of_getElem? (i := 188) rfl)) rfl
theorem kw_740 : Cond.selects "GatesBent$Tape" yX5_hasPlace yX5_hasPlace ∈ wA := wA_of (tb3 _ (List.mem_of_getElem? (i := 189) rfl)) rfl
theorem kw_741 : Cond.code yX5_hasPlace cX5_hasPlace 2 (some FieldType.boolean) ∈ wA := wA_of (tb3 _ (List.mem_of_getElem? (i := 190) rfl)) rfl
theorem kw_742 : Cond.methodLink "GatesBentLaw" 117 yX7_image ∈ wA := wA_of (tb3 _ (List.mem_of_getElem? (i := 191) rfl)) rfl
theorem kw_743 : Cond.instanceMethod yX7_image ∈ wA := wA_of (tb3 _ (List.mem_of_getElem? (i := 192) rfl)) rfl
theorem kw_744 : Cond.selects "GatesBent" yX7_image yX7_image ∈ wA := wA_of (tb3 _ (List.mem_of_getElem? (i := 193) rfl)) rfl
theorem kw_745 : Cond.code yX7_image cX7_image 1 (some FieldType.int) ∈ wA := wA_of (tb3 _ (List.mem_of_getElem? (i := 194) rfl)) rfl
theorem kw_746 : Cond.methodLink "GatesBentLaw" 121 yX7_undo ∈ wA := wA_of (tb3 _ (List.mem_of_getElem? (i := 195) rfl)) rfl
theorem kw_747 : Cond.instanceMethod yX7_undo ∈ wA := wA_of (tb3 _ (List.mem_of_getElem? (i := 196) rfl)) rfl
theorem kw_748 : Cond.selects "GatesBent" yX7_undo yX7_undo ∈ wA := wA_of (tb3 _ (List.mem_of_getElem? (i := 197) rfl)) rfl
theorem kw_749 : Cond.code yX7_undo cX7_undo 1 (some FieldType.int) ∈ wA := wA_of (tb3 _ (List.mem_of_getElem? (i := 198) rfl)) rfl
theorem kw_750 : Cond.methodLink "GatesBentLaw" 125 yX7_act ∈ wA := wA_of (tb3 _ (List.mem_of_getElem? (i := 199) rfl)) rfl
theorem kw_751 : Cond.instanceMethod yX7_act ∈ wA := wA_of (tb3 _ (List.mem_of_getElem? (i := 200) rfl)) rfl
theorem kw_752 : Cond.selects "GatesBent" yX7_act yX7_act ∈ wA := wA_of (tb3 _ (List.mem_of_getElem? (i := 201) rfl)) rfl
theorem kw_753 : Cond.code yX7_act cX7_act 5 (some FieldType.int) ∈ wA := wA_of (tb3 _ (List.mem_of_getElem? (i := 202) rfl)) rfl
theorem kw_754 : Cond.methodLink "GatesBent" 307 yX7_walks ∈ wA := wA_of (tb3 _ (List.mem_of_getElem? (i := 203) rfl)) rfl
theorem kw_756 : Cond.instanceMethod yX7_walks ∈ wA := wA_of (tb3 _ (List.mem_of_getElem? (i := 205) rfl)) rfl
theorem kw_757 : Cond.code yX7_walks cX7_walks 5 (some FieldType.int) ∈ wA := wA_of (tb3 _ (List.mem_of_getElem? (i := 206) rfl)) rfl
theorem kw_758 : Cond.methodLink "GatesBent" 316 yX7_startBody ∈ wA := wA_of (tb3 _ (List.mem_of_getElem? (i := 207) rfl)) rfl
theorem kw_760 : Cond.instanceMethod yX7_startBody ∈ wA := wA_of (tb3 _ (List.mem_of_getElem? (i := 209) rfl)) rfl
theorem kw_761 : Cond.code yX7_startBody cX7_startBody 2 none ∈ wA := wA_of (tb3 _ (List.mem_of_getElem? (i := 210) rfl)) rfl
theorem kw_762 : Cond.methodLink "GatesBent" 310 yX7_knocks ∈ wA := wA_of (tb3 _ (List.mem_of_getElem? (i := 211) rfl)) rfl
theorem kw_764 : Cond.instanceMethod yX7_knocks ∈ wA := wA_of (tb3 _ (List.mem_of_getElem? (i := 213) rfl)) rfl
theorem kw_765 : Cond.code yX7_knocks cX7_knocks 6 (some FieldType.int) ∈ wA := wA_of (tb3 _ (List.mem_of_getElem? (i := 214) rfl)) rfl
theorem kw_766 : Cond.methodLink "GatesBent" 313 yX7_tells ∈ wA := wA_of (tb3 _ (List.mem_of_getElem? (i := 215) rfl)) rfl
theorem kw_768 : Cond.instanceMethod yX7_tells ∈ wA := wA_of (tb3 _ (List.mem_of_getElem? (i := 217) rfl)) rfl
theorem kw_769 : Cond.code yX7_tells cX7_tells 6 (some FieldType.int) ∈ wA := wA_of (tb3 _ (List.mem_of_getElem? (i := 218) rfl)) rfl
theorem kw_770 : Cond.methodLink "GatesBentLaw" 129 yX7_trace ∈ wA := wA_of (tb3 _ (List.mem_of_getElem? (i := 219) rfl)) rfl
theorem kw_771 : Cond.instanceMethod yX7_trace ∈ wA := wA_of (tb3 _ (List.mem_of_getElem? (i := 220) rfl)) rfl
theorem kw_772 : Cond.selects "GatesBent" yX7_trace yX7_trace ∈ wA := wA_of (tb3 _ (List.mem_of_getElem? (i := 221) rfl)) rfl
theorem kw_773 : Cond.code yX7_trace cX7_trace 2 (some FieldType.int) ∈ wA := wA_of (tb3 _ (List.mem_of_getElem? (i := 222) rfl)) rfl
theorem kw_774 : Cond.methodLink "GatesBent" 319 yJ9_min_7cf53 ∈ wA := wA_of (tb3 _ (List.mem_of_getElem? (i := 223) rfl)) rfl
theorem kw_775 : Cond.methodLink "GatesBentLaw" 133 yX7_taken ∈ wA := wA_of (tb3 _ (List.mem_of_getElem? (i := 224) rfl)) rfl
theorem kw_776 : Cond.instanceMethod yX7_taken ∈ wA := wA_of (tb3 _ (List.mem_of_getElem? (i := 225) rfl)) rfl
theorem kw_777 : Cond.selects "GatesBent" yX7_taken yX7_taken ∈ wA := wA_of (tb3 _ (List.mem_of_getElem? (i := 226) rfl)) rfl
theorem kw_778 : Cond.code yX7_taken cX7_taken 6 (some FieldType.int) ∈ wA := wA_of (tb3 _ (List.mem_of_getElem? (i := 227) rfl)) rfl
theorem kw_779 : Cond.methodLink "GatesBent" 324 yX7_kindAbove ∈ wA := wA_of (tb3 _ (List.mem_of_getElem? (i := 228) rfl)) rfl
theorem kw_780 : Cond.static yX7_kindAbove ∈ wA := wA_of (tb3 _ (List.mem_of_getElem? (i := 229) rfl)) rfl
theorem kw_781 : Cond.code yX7_kindAbove cX7_kindAbove 1 (some FieldType.int) ∈ wA := wA_of (tb3 _ (List.mem_of_getElem? (i := 230) rfl)) rfl
theorem kw_782 : Cond.methodLink "GatesBentLaw" 137 yX7_count ∈ wA := wA_of (tb3 _ (List.mem_of_getElem? (i := 231) rfl)) rfl
theorem kw_783 : Cond.instanceMethod yX7_count ∈ wA := wA_of (tb3 _ (List.mem_of_getElem? (i := 232) rfl)) rfl
theorem kw_784 : Cond.selects "GatesBent" yX7_count yX7_count ∈ wA := wA_of (tb3 _ (List.mem_of_getElem? (i := 233) rfl)) rfl
theorem kw_785 : Cond.code yX7_count cX7_count 2 (some FieldType.int) ∈ wA := wA_of (tb3 _ (List.mem_of_getElem? (i := 234) rfl)) rfl
theorem kw_786 : Cond.methodLink "GatesBentLaw" 141 yX7_tape ∈ wA := wA_of (tb3 _ (List.mem_of_getElem? (i := 235) rfl)) rfl
theorem kw_787 : Cond.instanceMethod yX7_tape ∈ wA := wA_of (tb3 _ (List.mem_of_getElem? (i := 236) rfl)) rfl
theorem kw_788 : Cond.selects "GatesBent" yX7_tape yX7_tape ∈ wA := wA_of (tb3 _ (List.mem_of_getElem? (i := 237) rfl)) rfl
theorem kw_789 : Cond.code yX7_tape cX7_tape 4 (some FieldType.int) ∈ wA := wA_of (tb3 _ (List.mem_of_getElem? (i := 238) rfl)) rfl
theorem kw_790 : Cond.methodLink "GatesBent" 327 yX5_become ∈ wA := wA_of (tb3 _ (List.mem_of_getElem? (i := 239) rfl)) rfl
theorem kw_791 : Cond.instanceMethod yX5_become ∈ wA := wA_of (tb4 _ (List.mem_of_getElem? (i := 0) rfl)) rfl
theorem kw_792 : Cond.selects "GatesBent$Tape" yX5_become yX5_become ∈ wA := wA_of (tb4 _ (List.mem_of_getElem? (i := 1) rfl)) rfl
theorem kw_793 : Cond.code yX5_become cX5_become 4 none ∈ wA := wA_of (tb4 _ (List.mem_of_getElem? (i := 2) rfl)) rfl
theorem kw_794 : Cond.methodLink "GatesBentLaw" 147 yX7_item ∈ wA := wA_of (tb4 _ (List.mem_of_getElem? (i := 3) rfl)) rfl
theorem kw_795 : Cond.instanceMethod yX7_item ∈ wA := wA_of (tb4 _ (List.mem_of_getElem? (i := 4) rfl)) rfl
theorem kw_796 : Cond.selects "GatesBent" yX7_item yX7_item ∈ wA := wA_of (tb4 _ (List.mem_of_getElem? (i := 5) rfl)) rfl
theorem kw_797 : Cond.code yX7_item cX7_item 5 (some FieldType.int) ∈ wA := wA_of (tb4 _ (List.mem_of_getElem? (i := 6) rfl)) rfl
theorem kw_798 : Cond.methodLink "GatesBent" 330 yX5_put ∈ wA := wA_of (tb4 _ (List.mem_of_getElem? (i := 7) rfl)) rfl
theorem kw_799 : Cond.instanceMethod yX5_put ∈ wA := wA_of (tb4 _ (List.mem_of_getElem? (i := 8) rfl)) rfl
theorem kw_800 : Cond.selects "GatesBent$Tape" yX5_put yX5_put ∈ wA := wA_of (tb4 _ (List.mem_of_getElem? (i := 9) rfl)) rfl
theorem kw_801 : Cond.code yX5_put cX5_put 4 none ∈ wA := wA_of (tb4 _ (List.mem_of_getElem? (i := 10) rfl)) rfl
theorem kw_802 : Cond.methodLink "GatesBent$Tape" 22 yX5_hasPlace ∈ wA := wA_of (tb4 _ (List.mem_of_getElem? (i := 11) rfl)) rfl
theorem kw_803 : Cond.methodLink "GatesBent$Tape" 26 yX5_cut ∈ wA := wA_of (tb4 _ (List.mem_of_getElem? (i := 12) rfl)) rfl
theorem kw_805 : Cond.instanceMethod yX5_cut ∈ wA := wA_of (tb4 _ (List.mem_of_getElem? (i := 14) rfl)) rfl
theorem kw_806 : Cond.code yX5_cut cX5_cut 3 (some FieldType.long) ∈ wA := wA_of (tb4 _ (List.mem_of_getElem? (i := 15) rfl)) rfl
theorem kw_807 : Cond.methodLink "GatesBentLaw" 152 yX7_read ∈ wA := wA_of (tb4 _ (List.mem_of_getElem? (i := 16) rfl)) rfl
theorem kw_808 : Cond.instanceMethod yX7_read ∈ wA := wA_of (tb4 _ (List.mem_of_getElem? (i := 17) rfl)) rfl
theorem kw_809 : Cond.selects "GatesBent" yX7_read yX7_read ∈ wA := wA_of (tb4 _ (List.mem_of_getElem? (i := 18) rfl)) rfl
theorem kw_810 : Cond.code yX7_read cX7_read 3 (some FieldType.long) ∈ wA := wA_of (tb4 _ (List.mem_of_getElem? (i := 19) rfl)) rfl
theorem kw_811 : Cond.methodLink "GatesBentLaw" 156 yX7_shift ∈ wA := wA_of (tb4 _ (List.mem_of_getElem? (i := 20) rfl)) rfl
theorem kw_812 : Cond.instanceMethod yX7_shift ∈ wA := wA_of (tb4 _ (List.mem_of_getElem? (i := 21) rfl)) rfl
theorem kw_813 : Cond.selects "GatesBent" yX7_shift yX7_shift ∈ wA := wA_of (tb4 _ (List.mem_of_getElem? (i := 22) rfl)) rfl
theorem kw_814 : Cond.code yX7_shift cX7_shift 8 (some FieldType.int) ∈ wA := wA_of (tb4 _ (List.mem_of_getElem? (i := 23) rfl)) rfl
theorem kw_815 : Cond.methodLink "GatesBent" 334 yX5_hasPlaces ∈ wA := wA_of (tb4 _ (List.mem_of_getElem? (i := 24) rfl)) rfl
theorem kw_816 : Cond.instanceMethod yX5_hasPlaces ∈ wA := wA_of (tb4 _ (List.mem_of_getElem? (i := 25) rfl)) rfl
theorem kw_817 : Cond.selects "GatesBent$Tape" yX5_hasPlaces yX5_hasPlaces ∈ wA := wA_of (tb4 _ (List.mem_of_getElem? (i := 26) rfl)) rfl
theorem kw_818 : Cond.code yX5_hasPlaces cX5_hasPlaces 3 (some FieldType.boolean) ∈ wA := wA_of (tb4 _ (List.mem_of_getElem? (i := 27) rfl)) rfl
theorem kw_819 : Cond.methodLink "GatesBent" 337 ⟨"java/lang/System", "arraycopy", "(Ljava/lang/Object;ILjava/lang/Object;II)V"⟩ ∈ wA := wA_of (tb4 _ (List.mem_of_getElem? (i := 28) rfl)) rfl
theorem kw_820 : Cond.classLink "GatesBentLaw" 10 "GatesBentModel" ∈ wA := wA_of (tb4 _ (List.mem_of_getElem? (i := 29) rfl)) rfl
theorem kw_821 : Cond.instantiable "GatesBentModel" 32 ∈ wA := wA_of (tb4 _ (List.mem_of_getElem? (i := 30) rfl)) rfl
theorem kw_822 : Cond.methodLink "GatesBentLaw" 12 yX8_init ∈ wA := wA_of (tb4 _ (List.mem_of_getElem? (i := 31) rfl)) rfl
theorem kw_823 : Cond.instanceMethod yX8_init ∈ wA := wA_of (tb4 _ (List.mem_of_getElem? (i := 32) rfl)) rfl
theorem kw_824 : Cond.code yX8_init cX8_init 1 none ∈ wA := wA_of (tb4 _ (List.mem_of_getElem? (i := 33) rfl)) rfl
theorem kw_825 : Cond.methodLink "GatesBentModel" 3 ⟨"java/lang/Object", "<init>", "()V"⟩ ∈ wA := wA_of (tb4 _ (List.mem_of_getElem? (i := 34) rfl)) rfl
theorem kw_826 : Cond.fieldLink "GatesBentModel" 9 "GatesBentModel" "now" "[I" ∈ wA := wA_of (tb4 _ (List.mem_of_getElem? (i := 35) rfl)) rfl
theorem kw_827 : Cond.fieldLink "GatesBentModel" 15 "GatesBentModel" "minds" "[I" ∈ wA := wA_of (tb4 _ (List.mem_of_getElem? (i := 36) rfl)) rfl
theorem kw_828 : Cond.fieldLink "GatesBentModel" 18 "GatesBentModel" "then" "[I" ∈ wA := wA_of (tb4 _ (List.mem_of_getElem? (i := 37) rfl)) rfl
theorem kw_829 : Cond.fieldLink "GatesBentModel" 74 "GatesBentModel" "kept" "Z" ∈ wA := wA_of (tb4 _ (List.mem_of_getElem? (i := 38) rfl)) rfl
theorem kw_830 : Cond.fieldLink "GatesBentModel" 21 "GatesBentModel" "text" "[I" ∈ wA := wA_of (tb4 _ (List.mem_of_getElem? (i := 39) rfl)) rfl
theorem kw_831 : Cond.fieldLink "GatesBentModel" 121 "GatesBentModel" "texted" "I" ∈ wA := wA_of (tb4 _ (List.mem_of_getElem? (i := 40) rfl)) rfl
theorem kw_832 : Cond.fieldLink "GatesBentModel" 24 "GatesBentModel" "rules" "[I" ∈ wA := wA_of (tb4 _ (List.mem_of_getElem? (i := 41) rfl)) rfl
theorem kw_833 : Cond.fieldLink "GatesBentModel" 27 "GatesBentModel" "sizes" "[I" ∈ wA := wA_of (tb4 _ (List.mem_of_getElem? (i := 42) rfl)) rfl
theorem kw_834 : Cond.fieldLink "GatesBentModel" 179 "GatesBentModel" "ruled" "I" ∈ wA := wA_of (tb4 _ (List.mem_of_getElem? (i := 43) rfl)) rfl
theorem kw_835 : Cond.fieldLink "GatesBentModel" 30 "GatesBentModel" "read" "[I" ∈ wA := wA_of (tb4 _ (List.mem_of_getElem? (i := 44) rfl)) rfl
theorem kw_836 : Cond.fieldLink "GatesBentModel" 131 "GatesBentModel" "size" "I" ∈ wA := wA_of (tb4 _ (List.mem_of_getElem? (i := 45) rfl)) rfl
theorem kw_837 : Cond.fieldLink "GatesBentModel" 128 "GatesBentModel" "at" "I" ∈ wA := wA_of (tb4 _ (List.mem_of_getElem? (i := 46) rfl)) rfl
theorem kw_838 : Cond.fieldLink "GatesBentModel" 125 "GatesBentModel" "well" "Z" ∈ wA := wA_of (tb4 _ (List.mem_of_getElem? (i := 47) rfl)) rfl
theorem kw_839 : Cond.fieldLink "GatesBentModel" 149 "GatesBentModel" "within" "I" ∈ wA := wA_of (tb4 _ (List.mem_of_getElem? (i := 48) rfl)) rfl
theorem kw_840 : Cond.fieldLink "GatesBentModel" 170 "GatesBentModel" "sum" "I" ∈ wA := wA_of (tb4 _ (List.mem_of_getElem? (i := 49) rfl)) rfl
theorem kw_841 : Cond.fieldLink "GatesBentModel" 164 "GatesBentModel" "need" "I" ∈ wA := wA_of (tb4 _ (List.mem_of_getElem? (i := 50) rfl)) rfl
theorem kw_842 : Cond.fieldLink "GatesBentModel" 167 "GatesBentModel" "age" "I" ∈ wA := wA_of (tb4 _ (List.mem_of_getElem? (i := 51) rfl)) rfl
theorem kw_843 : Cond.fieldLink "GatesBentModel" 33 "GatesBentModel" "names" "[I" ∈ wA := wA_of (tb4 _ (List.mem_of_getElem? (i := 52) rfl)) rfl
theorem kw_844 : Cond.fieldLink "GatesBentModel" 36 "GatesBentModel" "letters" "[C" ∈ wA := wA_of (tb4 _ (List.mem_of_getElem? (i := 53) rfl)) rfl
theorem kw_845 : Cond.fieldLink "GatesBentModel" 40 "GatesBentModel" "words" "[C" ∈ wA := wA_of (tb4 _ (List.mem_of_getElem? (i := 54) rfl)) rfl
theorem kw_846 : Cond.fieldLink "GatesBentModel" 43 "GatesBentModel" "given" "[I" ∈ wA := wA_of (tb4 _ (List.mem_of_getElem? (i := 55) rfl)) rfl
theorem kw_847 : Cond.fieldLink "GatesBentModel" 46 "GatesBentModel" "best" "[I" ∈ wA := wA_of (tb4 _ (List.mem_of_getElem? (i := 56) rfl)) rfl
theorem kw_848 : Cond.fieldLink "GatesBentModel" 231 "GatesBentModel" "most" "I" ∈ wA := wA_of (tb4 _ (List.mem_of_getElem? (i := 57) rfl)) rfl
theorem kw_849 : Cond.fieldLink "GatesBentModel" 49 "GatesBentModel" "helped" "[I" ∈ wA := wA_of (tb4 _ (List.mem_of_getElem? (i := 58) rfl)) rfl
theorem kw_850 : Cond.fieldLink "GatesBentModel" 52 "GatesBentModel" "above" "[I" ∈ wA := wA_of (tb4 _ (List.mem_of_getElem? (i := 59) rfl)) rfl
theorem kw_851 : Cond.fieldLink "GatesBentModel" 55 "GatesBentModel" "bodies" "[I" ∈ wA := wA_of (tb4 _ (List.mem_of_getElem? (i := 60) rfl)) rfl
theorem kw_852 : Cond.fieldLink "GatesBentModel" 58 "GatesBentModel" "trace" "[I" ∈ wA := wA_of (tb4 _ (List.mem_of_getElem? (i := 61) rfl)) rfl
theorem kw_853 : Cond.fieldLink "GatesBentModel" 255 "GatesBentModel" "ran" "I" ∈ wA := wA_of (tb4 _ (List.mem_of_getElem? (i := 62) rfl)) rfl
theorem kw_854 : Cond.fieldLink "GatesBentModel" 61 "GatesBentModel" "sorts" "[I" ∈ wA := wA_of (tb4 _ (List.mem_of_getElem? (i := 63) rfl)) rfl
theorem kw_855 : Cond.fieldLink "GatesBentModel" 64 "GatesBentModel" "lengths" "[I" ∈ wA := wA_of (tb4 _ (List.mem_of_getElem? (i := 64) rfl)) rfl
theorem kw_856 : Cond.fieldLink "GatesBentModel" 67 "GatesBentModel" "items" "[J" ∈ wA := wA_of (tb4 _ (List.mem_of_getElem? (i := 65) rfl)) rfl
theorem kw_857 : Cond.fieldLink "GatesBentModel" 71 "GatesBentModel" "moved" "[J" ∈ wA := wA_of (tb4 _ (List.mem_of_getElem? (i := 66) rfl)) rfl
theorem kw_923 : Cond.arrayClass FieldType.char ∈ wA := wA_of (tb4 _ (List.mem_of_getElem? (i := 132) rfl)) rfl
theorem kw_924 : Cond.methodLink "GatesBentLaw" 120 yX8_image ∈ wA := wA_of (tb4 _ (List.mem_of_getElem? (i := 133) rfl)) rfl
theorem kw_925 : Cond.instanceMethod yX8_image ∈ wA := wA_of (tb4 _ (List.mem_of_getElem? (i := 134) rfl)) rfl
theorem kw_926 : Cond.selects "GatesBentModel" yX8_image yX8_image ∈ wA := wA_of (tb4 _ (List.mem_of_getElem? (i := 135) rfl)) rfl
theorem kw_927 : Cond.code yX8_image cX8_image 2 (some FieldType.int) ∈ wA := wA_of (tb4 _ (List.mem_of_getElem? (i := 136) rfl)) rfl
theorem kw_928 : Cond.methodLink "GatesBentLaw" 124 yX8_undo ∈ wA := wA_of (tb4 _ (List.mem_of_getElem? (i := 137) rfl)) rfl
theorem kw_929 : Cond.instanceMethod yX8_undo ∈ wA := wA_of (tb4 _ (List.mem_of_getElem? (i := 138) rfl)) rfl
theorem kw_930 : Cond.selects "GatesBentModel" yX8_undo yX8_undo ∈ wA := wA_of (tb4 _ (List.mem_of_getElem? (i := 139) rfl)) rfl
theorem kw_931 : Cond.code yX8_undo cX8_undo 2 (some FieldType.int) ∈ wA := wA_of (tb4 _ (List.mem_of_getElem? (i := 140) rfl)) rfl
theorem kw_932 : Cond.methodLink "GatesBentLaw" 17 yX8_comer ∈ wA := wA_of (tb4 _ (List.mem_of_getElem? (i := 141) rfl)) rfl
theorem kw_933 : Cond.instanceMethod yX8_comer ∈ wA := wA_of (tb4 _ (List.mem_of_getElem? (i := 142) rfl)) rfl
theorem kw_934 : Cond.selects "GatesBentModel" yX8_comer yX8_comer ∈ wA := wA_of (tb4 _ (List.mem_of_getElem? (i := 143) rfl)) rfl
theorem kw_935 : Cond.code yX8_comer cX8_comer 7 (some FieldType.int) ∈ wA := wA_of (tb4 _ (List.mem_of_getElem? (i := 144) rfl)) rfl
theorem kw_936 : Cond.methodLink "GatesBentModel" 78 yX8_isIn ∈ wA := wA_of (tb4 _ (List.mem_of_getElem? (i := 145) rfl)) rfl
theorem kw_937 : Cond.static yX8_isIn ∈ wA := wA_of (tb4 _ (List.mem_of_getElem? (i := 146) rfl)) rfl
theorem kw_938 : Cond.code yX8_isIn cX8_isIn 3 (some FieldType.boolean) ∈ wA := wA_of (tb4 _ (List.mem_of_getElem? (i := 147) rfl)) rfl
theorem kw_939 : Cond.methodLink "GatesBentModel" 86 yX8_isGate ∈ wA := wA_of (tb4 _ (List.mem_of_getElem? (i := 148) rfl)) rfl
theorem kw_940 : Cond.static yX8_isGate ∈ wA := wA_of (tb4 _ (List.mem_of_getElem? (i := 149) rfl)) rfl
theorem kw_941 : Cond.code yX8_isGate cX8_isGate 1 (some FieldType.boolean) ∈ wA := wA_of (tb4 _ (List.mem_of_getElem? (i := 150) rfl)) rfl
theorem kw_942 : Cond.methodLink "GatesBentModel" 90 yX8_change ∈ wA := wA_of (tb4 _ (List.mem_of_getElem? (i := 151) rfl)) rfl
theorem kw_944 : Cond.instanceMethod yX8_change ∈ wA := wA_of (tb4 _ (List.mem_of_getElem? (i := 153) rfl)) rfl
theorem kw_945 : Cond.code yX8_change cX8_change 5 (some FieldType.int) ∈ wA := wA_of (tb4 _ (List.mem_of_getElem? (i := 154) rfl)) rfl
theorem kw_946 : Cond.methodLink "GatesBentModel" 82 yX8_one ∈ wA := wA_of (tb4 _ (List.mem_of_getElem? (i := 155) rfl)) rfl
theorem kw_948 : Cond.instanceMethod yX8_one ∈ wA := wA_of (tb4 _ (List.mem_of_getElem? (i := 157) rfl)) rfl
theorem kw_949 : Cond.code yX8_one cX8_one 3 (some FieldType.int) ∈ wA := wA_of (tb4 _ (List.mem_of_getElem? (i := 158) rfl)) rfl
theorem kw_950 : Cond.methodLink "GatesBentLaw" 22 yX8_of ∈ wA := wA_of (tb4 _ (List.mem_of_getElem? (i := 159) rfl)) rfl
theorem kw_951 : Cond.instanceMethod yX8_of ∈ wA := wA_of (tb4 _ (List.mem_of_getElem? (i := 160) rfl)) rfl
theorem kw_952 : Cond.selects "GatesBentModel" yX8_of yX8_of ∈ wA := wA_of (tb4 _ (List.mem_of_getElem? (i := 161) rfl)) rfl
theorem kw_953 : Cond.code yX8_of cX8_of 3 (some FieldType.int) ∈ wA := wA_of (tb4 _ (List.mem_of_getElem? (i := 162) rfl)) rfl
theorem kw_954 : Cond.methodLink "GatesBentModel" 94 yX8_isComer ∈ wA := wA_of (tb4 _ (List.mem_of_getElem? (i := 163) rfl)) rfl
theorem kw_956 : Cond.instanceMethod yX8_isComer ∈ wA := wA_of (tb4 _ (List.mem_of_getElem? (i := 165) rfl)) rfl
theorem kw_957 : Cond.code yX8_isComer cX8_isComer 2 (some FieldType.boolean) ∈ wA := wA_of (tb4 _ (List.mem_of_getElem? (i := 166) rfl)) rfl
theorem kw_958 : Cond.methodLink "GatesBentModel" 97 yX8_out ∈ wA := wA_of (tb4 _ (List.mem_of_getElem? (i := 167) rfl)) rfl
theorem kw_960 : Cond.instanceMethod yX8_out ∈ wA := wA_of (tb4 _ (List.mem_of_getElem? (i := 169) rfl)) rfl
theorem kw_961 : Cond.code yX8_out cX8_out 4 (some FieldType.int) ∈ wA := wA_of (tb4 _ (List.mem_of_getElem? (i := 170) rfl)) rfl
theorem kw_962 : Cond.methodLink "GatesBentModel" 206 yX8_keep ∈ wA := wA_of (tb4 _ (List.mem_of_getElem? (i := 171) rfl)) rfl
theorem kw_964 : Cond.instanceMethod yX8_keep ∈ wA := wA_of (tb4 _ (List.mem_of_getElem? (i := 173) rfl)) rfl
theorem kw_965 : Cond.code yX8_keep cX8_keep 3 none ∈ wA := wA_of (tb4 _ (List.mem_of_getElem? (i := 174) rfl)) rfl
theorem kw_966 : Cond.methodLink "GatesBentModel" 194 yX8_isBy ∈ wA := wA_of (tb4 _ (List.mem_of_getElem? (i := 175) rfl)) rfl
theorem kw_968 : Cond.instanceMethod yX8_isBy ∈ wA := wA_of (tb4 _ (List.mem_of_getElem? (i := 177) rfl)) rfl
theorem kw_969 : Cond.code yX8_isBy cX8_isBy 2 (some FieldType.boolean) ∈ wA := wA_of (tb4 _ (List.mem_of_getElem? (i := 178) rfl)) rfl
theorem kw_970 : Cond.methodLink "GatesBentModel" 101 yX8_lets ∈ wA := wA_of (tb4 _ (List.mem_of_getElem? (i := 179) rfl)) rfl
theorem kw_972 : Cond.instanceMethod yX8_lets ∈ wA := wA_of (tb4 _ (List.mem_of_getElem? (i := 181) rfl)) rfl
theorem kw_973 : Cond.code yX8_lets cX8_lets 6 (some FieldType.boolean) ∈ wA := wA_of (tb4 _ (List.mem_of_getElem? (i := 182) rfl)) rfl
theorem kw_974 : Cond.methodLink "GatesBentModel" 114 yX8_helps ∈ wA := wA_of (tb4 _ (List.mem_of_getElem? (i := 183) rfl)) rfl
theorem kw_976 : Cond.instanceMethod yX8_helps ∈ wA := wA_of (tb4 _ (List.mem_of_getElem? (i := 185) rfl)) rfl
theorem kw_977 : Cond.code yX8_helps cX8_helps 3 (some FieldType.int) ∈ wA := wA_of (tb4 _ (List.mem_of_getElem? (i := 186) rfl)) rfl
theorem kw_978 : Cond.methodLink "GatesBentModel" 182 yX8_readFor ∈ wA := wA_of (tb4 _ (List.mem_of_getElem? (i := 187) rfl)) rfl
theorem kw_980 : Cond.instanceMethod yX8_readFor ∈ wA := wA_of (tb4 _ (List.mem_of_getElem? (i := 189) rfl)) rfl
theorem kw_981 : Cond.code yX8_readFor cX8_readFor 5 none ∈ wA := wA_of (tb4 _ (List.mem_of_getElem? (i := 190) rfl)) rfl
theorem kw_982 : Cond.methodLink "GatesBentModel" 176 yX8_readAll ∈ wA := wA_of (tb4 _ (List.mem_of_getElem? (i := 191) rfl)) rfl
theorem kw_984 : Cond.instanceMethod yX8_readAll ∈ wA := wA_of (tb4 _ (List.mem_of_getElem? (i := 193) rfl)) rfl
theorem kw_985 : Cond.code yX8_readAll cX8_readAll 2 (some FieldType.boolean) ∈ wA := wA_of (tb4 _ (List.mem_of_getElem? (i := 194) rfl)) rfl
theorem kw_986 : Cond.methodLink "GatesBentModel" 173 yX8_clause ∈ wA := wA_of (tb4 _ (List.mem_of_getElem? (i := 195) rfl)) rfl
theorem kw_988 : Cond.instanceMethod yX8_clause ∈ wA := wA_of (tb4 _ (List.mem_of_getElem? (i := 197) rfl)) rfl
theorem kw_989 : Cond.code yX8_clause cX8_clause 4 none ∈ wA := wA_of (tb4 _ (List.mem_of_getElem? (i := 198) rfl)) rfl
theorem kw_990 : Cond.methodLink "GatesBentModel" 134 yX8_isAt ∈ wA := wA_of (tb4 _ (List.mem_of_getElem? (i := 199) rfl)) rfl
theorem kw_992 : Cond.instanceMethod yX8_isAt ∈ wA := wA_of (tb4 _ (List.mem_of_getElem? (i := 201) rfl)) rfl
theorem kw_993 : Cond.code yX8_isAt cX8_isAt 2 (some FieldType.boolean) ∈ wA := wA_of (tb4 _ (List.mem_of_getElem? (i := 202) rfl)) rfl
theorem kw_994 : Cond.methodLink "GatesBentModel" 141 yX8_takes ∈ wA := wA_of (tb4 _ (List.mem_of_getElem? (i := 203) rfl)) rfl
theorem kw_996 : Cond.instanceMethod yX8_takes ∈ wA := wA_of (tb4 _ (List.mem_of_getElem? (i := 205) rfl)) rfl
theorem kw_997 : Cond.code yX8_takes cX8_takes 2 none ∈ wA := wA_of (tb4 _ (List.mem_of_getElem? (i := 206) rfl)) rfl
theorem kw_998 : Cond.methodLink "GatesBentModel" 145 yX8_number ∈ wA := wA_of (tb4 _ (List.mem_of_getElem? (i := 207) rfl)) rfl
theorem kw_1000 : Cond.instanceMethod yX8_number ∈ wA := wA_of (tb4 _ (List.mem_of_getElem? (i := 209) rfl)) rfl
theorem kw_1001 : Cond.code yX8_number cX8_number 2 (some FieldType.int) ∈ wA := wA_of (tb4 _ (List.mem_of_getElem? (i := 210) rfl)) rfl
theorem kw_1002 : Cond.methodLink "GatesBentModel" 137 yX8_isDigit ∈ wA := wA_of (tb4 _ (List.mem_of_getElem? (i := 211) rfl)) rfl
theorem kw_1004 : Cond.instanceMethod yX8_isDigit ∈ wA := wA_of (tb4 _ (List.mem_of_getElem? (i := 213) rfl)) rfl
theorem kw_1005 : Cond.code yX8_isDigit cX8_isDigit 1 (some FieldType.boolean) ∈ wA := wA_of (tb4 _ (List.mem_of_getElem? (i := 214) rfl)) rfl
theorem kw_1006 : Cond.methodLink "GatesBentModel" 155 yX8_any ∈ wA := wA_of (tb4 _ (List.mem_of_getElem? (i := 215) rfl)) rfl
theorem kw_1008 : Cond.instanceMethod yX8_any ∈ wA := wA_of (tb4 _ (List.mem_of_getElem? (i := 217) rfl)) rfl
theorem kw_1009 : Cond.code yX8_any cX8_any 3 (some FieldType.boolean) ∈ wA := wA_of (tb4 _ (List.mem_of_getElem? (i := 218) rfl)) rfl
theorem kw_1010 : Cond.methodLink "GatesBentModel" 161 yX8_both ∈ wA := wA_of (tb4 _ (List.mem_of_getElem? (i := 219) rfl)) rfl
theorem kw_1012 : Cond.instanceMethod yX8_both ∈ wA := wA_of (tb4 _ (List.mem_of_getElem? (i := 221) rfl)) rfl
theorem kw_1013 : Cond.code yX8_both cX8_both 3 (some FieldType.boolean) ∈ wA := wA_of (tb4 _ (List.mem_of_getElem? (i := 222) rfl)) rfl
theorem kw_1014 : Cond.methodLink "GatesBentModel" 152 yX8_factor ∈ wA := wA_of (tb4 _ (List.mem_of_getElem? (i := 223) rfl)) rfl
theorem kw_1016 : Cond.instanceMethod yX8_factor ∈ wA := wA_of (tb4 _ (List.mem_of_getElem? (i := 225) rfl)) rfl
theorem kw_1017 : Cond.code yX8_factor cX8_factor 2 (some FieldType.boolean) ∈ wA := wA_of (tb4 _ (List.mem_of_getElem? (i := 226) rfl)) rfl
theorem kw_1018 : Cond.methodLink "GatesBentModel" 158 yX8_test ∈ wA := wA_of (tb4 _ (List.mem_of_getElem? (i := 227) rfl)) rfl
theorem kw_1020 : Cond.instanceMethod yX8_test ∈ wA := wA_of (tb4 _ (List.mem_of_getElem? (i := 229) rfl)) rfl
theorem kw_1021 : Cond.code yX8_test cX8_test 4 (some FieldType.boolean) ∈ wA := wA_of (tb4 _ (List.mem_of_getElem? (i := 230) rfl)) rfl
theorem kw_1022 : Cond.methodLink "GatesBentModel" 108 yX8_known ∈ wA := wA_of (tb4 _ (List.mem_of_getElem? (i := 231) rfl)) rfl
theorem kw_1024 : Cond.instanceMethod yX8_known ∈ wA := wA_of (tb4 _ (List.mem_of_getElem? (i := 233) rfl)) rfl
theorem kw_1025 : Cond.code yX8_known cX8_known 2 (some FieldType.int) ∈ wA := wA_of (tb4 _ (List.mem_of_getElem? (i := 234) rfl)) rfl
theorem kw_1026 : Cond.methodLink "GatesBentModel" 111 yX8_walkAt ∈ wA := wA_of (tb4 _ (List.mem_of_getElem? (i := 235) rfl)) rfl
theorem kw_1028 : Cond.instanceMethod yX8_walkAt ∈ wA := wA_of (tb4 _ (List.mem_of_getElem? (i := 237) rfl)) rfl
theorem kw_1029 : Cond.code yX8_walkAt cX8_walkAt 3 (some FieldType.int) ∈ wA := wA_of (tb4 _ (List.mem_of_getElem? (i := 238) rfl)) rfl
theorem kw_1030 : Cond.methodLink "GatesBentModel" 117 yX8_likeTo ∈ wA := wA_of (tb4 _ (List.mem_of_getElem? (i := 239) rfl)) rfl
theorem kw_1032 : Cond.instanceMethod yX8_likeTo ∈ wA := wA_of (tb5 _ (List.mem_of_getElem? (i := 1) rfl)) rfl
theorem kw_1033 : Cond.code yX8_likeTo cX8_likeTo 7 (some FieldType.int) ∈ wA := wA_of (tb5 _ (List.mem_of_getElem? (i := 2) rfl)) rfl
theorem kw_1034 : Cond.methodLink "GatesBentModel" 186 yX8_many ∈ wA := wA_of (tb5 _ (List.mem_of_getElem? (i := 3) rfl)) rfl
theorem kw_1035 : Cond.static yX8_many ∈ wA := wA_of (tb5 _ (List.mem_of_getElem? (i := 4) rfl)) rfl
theorem kw_1036 : Cond.code yX8_many cX8_many 3 (some FieldType.int) ∈ wA := wA_of (tb5 _ (List.mem_of_getElem? (i := 5) rfl)) rfl
theorem kw_1037 : Cond.methodLink "GatesBentModel" 189 yJ9_min_7cf53 ∈ wA := wA_of (tb5 _ (List.mem_of_getElem? (i := 6) rfl)) rfl
theorem kw_1038 : Cond.methodLink "GatesBentModel" 203 yX8_day ∈ wA := wA_of (tb5 _ (List.mem_of_getElem? (i := 7) rfl)) rfl
theorem kw_1040 : Cond.instanceMethod yX8_day ∈ wA := wA_of (tb5 _ (List.mem_of_getElem? (i := 9) rfl)) rfl
theorem kw_1041 : Cond.code yX8_day cX8_day 3 none ∈ wA := wA_of (tb5 _ (List.mem_of_getElem? (i := 10) rfl)) rfl
theorem kw_1042 : Cond.methodLink "GatesBentModel" 200 yX8_ageNow ∈ wA := wA_of (tb5 _ (List.mem_of_getElem? (i := 11) rfl)) rfl
theorem kw_1044 : Cond.instanceMethod yX8_ageNow ∈ wA := wA_of (tb5 _ (List.mem_of_getElem? (i := 13) rfl)) rfl
theorem kw_1045 : Cond.code yX8_ageNow cX8_ageNow 1 (some FieldType.int) ∈ wA := wA_of (tb5 _ (List.mem_of_getElem? (i := 14) rfl)) rfl
theorem kw_1046 : Cond.methodLink "GatesBentModel" 209 yX8_lay ∈ wA := wA_of (tb5 _ (List.mem_of_getElem? (i := 15) rfl)) rfl
theorem kw_1048 : Cond.instanceMethod yX8_lay ∈ wA := wA_of (tb5 _ (List.mem_of_getElem? (i := 17) rfl)) rfl
theorem kw_1049 : Cond.code yX8_lay cX8_lay 3 none ∈ wA := wA_of (tb5 _ (List.mem_of_getElem? (i := 18) rfl)) rfl
theorem kw_1050 : Cond.methodLink "GatesBentModel" 105 yX8_nearest ∈ wA := wA_of (tb5 _ (List.mem_of_getElem? (i := 19) rfl)) rfl
theorem kw_1052 : Cond.instanceMethod yX8_nearest ∈ wA := wA_of (tb5 _ (List.mem_of_getElem? (i := 21) rfl)) rfl
theorem kw_1053 : Cond.code yX8_nearest cX8_nearest 8 (some FieldType.int) ∈ wA := wA_of (tb5 _ (List.mem_of_getElem? (i := 22) rfl)) rfl
theorem kw_1054 : Cond.methodLink "GatesBentLaw" 27 yX8_set ∈ wA := wA_of (tb5 _ (List.mem_of_getElem? (i := 23) rfl)) rfl
theorem kw_1055 : Cond.instanceMethod yX8_set ∈ wA := wA_of (tb5 _ (List.mem_of_getElem? (i := 24) rfl)) rfl
theorem kw_1056 : Cond.selects "GatesBentModel" yX8_set yX8_set ∈ wA := wA_of (tb5 _ (List.mem_of_getElem? (i := 25) rfl)) rfl
theorem kw_1057 : Cond.code yX8_set cX8_set 4 (some FieldType.int) ∈ wA := wA_of (tb5 _ (List.mem_of_getElem? (i := 26) rfl)) rfl
theorem kw_1058 : Cond.methodLink "GatesBentLaw" 31 yX8_like ∈ wA := wA_of (tb5 _ (List.mem_of_getElem? (i := 27) rfl)) rfl
theorem kw_1059 : Cond.instanceMethod yX8_like ∈ wA := wA_of (tb5 _ (List.mem_of_getElem? (i := 28) rfl)) rfl
theorem kw_1060 : Cond.selects "GatesBentModel" yX8_like yX8_like ∈ wA := wA_of (tb5 _ (List.mem_of_getElem? (i := 29) rfl)) rfl
theorem kw_1061 : Cond.code yX8_like cX8_like 4 (some FieldType.int) ∈ wA := wA_of (tb5 _ (List.mem_of_getElem? (i := 30) rfl)) rfl
theorem kw_1062 : Cond.methodLink "GatesBentLaw" 40 yX8_forget ∈ wA := wA_of (tb5 _ (List.mem_of_getElem? (i := 31) rfl)) rfl
theorem kw_1063 : Cond.instanceMethod yX8_forget ∈ wA := wA_of (tb5 _ (List.mem_of_getElem? (i := 32) rfl)) rfl
theorem kw_1064 : Cond.selects "GatesBentModel" yX8_forget yX8_forget ∈ wA := wA_of (tb5 _ (List.mem_of_getElem? (i := 33) rfl)) rfl
theorem kw_1065 : Cond.code yX8_forget cX8_forget 3 (some FieldType.int) ∈ wA := wA_of (tb5 _ (List.mem_of_getElem? (i := 34) rfl)) rfl
theorem kw_1066 : Cond.methodLink "GatesBentLaw" 44 yX8_row ∈ wA := wA_of (tb5 _ (List.mem_of_getElem? (i := 35) rfl)) rfl
theorem kw_1067 : Cond.instanceMethod yX8_row ∈ wA := wA_of (tb5 _ (List.mem_of_getElem? (i := 36) rfl)) rfl
theorem kw_1068 : Cond.selects "GatesBentModel" yX8_row yX8_row ∈ wA := wA_of (tb5 _ (List.mem_of_getElem? (i := 37) rfl)) rfl
theorem kw_1069 : Cond.code yX8_row cX8_row 4 (some FieldType.int) ∈ wA := wA_of (tb5 _ (List.mem_of_getElem? (i := 38) rfl)) rfl
theorem kw_1070 : Cond.methodLink "GatesBentLaw" 48 yX8_feed ∈ wA := wA_of (tb5 _ (List.mem_of_getElem? (i := 39) rfl)) rfl
theorem kw_1071 : Cond.instanceMethod yX8_feed ∈ wA := wA_of (tb5 _ (List.mem_of_getElem? (i := 40) rfl)) rfl
theorem kw_1072 : Cond.selects "GatesBentModel" yX8_feed yX8_feed ∈ wA := wA_of (tb5 _ (List.mem_of_getElem? (i := 41) rfl)) rfl
theorem kw_1073 : Cond.code yX8_feed cX8_feed 2 (some FieldType.int) ∈ wA := wA_of (tb5 _ (List.mem_of_getElem? (i := 42) rfl)) rfl
theorem kw_1074 : Cond.methodLink "GatesBentLaw" 53 yX8_house ∈ wA := wA_of (tb5 _ (List.mem_of_getElem? (i := 43) rfl)) rfl
theorem kw_1075 : Cond.instanceMethod yX8_house ∈ wA := wA_of (tb5 _ (List.mem_of_getElem? (i := 44) rfl)) rfl
theorem kw_1076 : Cond.selects "GatesBentModel" yX8_house yX8_house ∈ wA := wA_of (tb5 _ (List.mem_of_getElem? (i := 45) rfl)) rfl
theorem kw_1077 : Cond.code yX8_house cX8_house 2 (some FieldType.int) ∈ wA := wA_of (tb5 _ (List.mem_of_getElem? (i := 46) rfl)) rfl
theorem kw_1078 : Cond.methodLink "GatesBentLaw" 35 yX8_teach ∈ wA := wA_of (tb5 _ (List.mem_of_getElem? (i := 47) rfl)) rfl
theorem kw_1079 : Cond.instanceMethod yX8_teach ∈ wA := wA_of (tb5 _ (List.mem_of_getElem? (i := 48) rfl)) rfl
theorem kw_1080 : Cond.selects "GatesBentModel" yX8_teach yX8_teach ∈ wA := wA_of (tb5 _ (List.mem_of_getElem? (i := 49) rfl)) rfl
theorem kw_1081 : Cond.code yX8_teach cX8_teach 3 (some FieldType.int) ∈ wA := wA_of (tb5 _ (List.mem_of_getElem? (i := 50) rfl)) rfl
theorem kw_1082 : Cond.methodLink "GatesBentModel" 197 yX8_taught ∈ wA := wA_of (tb5 _ (List.mem_of_getElem? (i := 51) rfl)) rfl
theorem kw_1084 : Cond.instanceMethod yX8_taught ∈ wA := wA_of (tb5 _ (List.mem_of_getElem? (i := 53) rfl)) rfl
theorem kw_1085 : Cond.code yX8_taught cX8_taught 6 (some FieldType.int) ∈ wA := wA_of (tb5 _ (List.mem_of_getElem? (i := 54) rfl)) rfl
theorem kw_1086 : Cond.methodLink "GatesBentLaw" 57 yX8_told ∈ wA := wA_of (tb5 _ (List.mem_of_getElem? (i := 55) rfl)) rfl
theorem kw_1087 : Cond.instanceMethod yX8_told ∈ wA := wA_of (tb5 _ (List.mem_of_getElem? (i := 56) rfl)) rfl
theorem kw_1088 : Cond.selects "GatesBentModel" yX8_told yX8_told ∈ wA := wA_of (tb5 _ (List.mem_of_getElem? (i := 57) rfl)) rfl
theorem kw_1089 : Cond.code yX8_told cX8_told 4 (some FieldType.int) ∈ wA := wA_of (tb5 _ (List.mem_of_getElem? (i := 58) rfl)) rfl
theorem kw_1090 : Cond.methodLink "GatesBentModel" 212 yX8_needNow ∈ wA := wA_of (tb5 _ (List.mem_of_getElem? (i := 59) rfl)) rfl
theorem kw_1092 : Cond.instanceMethod yX8_needNow ∈ wA := wA_of (tb5 _ (List.mem_of_getElem? (i := 61) rfl)) rfl
theorem kw_1093 : Cond.code yX8_needNow cX8_needNow 1 (some FieldType.int) ∈ wA := wA_of (tb5 _ (List.mem_of_getElem? (i := 62) rfl)) rfl
theorem kw_1094 : Cond.methodLink "GatesBentModel" 215 yX8_bys ∈ wA := wA_of (tb5 _ (List.mem_of_getElem? (i := 63) rfl)) rfl
theorem kw_1096 : Cond.instanceMethod yX8_bys ∈ wA := wA_of (tb5 _ (List.mem_of_getElem? (i := 65) rfl)) rfl
theorem kw_1097 : Cond.code yX8_bys cX8_bys 3 (some FieldType.int) ∈ wA := wA_of (tb5 _ (List.mem_of_getElem? (i := 66) rfl)) rfl
theorem kw_1098 : Cond.methodLink "GatesBentModel" 218 yX8_passes ∈ wA := wA_of (tb5 _ (List.mem_of_getElem? (i := 67) rfl)) rfl
theorem kw_1100 : Cond.instanceMethod yX8_passes ∈ wA := wA_of (tb5 _ (List.mem_of_getElem? (i := 69) rfl)) rfl
theorem kw_1101 : Cond.code yX8_passes cX8_passes 3 (some FieldType.int) ∈ wA := wA_of (tb5 _ (List.mem_of_getElem? (i := 70) rfl)) rfl
theorem kw_1102 : Cond.methodLink "GatesBentModel" 221 yX8_master ∈ wA := wA_of (tb5 _ (List.mem_of_getElem? (i := 71) rfl)) rfl
theorem kw_1104 : Cond.instanceMethod yX8_master ∈ wA := wA_of (tb5 _ (List.mem_of_getElem? (i := 73) rfl)) rfl
theorem kw_1105 : Cond.code yX8_master cX8_master 9 (some FieldType.int) ∈ wA := wA_of (tb5 _ (List.mem_of_getElem? (i := 74) rfl)) rfl
theorem kw_1106 : Cond.methodLink "GatesBentModel" 238 yJ9_max_7cf53 ∈ wA := wA_of (tb5 _ (List.mem_of_getElem? (i := 75) rfl)) rfl
theorem kw_1107 : Cond.methodLink "GatesBentLaw" 61 yX8_pass ∈ wA := wA_of (tb5 _ (List.mem_of_getElem? (i := 76) rfl)) rfl
theorem kw_1108 : Cond.instanceMethod yX8_pass ∈ wA := wA_of (tb5 _ (List.mem_of_getElem? (i := 77) rfl)) rfl
theorem kw_1109 : Cond.selects "GatesBentModel" yX8_pass yX8_pass ∈ wA := wA_of (tb5 _ (List.mem_of_getElem? (i := 78) rfl)) rfl
theorem kw_1110 : Cond.code yX8_pass cX8_pass 2 (some FieldType.int) ∈ wA := wA_of (tb5 _ (List.mem_of_getElem? (i := 79) rfl)) rfl
theorem kw_1111 : Cond.methodLink "GatesBentModel" 225 yX8_days ∈ wA := wA_of (tb5 _ (List.mem_of_getElem? (i := 80) rfl)) rfl
theorem kw_1113 : Cond.instanceMethod yX8_days ∈ wA := wA_of (tb5 _ (List.mem_of_getElem? (i := 82) rfl)) rfl
theorem kw_1114 : Cond.code yX8_days cX8_days 3 none ∈ wA := wA_of (tb5 _ (List.mem_of_getElem? (i := 83) rfl)) rfl
theorem kw_1115 : Cond.methodLink "GatesBentLaw" 65 yX8_on ∈ wA := wA_of (tb5 _ (List.mem_of_getElem? (i := 84) rfl)) rfl
theorem kw_1116 : Cond.instanceMethod yX8_on ∈ wA := wA_of (tb5 _ (List.mem_of_getElem? (i := 85) rfl)) rfl
theorem kw_1117 : Cond.selects "GatesBentModel" yX8_on yX8_on ∈ wA := wA_of (tb5 _ (List.mem_of_getElem? (i := 86) rfl)) rfl
theorem kw_1118 : Cond.code yX8_on cX8_on 4 (some FieldType.int) ∈ wA := wA_of (tb5 _ (List.mem_of_getElem? (i := 87) rfl)) rfl
theorem kw_1119 : Cond.methodLink "GatesBentLaw" 69 yX8_lessons ∈ wA := wA_of (tb5 _ (List.mem_of_getElem? (i := 88) rfl)) rfl
theorem kw_1120 : Cond.instanceMethod yX8_lessons ∈ wA := wA_of (tb5 _ (List.mem_of_getElem? (i := 89) rfl)) rfl
theorem kw_1121 : Cond.selects "GatesBentModel" yX8_lessons yX8_lessons ∈ wA := wA_of (tb5 _ (List.mem_of_getElem? (i := 90) rfl)) rfl
theorem kw_1122 : Cond.code yX8_lessons cX8_lessons 4 (some FieldType.int) ∈ wA := wA_of (tb5 _ (List.mem_of_getElem? (i := 91) rfl)) rfl
theorem kw_1123 : Cond.methodLink "GatesBentModel" 234 yX8_learn ∈ wA := wA_of (tb5 _ (List.mem_of_getElem? (i := 92) rfl)) rfl
theorem kw_1125 : Cond.instanceMethod yX8_learn ∈ wA := wA_of (tb5 _ (List.mem_of_getElem? (i := 94) rfl)) rfl
theorem kw_1126 : Cond.code yX8_learn cX8_learn 6 none ∈ wA := wA_of (tb5 _ (List.mem_of_getElem? (i := 95) rfl)) rfl
theorem kw_1127 : Cond.methodLink "GatesBentModel" 228 yX8_letsAll ∈ wA := wA_of (tb5 _ (List.mem_of_getElem? (i := 96) rfl)) rfl
theorem kw_1129 : Cond.instanceMethod yX8_letsAll ∈ wA := wA_of (tb5 _ (List.mem_of_getElem? (i := 98) rfl)) rfl
theorem kw_1130 : Cond.code yX8_letsAll cX8_letsAll 4 (some FieldType.int) ∈ wA := wA_of (tb5 _ (List.mem_of_getElem? (i := 99) rfl)) rfl
theorem kw_1131 : Cond.methodLink "GatesBentLaw" 73 yX8_feign ∈ wA := wA_of (tb5 _ (List.mem_of_getElem? (i := 100) rfl)) rfl
theorem kw_1132 : Cond.instanceMethod yX8_feign ∈ wA := wA_of (tb5 _ (List.mem_of_getElem? (i := 101) rfl)) rfl
theorem kw_1133 : Cond.selects "GatesBentModel" yX8_feign yX8_feign ∈ wA := wA_of (tb5 _ (List.mem_of_getElem? (i := 102) rfl)) rfl
theorem kw_1134 : Cond.code yX8_feign cX8_feign 12 (some FieldType.int) ∈ wA := wA_of (tb5 _ (List.mem_of_getElem? (i := 103) rfl)) rfl
theorem kw_1135 : Cond.methodLink "GatesBentLaw" 78 yX8_see ∈ wA := wA_of (tb5 _ (List.mem_of_getElem? (i := 104) rfl)) rfl
theorem kw_1136 : Cond.instanceMethod yX8_see ∈ wA := wA_of (tb5 _ (List.mem_of_getElem? (i := 105) rfl)) rfl
theorem kw_1137 : Cond.selects "GatesBentModel" yX8_see yX8_see ∈ wA := wA_of (tb5 _ (List.mem_of_getElem? (i := 106) rfl)) rfl
theorem kw_1138 : Cond.code yX8_see cX8_see 5 (some FieldType.int) ∈ wA := wA_of (tb5 _ (List.mem_of_getElem? (i := 107) rfl)) rfl
theorem kw_1139 : Cond.methodLink "GatesBentLaw" 82 yX8_wrong ∈ wA := wA_of (tb5 _ (List.mem_of_getElem? (i := 108) rfl)) rfl
theorem kw_1140 : Cond.instanceMethod yX8_wrong ∈ wA := wA_of (tb5 _ (List.mem_of_getElem? (i := 109) rfl)) rfl
theorem kw_1141 : Cond.selects "GatesBentModel" yX8_wrong yX8_wrong ∈ wA := wA_of (tb5 _ (List.mem_of_getElem? (i := 110) rfl)) rfl
theorem kw_1142 : Cond.code yX8_wrong cX8_wrong 2 (some FieldType.int) ∈ wA := wA_of (tb5 _ (List.mem_of_getElem? (i := 111) rfl)) rfl
theorem kw_1143 : Cond.methodLink "GatesBentModel" 241 yX8_isSo ∈ wA := wA_of (tb5 _ (List.mem_of_getElem? (i := 112) rfl)) rfl
theorem kw_1145 : Cond.instanceMethod yX8_isSo ∈ wA := wA_of (tb5 _ (List.mem_of_getElem? (i := 114) rfl)) rfl
theorem kw_1146 : Cond.code yX8_isSo cX8_isSo 3 (some FieldType.boolean) ∈ wA := wA_of (tb5 _ (List.mem_of_getElem? (i := 115) rfl)) rfl
theorem kw_1147 : Cond.methodLink "GatesBentLaw" 86 yX8_can ∈ wA := wA_of (tb5 _ (List.mem_of_getElem? (i := 116) rfl)) rfl
theorem kw_1148 : Cond.instanceMethod yX8_can ∈ wA := wA_of (tb5 _ (List.mem_of_getElem? (i := 117) rfl)) rfl
theorem kw_1149 : Cond.selects "GatesBentModel" yX8_can yX8_can ∈ wA := wA_of (tb5 _ (List.mem_of_getElem? (i := 118) rfl)) rfl
theorem kw_1150 : Cond.code yX8_can cX8_can 10 (some FieldType.int) ∈ wA := wA_of (tb5 _ (List.mem_of_getElem? (i := 119) rfl)) rfl
theorem kw_1151 : Cond.methodLink "GatesBentModel" 244 yX8_isAllSo ∈ wA := wA_of (tb5 _ (List.mem_of_getElem? (i := 120) rfl)) rfl
theorem kw_1153 : Cond.instanceMethod yX8_isAllSo ∈ wA := wA_of (tb5 _ (List.mem_of_getElem? (i := 122) rfl)) rfl
theorem kw_1154 : Cond.code yX8_isAllSo cX8_isAllSo 3 (some FieldType.boolean) ∈ wA := wA_of (tb5 _ (List.mem_of_getElem? (i := 123) rfl)) rfl
theorem kw_1155 : Cond.methodLink "GatesBentLaw" 91 yX8_odds ∈ wA := wA_of (tb5 _ (List.mem_of_getElem? (i := 124) rfl)) rfl
theorem kw_1156 : Cond.instanceMethod yX8_odds ∈ wA := wA_of (tb5 _ (List.mem_of_getElem? (i := 125) rfl)) rfl
theorem kw_1157 : Cond.selects "GatesBentModel" yX8_odds yX8_odds ∈ wA := wA_of (tb5 _ (List.mem_of_getElem? (i := 126) rfl)) rfl
theorem kw_1158 : Cond.code yX8_odds cX8_odds 7 (some FieldType.long) ∈ wA := wA_of (tb5 _ (List.mem_of_getElem? (i := 127) rfl)) rfl
theorem kw_1159 : Cond.constantLong "GatesBentModel" 247 (-9223372036854775808 : Int64) ∈ wA := wA_of (tb5 _ (List.mem_of_getElem? (i := 128) rfl)) rfl
theorem kw_1160 : Cond.constantLong "GatesBentModel" 249 (12 : Int64) ∈ wA := wA_of (tb5 _ (List.mem_of_getElem? (i := 129) rfl)) rfl
theorem kw_1161 : Cond.methodLink "GatesBentModel" 251 yX8_fraction ∈ wA := wA_of (tb5 _ (List.mem_of_getElem? (i := 130) rfl)) rfl
theorem kw_1162 : Cond.static yX8_fraction ∈ wA := wA_of (tb5 _ (List.mem_of_getElem? (i := 131) rfl)) rfl
theorem kw_1163 : Cond.code yX8_fraction cX8_fraction 11 (some FieldType.long) ∈ wA := wA_of (tb5 _ (List.mem_of_getElem? (i := 132) rfl)) rfl
theorem kw_1164 : Cond.methodLink "GatesBentLaw" 96 yX8_mean ∈ wA := wA_of (tb5 _ (List.mem_of_getElem? (i := 133) rfl)) rfl
theorem kw_1165 : Cond.instanceMethod yX8_mean ∈ wA := wA_of (tb5 _ (List.mem_of_getElem? (i := 134) rfl)) rfl
theorem kw_1166 : Cond.selects "GatesBentModel" yX8_mean yX8_mean ∈ wA := wA_of (tb5 _ (List.mem_of_getElem? (i := 135) rfl)) rfl
theorem kw_1167 : Cond.code yX8_mean cX8_mean 4 (some FieldType.long) ∈ wA := wA_of (tb5 _ (List.mem_of_getElem? (i := 136) rfl)) rfl
theorem kw_1168 : Cond.methodLink "GatesBentLaw" 100 yX8_plan ∈ wA := wA_of (tb5 _ (List.mem_of_getElem? (i := 137) rfl)) rfl
theorem kw_1169 : Cond.instanceMethod yX8_plan ∈ wA := wA_of (tb5 _ (List.mem_of_getElem? (i := 138) rfl)) rfl
theorem kw_1170 : Cond.selects "GatesBentModel" yX8_plan yX8_plan ∈ wA := wA_of (tb5 _ (List.mem_of_getElem? (i := 139) rfl)) rfl
theorem kw_1171 : Cond.code yX8_plan cX8_plan 4 (some FieldType.int) ∈ wA := wA_of (tb5 _ (List.mem_of_getElem? (i := 140) rfl)) rfl
theorem kw_1172 : Cond.methodLink "GatesBentLaw" 104 yX8_ends ∈ wA := wA_of (tb5 _ (List.mem_of_getElem? (i := 141) rfl)) rfl
theorem kw_1173 : Cond.instanceMethod yX8_ends ∈ wA := wA_of (tb5 _ (List.mem_of_getElem? (i := 142) rfl)) rfl
theorem kw_1174 : Cond.selects "GatesBentModel" yX8_ends yX8_ends ∈ wA := wA_of (tb5 _ (List.mem_of_getElem? (i := 143) rfl)) rfl
theorem kw_1175 : Cond.code yX8_ends cX8_ends 5 (some FieldType.int) ∈ wA := wA_of (tb5 _ (List.mem_of_getElem? (i := 144) rfl)) rfl
theorem kw_1176 : Cond.methodLink "GatesBentLaw" 108 yX8_book ∈ wA := wA_of (tb5 _ (List.mem_of_getElem? (i := 145) rfl)) rfl
theorem kw_1177 : Cond.instanceMethod yX8_book ∈ wA := wA_of (tb5 _ (List.mem_of_getElem? (i := 146) rfl)) rfl
theorem kw_1178 : Cond.selects "GatesBentModel" yX8_book yX8_book ∈ wA := wA_of (tb5 _ (List.mem_of_getElem? (i := 147) rfl)) rfl
theorem kw_1179 : Cond.code yX8_book cX8_book 3 (some FieldType.int) ∈ wA := wA_of (tb5 _ (List.mem_of_getElem? (i := 148) rfl)) rfl
theorem kw_1180 : Cond.methodLink "GatesBentLaw" 112 yX8_looked ∈ wA := wA_of (tb5 _ (List.mem_of_getElem? (i := 149) rfl)) rfl
theorem kw_1181 : Cond.instanceMethod yX8_looked ∈ wA := wA_of (tb5 _ (List.mem_of_getElem? (i := 150) rfl)) rfl
theorem kw_1182 : Cond.selects "GatesBentModel" yX8_looked yX8_looked ∈ wA := wA_of (tb5 _ (List.mem_of_getElem? (i := 151) rfl)) rfl
theorem kw_1183 : Cond.code yX8_looked cX8_looked 2 (some FieldType.int) ∈ wA := wA_of (tb5 _ (List.mem_of_getElem? (i := 152) rfl)) rfl
theorem kw_1184 : Cond.methodLink "GatesBentLaw" 128 yX8_act ∈ wA := wA_of (tb5 _ (List.mem_of_getElem? (i := 153) rfl)) rfl
theorem kw_1185 : Cond.instanceMethod yX8_act ∈ wA := wA_of (tb5 _ (List.mem_of_getElem? (i := 154) rfl)) rfl
theorem kw_1186 : Cond.selects "GatesBentModel" yX8_act yX8_act ∈ wA := wA_of (tb5 _ (List.mem_of_getElem? (i := 155) rfl)) rfl
theorem kw_1187 : Cond.code yX8_act cX8_act 4 (some FieldType.int) ∈ wA := wA_of (tb5 _ (List.mem_of_getElem? (i := 156) rfl)) rfl
theorem kw_1188 : Cond.methodLink "GatesBentModel" 264 yX8_all ∈ wA := wA_of (tb5 _ (List.mem_of_getElem? (i := 157) rfl)) rfl
theorem kw_1190 : Cond.instanceMethod yX8_all ∈ wA := wA_of (tb5 _ (List.mem_of_getElem? (i := 159) rfl)) rfl
theorem kw_1191 : Cond.code yX8_all cX8_all 4 (some FieldType.int) ∈ wA := wA_of (tb5 _ (List.mem_of_getElem? (i := 160) rfl)) rfl
theorem kw_1192 : Cond.methodLink "GatesBentModel" 258 yX8_byKind ∈ wA := wA_of (tb5 _ (List.mem_of_getElem? (i := 161) rfl)) rfl
theorem kw_1194 : Cond.instanceMethod yX8_byKind ∈ wA := wA_of (tb5 _ (List.mem_of_getElem? (i := 163) rfl)) rfl
theorem kw_1195 : Cond.code yX8_byKind cX8_byKind 7 (some FieldType.int) ∈ wA := wA_of (tb5 _ (List.mem_of_getElem? (i := 164) rfl)) rfl
theorem kw_1196 : Cond.methodLink "GatesBentModel" 261 yX8_body ∈ wA := wA_of (tb5 _ (List.mem_of_getElem? (i := 165) rfl)) rfl
theorem kw_1198 : Cond.instanceMethod yX8_body ∈ wA := wA_of (tb5 _ (List.mem_of_getElem? (i := 167) rfl)) rfl
theorem kw_1199 : Cond.code yX8_body cX8_body 2 (some FieldType.int) ∈ wA := wA_of (tb5 _ (List.mem_of_getElem? (i := 168) rfl)) rfl
theorem kw_1200 : Cond.methodLink "GatesBentLaw" 132 yX8_trace ∈ wA := wA_of (tb5 _ (List.mem_of_getElem? (i := 169) rfl)) rfl
theorem kw_1201 : Cond.instanceMethod yX8_trace ∈ wA := wA_of (tb5 _ (List.mem_of_getElem? (i := 170) rfl)) rfl
theorem kw_1202 : Cond.selects "GatesBentModel" yX8_trace yX8_trace ∈ wA := wA_of (tb5 _ (List.mem_of_getElem? (i := 171) rfl)) rfl
theorem kw_1203 : Cond.code yX8_trace cX8_trace 2 (some FieldType.int) ∈ wA := wA_of (tb5 _ (List.mem_of_getElem? (i := 172) rfl)) rfl
theorem kw_1204 : Cond.methodLink "GatesBentLaw" 136 yX8_taken ∈ wA := wA_of (tb5 _ (List.mem_of_getElem? (i := 173) rfl)) rfl
theorem kw_1205 : Cond.instanceMethod yX8_taken ∈ wA := wA_of (tb5 _ (List.mem_of_getElem? (i := 174) rfl)) rfl
theorem kw_1206 : Cond.selects "GatesBentModel" yX8_taken yX8_taken ∈ wA := wA_of (tb5 _ (List.mem_of_getElem? (i := 175) rfl)) rfl
theorem kw_1207 : Cond.code yX8_taken cX8_taken 4 (some FieldType.int) ∈ wA := wA_of (tb5 _ (List.mem_of_getElem? (i := 176) rfl)) rfl
theorem kw_1208 : Cond.methodLink "GatesBentLaw" 140 yX8_count ∈ wA := wA_of (tb5 _ (List.mem_of_getElem? (i := 177) rfl)) rfl
theorem kw_1209 : Cond.instanceMethod yX8_count ∈ wA := wA_of (tb5 _ (List.mem_of_getElem? (i := 178) rfl)) rfl
theorem kw_1210 : Cond.selects "GatesBentModel" yX8_count yX8_count ∈ wA := wA_of (tb5 _ (List.mem_of_getElem? (i := 179) rfl)) rfl
theorem kw_1211 : Cond.code yX8_count cX8_count 2 (some FieldType.int) ∈ wA := wA_of (tb5 _ (List.mem_of_getElem? (i := 180) rfl)) rfl
theorem kw_1212 : Cond.methodLink "GatesBentLaw" 144 yX8_tape ∈ wA := wA_of (tb5 _ (List.mem_of_getElem? (i := 181) rfl)) rfl
theorem kw_1213 : Cond.instanceMethod yX8_tape ∈ wA := wA_of (tb5 _ (List.mem_of_getElem? (i := 182) rfl)) rfl
theorem kw_1214 : Cond.selects "GatesBentModel" yX8_tape yX8_tape ∈ wA := wA_of (tb5 _ (List.mem_of_getElem? (i := 183) rfl)) rfl
theorem kw_1215 : Cond.code yX8_tape cX8_tape 5 (some FieldType.int) ∈ wA := wA_of (tb5 _ (List.mem_of_getElem? (i := 184) rfl)) rfl
theorem kw_1216 : Cond.methodLink "GatesBentModel" 267 yX8_isTape ∈ wA := wA_of (tb5 _ (List.mem_of_getElem? (i := 185) rfl)) rfl
theorem kw_1217 : Cond.static yX8_isTape ∈ wA := wA_of (tb5 _ (List.mem_of_getElem? (i := 186) rfl)) rfl
theorem kw_1218 : Cond.code yX8_isTape cX8_isTape 1 (some FieldType.boolean) ∈ wA := wA_of (tb5 _ (List.mem_of_getElem? (i := 187) rfl)) rfl
theorem kw_1219 : Cond.methodLink "GatesBentLaw" 151 yX8_item ∈ wA := wA_of (tb5 _ (List.mem_of_getElem? (i := 188) rfl)) rfl
theorem kw_1220 : Cond.instanceMethod yX8_item ∈ wA := wA_of (tb5 _ (List.mem_of_getElem? (i := 189) rfl)) rfl
theorem kw_1221 : Cond.selects "GatesBentModel" yX8_item yX8_item ∈ wA := wA_of (tb5 _ (List.mem_of_getElem? (i := 190) rfl)) rfl
theorem kw_1222 : Cond.code yX8_item cX8_item 6 (some FieldType.int) ∈ wA := wA_of (tb5 _ (List.mem_of_getElem? (i := 191) rfl)) rfl
theorem kw_1223 : Cond.methodLink "GatesBentLaw" 155 yX8_read ∈ wA := wA_of (tb5 _ (List.mem_of_getElem? (i := 192) rfl)) rfl
theorem kw_1224 : Cond.instanceMethod yX8_read ∈ wA := wA_of (tb5 _ (List.mem_of_getElem? (i := 193) rfl)) rfl
theorem kw_1225 : Cond.selects "GatesBentModel" yX8_read yX8_read ∈ wA := wA_of (tb5 _ (List.mem_of_getElem? (i := 194) rfl)) rfl
theorem kw_1226 : Cond.code yX8_read cX8_read 3 (some FieldType.long) ∈ wA := wA_of (tb5 _ (List.mem_of_getElem? (i := 195) rfl)) rfl
theorem kw_1227 : Cond.methodLink "GatesBentLaw" 160 yX8_shift ∈ wA := wA_of (tb5 _ (List.mem_of_getElem? (i := 196) rfl)) rfl
theorem kw_1228 : Cond.instanceMethod yX8_shift ∈ wA := wA_of (tb5 _ (List.mem_of_getElem? (i := 197) rfl)) rfl
theorem kw_1229 : Cond.selects "GatesBentModel" yX8_shift yX8_shift ∈ wA := wA_of (tb5 _ (List.mem_of_getElem? (i := 198) rfl)) rfl
theorem kw_1230 : Cond.code yX8_shift cX8_shift 7 (some FieldType.int) ∈ wA := wA_of (tb5 _ (List.mem_of_getElem? (i := 199) rfl)) rfl
theorem kw_1231 : Cond.methodLink "GatesBentLaw" 116 yX8_judge ∈ wA := wA_of (tb5 _ (List.mem_of_getElem? (i := 200) rfl)) rfl
theorem kw_1232 : Cond.instanceMethod yX8_judge ∈ wA := wA_of (tb5 _ (List.mem_of_getElem? (i := 201) rfl)) rfl
theorem kw_1233 : Cond.selects "GatesBentModel" yX8_judge yX8_judge ∈ wA := wA_of (tb5 _ (List.mem_of_getElem? (i := 202) rfl)) rfl
theorem kw_1234 : Cond.code yX8_judge cX8_judge 6 (some FieldType.int) ∈ wA := wA_of (tb5 _ (List.mem_of_getElem? (i := 203) rfl)) rfl
theorem kw_1235 : Cond.constantLong "GatesBentLaw" 145 (4294967295 : Int64) ∈ wA := wA_of (tb5 _ (List.mem_of_getElem? (i := 204) rfl)) rfl
theorem kw_1236 : Cond.fieldLink "java/lang/String" 9 "java/lang/String" "value" "[B" ∈ wA := wA_of (tb5 _ (List.mem_of_getElem? (i := 205) rfl)) rfl
theorem kw_1237 : Cond.fieldLink "java/lang/String" 15 "java/lang/String" "coder" "B" ∈ wA := wA_of (tb5 _ (List.mem_of_getElem? (i := 206) rfl)) rfl
end
section
/-! ===== THE FRAME: objects by names (tag, i, j), a memory of values, the judgement XX (W over every heap that holds the memory) ===== -/
abbrev Ob : Type := Nat × Int × Int
abbrev Me : Type := Ob → Int → Int
abbrev Mv : Type := Ob → Nat → Value
/-- the classes' numbers and slots; the array classes; where our cells begin; the String constants and their bytes -/
abbrev Ev : Type := va_G × (Nat → ClassId) × Nat × (Nat → Nat) × (Nat → Nat)
/-- an int, a long by a whole number (wrapping) -/
def I (z : Int) : Int32 := Int32.ofInt z
def J (z : Int) : Int64 := Int64.ofInt z
/-- 0 or 1 -/
def bI (b : Bool) : Int := cond b 1 0
/-- the shape of an object: a class by its place in vwCl, or an array (0 int, 1 long, 2 byte, 3 char, 4 Gate, 5 Comer, 6 House, 7 Tape) and its length -/
def shp (o : Ob) : Nat ⊕ (Nat × Nat) := match o.1 with
  | 0 => .inl 7
  | 1 => .inl 6
  | 2 => .inl 1
  | 3 => .inr (0, 3)
  | 4 => .inl 0
  | 5 => .inr (0, 4)
  | 6 => .inl 4
  | 7 => .inr (0, if o.2.2 = 0 then 5 else if o.2.2 = 1 then 10 else 8)
  | 8 => .inr (0, if o.2.2 = 0 then 5 else if o.2.2 = 1 then 10 else 8)
  | 9 => .inr (0, if o.2.2 = 0 then 5 else if o.2.2 = 1 then 10 else 8)
  | 10 => .inr (4, 4)
  | 11 => .inr (5, 6)
  | 12 => .inl 2
  | 13 => .inr (0, if o.2.1 = 6 then 0 else 100)
  | 14 => .inr (0, if o.2.1 = 6 then 0 else 100)
  | 15 => .inl 3
  | 16 => .inr (2, 100)
  | 17 => .inr (6, 6)
  | 18 => .inr (0, 20)
  | 19 => .inr (7, 6)
  | 20 => .inl 5
  | 21 => .inr (1, 60)
  | 22 => .inr (0, 6)
  | 23 => .inr (0, 4)
  | 30 => .inl 8
  | 31 => .inr (0, 133)
  | 32 => .inr (0, 532)
  | 33 => .inr (0, 133)
  | 34 => .inr (0, 100)
  | 35 => .inr (0, 600)
  | 36 => .inr (0, 6)
  | 37 => .inr (0, 100)
  | 38 => .inr (0, 6)
  | 39 => .inr (3, 6)
  | 40 => .inr (3, 24)
  | 41 => .inr (0, 3)
  | 42 => .inr (0, 3)
  | 43 => .inr (0, 6)
  | 44 => .inr (0, 7)
  | 45 => .inr (0, 21)
  | 46 => .inr (0, 20)
  | 47 => .inr (0, 6)
  | 48 => .inr (0, 6)
  | 49 => .inr (1, 360)
  | _ => .inr (1, 60)
/-- what a slot is: inl 0 an int, inl 1 a long, inl 2 a House by its number (7: null), inr v: always v -/
def sk (ad : Ob → Nat) (o : Ob) (k : Nat) : Nat ⊕ Value := match o.1 with
  | 0 => match k with
    | 0 => .inr (.ref (ad (1, 0, 0)))
    | 1 => .inr (.ref (ad (1, 1, 0)))
    | 2 => .inr (.ref (ad (1, 2, 0)))
    | 4 => .inr (.ref (ad (15, 0, 0)))
    | 5 => .inr (.ref (ad (17, 0, 0)))
    | 7 => .inr (.ref (ad (18, 0, 0)))
    | 9 => .inr (.ref (ad (19, 0, 0)))
    | 10 => .inr (.ref (ad (2, 3, 0)))
    | 11 => .inr (.ref (ad (4, 3, 0)))
    | 12 => .inr (.ref (ad (22, 0, 0)))
    | 13 => .inr (.ref (ad (23, 0, 0)))
    | _ => .inl 0
  | 1 => match k with
    | 0 => .inr (.ref (ad (10, o.2.1, 0)))
    | 1 => .inr (.ref (ad (11, o.2.1, 0)))
    | 2 => .inr (.ref (ad (6, o.2.1, 0)))
    | 3 => .inr (.ref (ad (6, o.2.1, 1)))
    | 4 => .inr (.ref (ad (6, o.2.1, 2)))
    | 7 => .inl 2
    | _ => .inl 0
  | 2 => match k with
    | 0 => .inr (.ref (ad (3, o.2.1, o.2.2)))
    | _ => .inl 0
  | 4 => match k with
    | 7 => .inr (.ref (ad (5, o.2.1, o.2.2)))
    | _ => .inl 0
  | 6 => match k with
    | 0 => .inr (.ref (ad (7, o.2.1, o.2.2)))
    | 1 => .inr (.ref (ad (8, o.2.1, o.2.2)))
    | 2 => .inr (.ref (ad (9, o.2.1, o.2.2)))
    | _ => .inl 0
  | 10 => .inr (.ref (ad (2, o.2.1, k)))
  | 11 => .inr (.ref (ad (4, o.2.1, k)))
  | 12 => match k with
    | 0 => .inr (.ref (ad (13, o.2.1, 0)))
    | 1 => .inr (.ref (ad (14, o.2.1, 0)))
    | _ => .inl 0
  | 15 => match k with
    | 0 => .inr (.ref (ad (16, 0, 0)))
    | 3 => .inl 2
    | _ => .inl 0
  | 17 => .inl 2
  | 19 => .inr (.ref (ad (20, k, 0)))
  | 20 => match k with
    | 0 => .inr (.ref (ad (21, o.2.1, 0)))
    | _ => .inl 0
  | 21 => .inl 1
  | 30 => match k with
    | 0 => .inr (.ref (ad (31, 0, 0)))
    | 1 => .inr (.ref (ad (32, 0, 0)))
    | 2 => .inr (.ref (ad (33, 0, 0)))
    | 4 => .inr (.ref (ad (34, 0, 0)))
    | 6 => .inr (.ref (ad (35, 0, 0)))
    | 7 => .inr (.ref (ad (36, 0, 0)))
    | 9 => .inr (.ref (ad (37, 0, 0)))
    | 17 => .inr (.ref (ad (38, 0, 0)))
    | 18 => .inr (.ref (ad (39, 0, 0)))
    | 19 => .inr (.ref (ad (40, 0, 0)))
    | 20 => .inr (.ref (ad (41, 0, 0)))
    | 21 => .inr (.ref (ad (42, 0, 0)))
    | 23 => .inr (.ref (ad (43, 0, 0)))
    | 24 => .inr (.ref (ad (44, 0, 0)))
    | 25 => .inr (.ref (ad (45, 0, 0)))
    | 26 => .inr (.ref (ad (46, 0, 0)))
    | 28 => .inr (.ref (ad (47, 0, 0)))
    | 29 => .inr (.ref (ad (48, 0, 0)))
    | 30 => .inr (.ref (ad (49, 0, 0)))
    | 31 => .inr (.ref (ad (50, 0, 0)))
    | _ => .inl 0
  | 49 => .inl 1
  | 50 => .inl 1
  | _ => .inl 0
/-- a House by its number -/
def hvl (ad : Ob → Nat) (z : Int) : Value := if z = 7 then .null else .ref (ad (12, z, 0))
def vof (ad : Ob → Nat) (q : Nat ⊕ Value) (z : Int) : Value := match q with
  | .inl 0 => .int (I z)
  | .inl 1 => .long (J z)
  | .inl _ => hvl ad z
  | .inr v => v
/-- the memory's values -/
def vl (ad : Ob → Nat) (μ : Me) : Mv := fun o k => vof ad (sk ad o k) (μ o k)
def upM (μ : Me) (o : Ob) (k : Int) (z : Int) : Me := fun o' k' => if o' = o ∧ k' = k then z else μ o' k'
def upV (ν : Mv) (o : Ob) (k : Nat) (v : Value) : Mv := fun o' k' => if o' = o ∧ k' = k then v else ν o' k'
theorem upV_vl {ad : Ob → Nat} {μ : Me} {o : Ob} {k : Nat} {z : Int} {v : Value} (h : vof ad (sk ad o k) z = v) : upV (vl ad μ) o k v = vl ad (upM μ o k z) := by
  funext o' k'
  by_cases hq : o' = o ∧ k' = k
  · obtain ⟨rfl, rfl⟩ := hq
    simp [upV, vl, upM, h]
  · have hq2 : ¬ (o' = o ∧ (k' : Int) = (k : Int)) := fun z => hq ⟨z.1, by omega⟩
    simp only [upV, vl, upM, if_neg hq, if_neg hq2]
theorem vl_st {ad : Ob → Nat} {μ : Me} {o : Ob} {k : Nat} {v : Value} (h : sk ad o k = .inr v) : vl ad μ o k = v := by simp only [vl, h, vof]
theorem vl_i {ad : Ob → Nat} {μ : Me} {o : Ob} {k : Nat} (h : sk ad o k = .inl 0) : vl ad μ o k = .int (I (μ o k)) := by simp only [vl, h, vof]
theorem vl_l {ad : Ob → Nat} {μ : Me} {o : Ob} {k : Nat} (h : sk ad o k = .inl 1) : vl ad μ o k = .long (J (μ o k)) := by simp only [vl, h, vof]
theorem vl_h {ad : Ob → Nat} {μ : Me} {o : Ob} {k : Nat} (h : sk ad o k = .inl 2) : vl ad μ o k = hvl ad (μ o k) := by simp only [vl, h, vof]
/-- an object's cell -/
def cOK (E : Ev) (ad : Ob → Nat) (f : Nat → Value) (o : Ob) (H : Heap) : Prop := match shp o with
  | .inl ci => ∃ r : vw_C, vwCl[ci]? = some r ∧ t_OB (ad o) (E.1.1 ci) r.2.2 (E.1.2 ci) H f
  | .inr (ti, n) => H[ad o]? = some (arrV (E.2.1 ti) n f)
def Wd (E : Ev) (V : Ob → Prop) (ad : Ob → Nat) (ν : Mv) (H : Heap) : Prop :=
  (∀ o, V o → cOK E ad (ν o) o H) ∧ (∀ o o', V o → V o' → ad o = ad o' → o = o') ∧ ∀ o, V o → E.2.2.1 ≤ ad o
def tyA (k : Nat) : FieldType := match k with
  | 0 => .int
  | 1 => .long
  | 2 => .byte
  | 3 => .char
  | 4 => .object "GatesBent$Gate"
  | 5 => .object "GatesBent$Comer"
  | 6 => .object "GatesBent$House"
  | _ => .object "GatesBent$Tape"
def tysE (E : Ev) : List (ClassId × FieldType) := [(E.2.1 0, tyA 0), (E.2.1 1, tyA 1), (E.2.1 2, tyA 2), (E.2.1 3, tyA 3), (E.2.1 4, tyA 4), (E.2.1 5, tyA 5), (E.2.1 6, tyA 6), (E.2.1 7, tyA 7)]
/-- our part of the heap -/
def A0 (E : Ev) : Nat → Prop := fun q => E.2.2.1 ≤ q
def nestW : List Cond := [Cond.methodLinkNest "GatesBent" 11 yX3_init "GatesBent", Cond.methodLinkNest "GatesBent" 36 yX1_init "GatesBent", Cond.methodLinkNest "GatesBent$Town" 42 yX1_init "GatesBent", Cond.methodLinkNest "GatesBent" 72 yX5_init "GatesBent", Cond.methodLinkNest "GatesBent$Gate" 29 yX7_alike "GatesBent", Cond.methodLinkNest "GatesBent$Town" 64 yX7_alike "GatesBent"]
def strW : List (Nat × String) := [(77, "help"), (79, "hinder"), (81, "need"), (82, "age"), (96, "pkvgtd"), (101, "<=>")]
def strLen : List Nat := [4, 6, 4, 3, 6, 3]
def strByt : List (List Int32) := [[104, 101, 108, 112], [104, 105, 110, 100, 101, 114], [110, 101, 101, 100], [97, 103, 101], [112, 107, 118, 103, 116, 100], [60, 61, 62]]
/-- the Strings and the JDK's statics that stand below -/
def Sx (E : Ev) (U : State) : Prop :=
  (∀ i q, strW[i]? = some q → vk_R "GatesBent$Reader" q.1 q.2 (E.2.2.2.1 i) U) ∧ vk_S 6 strLen strByt E.2.2.2.1 E.2.2.2.2 (A0 E) U U.heap ∧
  va_Z "java/lang/String" "COMPACT_STRINGS" "Z" (.int 1) (A0 E) U U.heap ∧ va_Zq "jdk/internal/util/Preconditions" "SIOOBE_FORMATTER" "Ljava/util/function/BiFunction;" (A0 E) U U.heap
def Kn (E : Ev) (U : State) : Prop := va_K E.1 vwCl (tysE E) U ∧ (∀ w ∈ nestW, va_Nw w U) ∧ Sx E U

theorem Kn.next {E : Ev} {s U : State} {H : Heap} {locs : List Loc} {A : Nat → Prop} (h : Kn E s) (hA : ∀ q, A q → A0 E q) (hS : va_S A s.heap H locs) (hU : U.heap = H) (hW : s.WarmedH U.vm) : Kn E U := by
  obtain ⟨h1, h2, h3, h4, h5, h6⟩ := h
  have hq : ∀ a : Nat, a < s.heap.size → ¬ A0 E a → U.heap[a]? = s.heap[a]? := fun a ha hn => by rw [hU]; exact hS.2.1 a ha (fun z => hn (hA a z))
  refine ⟨h1.moved hW.alike, fun w hw => ?_, fun i q hi => (h3 i q hi).warm hW, (h4.moved hW.alike).kept hq, (h5.moved hW.alike).kept hq, (h6.moved hW.alike).kept hq⟩
  have hz := h2 w hw
  simp only [nestW, List.mem_cons, List.not_mem_nil, or_false] at hw
  rcases hw with rfl | rfl | rfl | rfl | rfl | rfl <;> exact hz.warmM hW
theorem Kn.blind {E : Ev} {U : State} (g : JFrame) (mk : MethodId) (a : Array Value) (h : Kn E U) : Kn E (U.calling g mk a) := by
  obtain ⟨h1, h2, h3, h4, h5, h6⟩ := h
  refine ⟨h1.moved (u := U) (U := U.calling g mk a) (Vm.Alike.refl U.vm), fun w hw => ?_, fun i q hi => (h3 i q hi).same (u := U) rfl, h4.moved (u := U) (U := U.calling g mk a) (Vm.Alike.refl U.vm), h5.moved (u := U) (U := U.calling g mk a) (Vm.Alike.refl U.vm), h6.moved (u := U) (U := U.calling g mk a) (Vm.Alike.refl U.vm)⟩
  have hz := h2 w hw
  simp only [nestW, List.mem_cons, List.not_mem_nil, or_false] at hw
  rcases hw with rfl | rfl | rfl | rfl | rfl | rfl <;> exact hz.same rfl (u := U) rfl
/-! the judgement -/
abbrev Ct : Type := Program × Launch × Env × Room × State × MethodId × Array Value × List Frame × Method × Code × (Nat → Prop) × (State → Prop) × Ev
abbrev Pq : Type := Option Value → (Ob → Prop) → (Ob → Nat) → Mv → Prop
def rmD (d mc ms : Nat) : Room := { frames := d, cells := mc, slots := ms, locals := 40 * d }
def QG (E : Ev) (P : Pq) (A : Nat → Prop) : Array Value → State → Outcome → State → Prop := fun _ st oc t => (∃ (v : Option Value) (V : Ob → Prop) (ad : Ob → Nat) (ν : Mv), oc = .returned v ∧ P v V ad ν ∧ Wd E V ad ν t.heap ∧ ∀ o, V o → A (ad o)) ∧ va_F A st t
def XX (Γ : Ct) (nL : Nat) (V : Ob → Prop) (ad : Ob → Nat) (ν : Mv) (cs sl : Nat) (pc : Nat) (L : List (Nat × Value)) (st : List Value) : Prop := match Γ with
  | (p, l, e, R, s, m, args, below, meth, c, A, Q, E) => ∀ (H : Heap) (locs : List Loc) (ls : Array Slot), Wd E V ad ν H → (∀ o, V o → A (ad o)) → va_S A s.heap H locs → lv_has ls nL L → W p l e R s m args below meth c H locs cs sl Q (F0 m pc ls st)
/-- what stands fast in a method: the machine, its code, its class, the words, its post, its room; the words of its cells -/
def Fx (Γ : Ct) (cc : ByteArray) (own : String) (nL : Nat) (ret : Option FieldType) (P : Pq) (d mc ms : Nat) : Prop := match Γ with
  | (p, _, _, R, s, m, args, below, meth, c, A, Q, E) => p.tables.exec = Jvm.exec ∧ c.code = cc ∧ c.maxLocals = nL ∧ s.vm.findClass own = some m.cls ∧ (∀ w ∈ wA, w.before args s = true) ∧ meth.locks = false ∧ meth.sig.returnType = ret ∧
    Kn E s ∧ (∀ q, A q → A0 E q) ∧ R = rmD d mc ms ∧ Q = MQ below (QG E P A) args s mc ms A ∧ (0 < mc → ∀ q, s.heap.size ≤ q → A q)
/-- a method's contract, from the world V, ad, ν and the arguments av -/
def ConG (l : Launch) (E : Ev) (d : Nat) (y : MethodName) (cc : ByteArray) (maxL : Nat) (ret : Option FieldType) (A : Nat → Prop) (V : Ob → Prop) (ad : Ob → Nat) (ν : Mv) (mc ms : Nat) (av : List Value) (P : Pq) : Prop :=
  (∀ o, V o → A (ad o)) → (∀ q, A q → A0 E q) → Met l y (Cond.code y cc maxL ret :: wA) (rmD d mc ms) (fun args U => args = av.toArray ∧ Wd E V ad ν U.heap ∧ Kn E U ∧ (0 < mc → ∀ q, U.heap.size ≤ q → A q)) (QG E P A) mc ms A
theorem conG {l : Launch} {E : Ev} {d : Nat} {y : MethodName} {cc : ByteArray} {maxL : Nat} {ret : Option FieldType} {A : Nat → Prop} {V : Ob → Prop} {ad : Ob → Nat} {ν : Mv} {mc ms : Nat} {av : List Value} {P : Pq} {own : String}
    (hy : plainName y.cls = true) (ho : y.cls = own) (hn : (lg_sl av).length ≤ maxL) {L : List (Nat × Value)} (hL : lv_args 0 av = L)
    (body : ∀ Γ : Ct, Fx Γ cc own maxL ret P d mc ms → Γ.2.1 = l → Γ.2.2.2.2.2.2.2.2.2.2.2.2 = E → XX Γ maxL V ad ν 0 0 0 L []) : ConG l E d y cc maxL ret A V ad ν mc ms av P := by
  intro hA hA0
  refine Met.ofW (cc := cc) (maxL := maxL) (ret := ret) hy rfl ?_
  intro p e s m args below meth c s₁ B hml hv
  obtain ⟨rfl, hW, hK, hz⟩ := hv
  have hts := atoms_spec (ws := Cond.code y cc maxL ret :: wA) B.pre
  have hown : s.vm.findClass own = some m.cls := by rw [← ho]; exact findClass_of_methodNamed B.named
  have h := body (p, l, e, rmD d mc ms, s, m, av.toArray, below, meth, c, A, MQ below (QG E P A) av.toArray s mc ms A, E) ⟨B.exec, B.bytes, hml, hown, fun w hw => hts w (List.mem_cons_of_mem _ hw), B.notSynchronized, B.returns, hK, hA0, rfl, rfl, hz⟩ rfl rfl
  have hl := lv_entry av (n := maxL) hn
  rw [lg_entry_eq]
  subst hL
  exact h s.heap [] _ hW hA va_S.rf hl
/-- locals: the value at a place -/
def lkp : List (Nat × Value) → Nat → Option Value
  | [], _ => none
  | q :: r, i => cond (Nat.beq q.1 i) (some q.2) (lkp r i)
theorem lkp_ok {ls : Array Slot} {n : Nat} {L : List (Nat × Value)} {i : Nat} {v : Value} (h : lv_has ls n L) (hk : lkp L i = some v) : ls[i]? = some (.val v) := by
  obtain ⟨-, -, h⟩ := h
  induction L with
  | nil => cases hk
  | cons q r ih =>
    simp only [lkp] at hk
    cases hb : Nat.beq q.1 i with
    | true =>
      rw [hb] at hk
      cases hk
      have := h q List.mem_cons_self
      rwa [Nat.eq_of_beq_eq_true hb] at this
    | false =>
      rw [hb] at hk
      exact ih hk (fun q hq => h q (List.mem_cons_of_mem _ hq))
def v2 : Value → Bool
  | .long _ => true
  | .double _ => true
  | _ => false
/-- what a store of one slot, or two, at i leaves of the listed locals -/
def er1 (i : Nat) : List (Nat × Value) → List (Nat × Value)
  | [] => []
  | q :: r => cond (Nat.beq q.1 i || (Nat.beq (q.1 + 1) i && v2 q.2)) (er1 i r) (q :: er1 i r)
def er2 (i : Nat) : List (Nat × Value) → List (Nat × Value)
  | [] => []
  | q :: r => cond (Nat.beq q.1 i || Nat.beq q.1 (i + 1) || (Nat.beq (q.1 + 1) i && v2 q.2)) (er2 i r) (q :: er2 i r)
theorem v2_cat (v : Value) : (v.category == 2) = v2 v := by cases v <;> rfl
theorem beq_n (a b : Nat) : (a == b) = Nat.beq a b := by
  cases h : Nat.beq a b with
  | true => rw [Nat.eq_of_beq_eq_true h]; simp
  | false => simpa using Nat.ne_of_beq_eq_false h
theorem er1_eq (i : Nat) (L : List (Nat × Value)) : L.filter (fun q => !(q.1 == i) && !(q.1 + 1 == i && q.2.category == 2)) = er1 i L := by
  induction L with
  | nil => rfl
  | cons q r ih =>
    rw [List.filter_cons, ih]
    simp only [er1, v2_cat]
    simp only [beq_n]
    cases Nat.beq q.1 i <;> cases Nat.beq (q.1 + 1) i <;> cases v2 q.2 <;> rfl
theorem er2_eq (i : Nat) (L : List (Nat × Value)) : L.filter (fun q => !(q.1 == i) && (!(q.1 == i + 1) && !(q.1 + 1 == i && q.2.category == 2))) = er2 i L := by
  induction L with
  | nil => rfl
  | cons q r ih =>
    rw [List.filter_cons, ih]
    simp only [er2, v2_cat]
    simp only [beq_n]
    cases Nat.beq q.1 i <;> cases Nat.beq q.1 (i + 1) <;> cases Nat.beq (q.1 + 1) i <;> cases v2 q.2 <;> rfl
/-- each listed local of L' stands in L -/
def SubL (L : List (Nat × Value)) : List (Nat × Value) → Prop
  | [] => True
  | q :: r => lkp L q.1 = some q.2 ∧ SubL L r
theorem subL_ok {ls : Array Slot} {n : Nat} {L : List (Nat × Value)} (h : lv_has ls n L) : ∀ L' : List (Nat × Value), SubL L L' → lv_has ls n L'
  | [], _ => ⟨h.1, h.2.1, fun q hq => by cases hq⟩
  | q :: r, ⟨h1, h2⟩ => ⟨h.1, h.2.1, fun x hx => by
      rcases List.mem_cons.mp hx with rfl | hx
      · exact lkp_ok h h1
      · exact (subL_ok h r h2).2.2 x hx⟩
end
section
/-! ===== rows of the judgement: locals, stack, numbers, branches ===== -/
theorem I_add (a b : Int) : I a + I b = I (a + b) := (Int32.ofInt_add a b).symm
theorem I_sub (a b : Int) : I a - I b = I (a - b) := (Int32.ofInt_sub a b).symm
theorem I_mul (a b : Int) : I a * I b = I (a * b) := (Int32.ofInt_mul a b).symm
theorem I_neg (a : Int) : - I a = I (-a) := (Int32.ofInt_neg a).symm
theorem I_of (x : Int32) : I x.toInt = x := Int32.ofInt_toInt x
theorem I_toInt {a : Int} (h : -2147483648 ≤ a ∧ a < 2147483648) : (I a).toInt = a := Int32.toInt_ofInt_of_le (by omega) (by omega)
theorem I_lt {a b : Int} (h : -2147483648 ≤ a ∧ a < 2147483648 ∧ -2147483648 ≤ b ∧ b < 2147483648) : I a < I b ↔ a < b := by rw [Int32.lt_iff_toInt_lt, I_toInt (by omega), I_toInt (by omega)]
theorem I_le {a b : Int} (h : -2147483648 ≤ a ∧ a < 2147483648 ∧ -2147483648 ≤ b ∧ b < 2147483648) : I a ≤ I b ↔ a ≤ b := by rw [Int32.le_iff_toInt_le, I_toInt (by omega), I_toInt (by omega)]
theorem I_eq {a b : Int} (h : -2147483648 ≤ a ∧ a < 2147483648 ∧ -2147483648 ≤ b ∧ b < 2147483648) : I a = I b ↔ a = b := by
  constructor
  · intro e
    rw [← I_toInt (a := a) (by omega), ← I_toInt (a := b) (by omega), e]
  · intro e
    rw [e]
theorem I_0 : (0 : Int32) = I 0 := rfl
theorem I_clamp {a : Int} (h : 0 ≤ a ∧ a < 2147483648) : (I a).toNatClampNeg = a.toNat := by
  show (I a).toInt.toNat = a.toNat
  rw [I_toInt (by omega)]
theorem I_nI (n : Nat) : nI n = I n := Int32.ofInt_eq_ofNat.symm
theorem bI_0 (b : Bool) : I (bI b) = 0 ↔ b = false := by cases b <;> decide
theorem bI_rg (b : Bool) : 0 ≤ bI b ∧ bI b ≤ 1 := by cases b <;> decide
theorem bI_t : bI true = 1 := rfl
theorem bI_f : bI false = 0 := rfl
section ROWS
variable {Γ : Ct} {cc : ByteArray} {own : String} {nL : Nat} {ret : Option FieldType} {P : Pq} {d mc ms : Nat} {V : Ob → Prop} {ad : Ob → Nat} {ν : Mv} {cs sl pc : Nat} {L : List (Nat × Value)} {st : List Value}
theorem x_sub {L' : List (Nat × Value)} (h : SubL L L') (k : XX Γ nL V ad ν cs sl pc L' st) : XX Γ nL V ad ν cs sl pc L st := by
  obtain ⟨p, l, e, R, s, m, args, below, meth, c, A, Q, E⟩ := Γ
  intro H locs ls hW hV hS hl
  exact k H locs ls hW hV hS (subL_ok hl L' h)
theorem x_st {st' : List Value} (h : st = st') (k : XX Γ nL V ad ν cs sl pc L st') : XX Γ nL V ad ν cs sl pc L st := h ▸ k
theorem x_wid {cs' sl' : Nat} (h1 : cs ≤ cs') (h2 : sl ≤ sl') (k : XX Γ nL V ad ν cs' sl' pc L st) : XX Γ nL V ad ν cs sl pc L st := by
  obtain ⟨p, l, e, R, s, m, args, below, meth, c, A, Q, E⟩ := Γ
  intro H locs ls hW hV hS hl
  exact W.widen h1 h2 (k H locs ls hW hV hS hl)
theorem x_iconst {n : Int} (F : Fx Γ cc own nL ret P d mc ms) (dd : decode cc pc = .ok (.iconst n, 1)) (k : XX Γ nL V ad ν cs sl (pc + 1) L (.int (I n) :: st)) : XX Γ nL V ad ν cs sl pc L st := by
  obtain ⟨p, l, e, R, s, m, args, below, meth, c, A, Q, E⟩ := Γ
  obtain ⟨hx, hb, hml, hown, hts, hlk, hr, hK, hA0, hR, hQ, hzz⟩ := F
  intro H locs ls hW hV hS hl
  exact lv_iconst hx hb dd rfl (k H locs ls hW hV hS hl)
theorem x_bipush {n : Int} (F : Fx Γ cc own nL ret P d mc ms) (dd : decode cc pc = .ok (.bipush n, 2)) (hn : (Int8.ofInt n).toInt32 = I n) (k : XX Γ nL V ad ν cs sl (pc + 2) L (.int (I n) :: st)) : XX Γ nL V ad ν cs sl pc L st := by
  obtain ⟨p, l, e, R, s, m, args, below, meth, c, A, Q, E⟩ := Γ
  obtain ⟨hx, hb, hml, hown, hts, hlk, hr, hK, hA0, hR, hQ, hzz⟩ := F
  intro H locs ls hW hV hS hl
  exact lv_bipush hx hb dd hn (k H locs ls hW hV hS hl)
theorem x_sipush {n : Int} (F : Fx Γ cc own nL ret P d mc ms) (dd : decode cc pc = .ok (.sipush n, 3)) (hn : (Int16.ofInt n).toInt32 = I n) (k : XX Γ nL V ad ν cs sl (pc + 3) L (.int (I n) :: st)) : XX Γ nL V ad ν cs sl pc L st := by
  obtain ⟨p, l, e, R, s, m, args, below, meth, c, A, Q, E⟩ := Γ
  obtain ⟨hx, hb, hml, hown, hts, hlk, hr, hK, hA0, hR, hQ, hzz⟩ := F
  intro H locs ls hW hV hS hl
  exact lv_sipush hx hb dd hn (k H locs ls hW hV hS hl)
theorem x_lconst {n : Fin 2} {z : Int} (F : Fx Γ cc own nL ret P d mc ms) (dd : decode cc pc = .ok (.lconst n, 1)) (hn : Int64.ofNat (n : Nat) = J z) (k : XX Γ nL V ad ν cs sl (pc + 1) L (.long (J z) :: st)) : XX Γ nL V ad ν cs sl pc L st := by
  obtain ⟨p, l, e, R, s, m, args, below, meth, c, A, Q, E⟩ := Γ
  obtain ⟨hx, hb, hml, hown, hts, hlk, hr, hK, hA0, hR, hQ, hzz⟩ := F
  intro H locs ls hW hV hS hl
  exact lv_lconst hx hb dd hn (k H locs ls hW hV hS hl)
theorem x_ldc {i : Nat} {v : Int32} {z : Int} (F : Fx Γ cc own nL ret P d mc ms) (dd : decode cc pc = .ok (.ldc i, 2)) (hw : Cond.constant own i v ∈ wA) (hv : v = I z) (k : XX Γ nL V ad ν cs sl (pc + 2) L (.int (I z) :: st)) : XX Γ nL V ad ν cs sl pc L st := by
  obtain ⟨p, l, e, R, s, m, args, below, meth, c, A, Q, E⟩ := Γ
  obtain ⟨hx, hb, hml, hown, hts, hlk, hr, hK, hA0, hR, hQ, hzz⟩ := F
  intro H locs ls hW hV hS hl
  subst hv
  exact lv_ldc hx hb hown (hts _ hw) dd (k H locs ls hW hV hS hl)
theorem x_ldcw {i : Nat} {v : Int32} {z : Int} (F : Fx Γ cc own nL ret P d mc ms) (dd : decode cc pc = .ok (.ldc_w i, 3)) (hw : Cond.constant own i v ∈ wA) (hv : v = I z) (k : XX Γ nL V ad ν cs sl (pc + 3) L (.int (I z) :: st)) : XX Γ nL V ad ν cs sl pc L st := by
  obtain ⟨p, l, e, R, s, m, args, below, meth, c, A, Q, E⟩ := Γ
  obtain ⟨hx, hb, hml, hown, hts, hlk, hr, hK, hA0, hR, hQ, hzz⟩ := F
  intro H locs ls hW hV hS hl
  subst hv
  exact lv_ldcw hx hb hown (hts _ hw) dd (k H locs ls hW hV hS hl)
theorem x_ldc2 {i : Nat} {v : Int64} {z : Int} (F : Fx Γ cc own nL ret P d mc ms) (dd : decode cc pc = .ok (.ldc2_w i, 3)) (hw : Cond.constantLong own i v ∈ wA) (hv : v = J z) (k : XX Γ nL V ad ν cs sl (pc + 3) L (.long (J z) :: st)) : XX Γ nL V ad ν cs sl pc L st := by
  obtain ⟨p, l, e, R, s, m, args, below, meth, c, A, Q, E⟩ := Γ
  obtain ⟨hx, hb, hml, hown, hts, hlk, hr, hK, hA0, hR, hQ, hzz⟩ := F
  intro H locs ls hW hV hS hl
  subst hv
  exact lv_ldc2 hx hb hown (hts _ hw) dd (k H locs ls hW hV hS hl)
theorem x_iload_n {k0 : Fin 4} {i : Nat} {x : Int32} (F : Fx Γ cc own nL ret P d mc ms) (dd : decode cc pc = .ok (.iload_n k0, 1)) (hi : (k0 : Nat) = i) (hk : lkp L i = some (.int x)) (k : XX Γ nL V ad ν cs sl (pc + 1) L (.int x :: st)) : XX Γ nL V ad ν cs sl pc L st := by
  obtain ⟨p, l, e, R, s, m, args, below, meth, c, A, Q, E⟩ := Γ
  obtain ⟨hx, hb, hml, hown, hts, hlk, hr, hK, hA0, hR, hQ, hzz⟩ := F
  intro H locs ls hW hV hS hl
  exact lv_iload_n hx hb dd hi (lkp_ok hl hk) (k H locs ls hW hV hS hl)
theorem x_iload {i : Nat} {x : Int32} (F : Fx Γ cc own nL ret P d mc ms) (dd : decode cc pc = .ok (.iload i, 2)) (hk : lkp L i = some (.int x)) (k : XX Γ nL V ad ν cs sl (pc + 2) L (.int x :: st)) : XX Γ nL V ad ν cs sl pc L st := by
  obtain ⟨p, l, e, R, s, m, args, below, meth, c, A, Q, E⟩ := Γ
  obtain ⟨hx, hb, hml, hown, hts, hlk, hr, hK, hA0, hR, hQ, hzz⟩ := F
  intro H locs ls hW hV hS hl
  exact lv_iload hx hb dd (lkp_ok hl hk) (k H locs ls hW hV hS hl)
theorem x_aload_n {k0 : Fin 4} {i : Nat} {x : Nat} (F : Fx Γ cc own nL ret P d mc ms) (dd : decode cc pc = .ok (.aload_n k0, 1)) (hi : (k0 : Nat) = i) (hk : lkp L i = some (.ref x)) (k : XX Γ nL V ad ν cs sl (pc + 1) L (.ref x :: st)) : XX Γ nL V ad ν cs sl pc L st := by
  obtain ⟨p, l, e, R, s, m, args, below, meth, c, A, Q, E⟩ := Γ
  obtain ⟨hx, hb, hml, hown, hts, hlk, hr, hK, hA0, hR, hQ, hzz⟩ := F
  intro H locs ls hW hV hS hl
  exact lv_aload_n hx hb dd hi (lkp_ok hl hk) (k H locs ls hW hV hS hl)
theorem x_aload {i : Nat} {x : Nat} (F : Fx Γ cc own nL ret P d mc ms) (dd : decode cc pc = .ok (.aload i, 2)) (hk : lkp L i = some (.ref x)) (k : XX Γ nL V ad ν cs sl (pc + 2) L (.ref x :: st)) : XX Γ nL V ad ν cs sl pc L st := by
  obtain ⟨p, l, e, R, s, m, args, below, meth, c, A, Q, E⟩ := Γ
  obtain ⟨hx, hb, hml, hown, hts, hlk, hr, hK, hA0, hR, hQ, hzz⟩ := F
  intro H locs ls hW hV hS hl
  exact lv_aload hx hb dd (lkp_ok hl hk) (k H locs ls hW hV hS hl)
theorem x_lload_n {k0 : Fin 4} {i : Nat} {x : Int64} (F : Fx Γ cc own nL ret P d mc ms) (dd : decode cc pc = .ok (.lload_n k0, 1)) (hi : (k0 : Nat) = i) (hk : lkp L i = some (.long x)) (k : XX Γ nL V ad ν cs sl (pc + 1) L (.long x :: st)) : XX Γ nL V ad ν cs sl pc L st := by
  obtain ⟨p, l, e, R, s, m, args, below, meth, c, A, Q, E⟩ := Γ
  obtain ⟨hx, hb, hml, hown, hts, hlk, hr, hK, hA0, hR, hQ, hzz⟩ := F
  intro H locs ls hW hV hS hl
  exact lv_lload_n hx hb dd hi (lkp_ok hl hk) (k H locs ls hW hV hS hl)
theorem x_lload {i : Nat} {x : Int64} (F : Fx Γ cc own nL ret P d mc ms) (dd : decode cc pc = .ok (.lload i, 2)) (hk : lkp L i = some (.long x)) (k : XX Γ nL V ad ν cs sl (pc + 2) L (.long x :: st)) : XX Γ nL V ad ν cs sl pc L st := by
  obtain ⟨p, l, e, R, s, m, args, below, meth, c, A, Q, E⟩ := Γ
  obtain ⟨hx, hb, hml, hown, hts, hlk, hr, hK, hA0, hR, hQ, hzz⟩ := F
  intro H locs ls hW hV hS hl
  exact lv_lload hx hb dd (lkp_ok hl hk) (k H locs ls hW hV hS hl)
theorem x_istore_n {k0 : Fin 4} {i : Nat} {x : Int32} (F : Fx Γ cc own nL ret P d mc ms) (dd : decode cc pc = .ok (.istore_n k0, 1)) (hi : (k0 : Nat) = i) (hn : Nat.ble (i + 1) nL = true) (k : XX Γ nL V ad ν cs sl (pc + 1) ((i, Value.int x) :: er1 i L) st) : XX Γ nL V ad ν cs sl pc L (.int x :: st) := by
  obtain ⟨p, l, e, R, s, m, args, below, meth, c, A, Q, E⟩ := Γ
  obtain ⟨hx, hb, hml, hown, hts, hlk, hr, hK, hA0, hR, hQ, hzz⟩ := F
  intro H locs ls hW hV hS hl
  exact lv_istore_n hx hb dd hi hl (Nat.le_of_ble_eq_true hn) (by rw [er1_eq]) (fun ls hl => k H locs ls hW hV hS hl)
theorem x_istore {i : Nat} {x : Int32} (F : Fx Γ cc own nL ret P d mc ms) (dd : decode cc pc = .ok (.istore i, 2)) (hn : Nat.ble (i + 1) nL = true) (k : XX Γ nL V ad ν cs sl (pc + 2) ((i, Value.int x) :: er1 i L) st) : XX Γ nL V ad ν cs sl pc L (.int x :: st) := by
  obtain ⟨p, l, e, R, s, m, args, below, meth, c, A, Q, E⟩ := Γ
  obtain ⟨hx, hb, hml, hown, hts, hlk, hr, hK, hA0, hR, hQ, hzz⟩ := F
  intro H locs ls hW hV hS hl
  exact lv_istore hx hb dd hl (Nat.le_of_ble_eq_true hn) (by rw [er1_eq]) (fun ls hl => k H locs ls hW hV hS hl)
theorem x_astore_n {k0 : Fin 4} {i : Nat} {x : Nat} (F : Fx Γ cc own nL ret P d mc ms) (dd : decode cc pc = .ok (.astore_n k0, 1)) (hi : (k0 : Nat) = i) (hn : Nat.ble (i + 1) nL = true) (k : XX Γ nL V ad ν cs sl (pc + 1) ((i, Value.ref x) :: er1 i L) st) : XX Γ nL V ad ν cs sl pc L (.ref x :: st) := by
  obtain ⟨p, l, e, R, s, m, args, below, meth, c, A, Q, E⟩ := Γ
  obtain ⟨hx, hb, hml, hown, hts, hlk, hr, hK, hA0, hR, hQ, hzz⟩ := F
  intro H locs ls hW hV hS hl
  exact lv_astore_n hx hb dd hi hl (Nat.le_of_ble_eq_true hn) (by rw [er1_eq]) (fun ls hl => k H locs ls hW hV hS hl)
theorem x_astore {i : Nat} {x : Nat} (F : Fx Γ cc own nL ret P d mc ms) (dd : decode cc pc = .ok (.astore i, 2)) (hn : Nat.ble (i + 1) nL = true) (k : XX Γ nL V ad ν cs sl (pc + 2) ((i, Value.ref x) :: er1 i L) st) : XX Γ nL V ad ν cs sl pc L (.ref x :: st) := by
  obtain ⟨p, l, e, R, s, m, args, below, meth, c, A, Q, E⟩ := Γ
  obtain ⟨hx, hb, hml, hown, hts, hlk, hr, hK, hA0, hR, hQ, hzz⟩ := F
  intro H locs ls hW hV hS hl
  exact lv_astore hx hb dd hl (Nat.le_of_ble_eq_true hn) (by rw [er1_eq]) (fun ls hl => k H locs ls hW hV hS hl)
theorem x_lstore {i : Nat} {x : Int64} (F : Fx Γ cc own nL ret P d mc ms) (dd : decode cc pc = .ok (.lstore i, 2)) (hn : Nat.ble (i + 2) nL = true) (k : XX Γ nL V ad ν cs sl (pc + 2) ((i, Value.long x) :: er2 i L) st) : XX Γ nL V ad ν cs sl pc L (.long x :: st) := by
  obtain ⟨p, l, e, R, s, m, args, below, meth, c, A, Q, E⟩ := Γ
  obtain ⟨hx, hb, hml, hown, hts, hlk, hr, hK, hA0, hR, hQ, hzz⟩ := F
  intro H locs ls hW hV hS hl
  exact lv_lstore hx hb dd hl (Nat.le_of_ble_eq_true hn) (by rw [er2_eq]) (fun ls hl => k H locs ls hW hV hS hl)
theorem x_iinc {i : Nat} {n a : Int} (F : Fx Γ cc own nL ret P d mc ms) (dd : decode cc pc = .ok (.iinc i n, 3)) (hk : lkp L i = some (.int (I a))) (hn : Nat.ble (i + 1) nL = true) (k : XX Γ nL V ad ν cs sl (pc + 3) ((i, Value.int (I (a + n))) :: er1 i L) st) : XX Γ nL V ad ν cs sl pc L st := by
  obtain ⟨p, l, e, R, s, m, args, below, meth, c, A, Q, E⟩ := Γ
  obtain ⟨hx, hb, hml, hown, hts, hlk, hr, hK, hA0, hR, hQ, hzz⟩ := F
  intro H locs ls hW hV hS hl
  have hl2 : lv_has ls nL [(i, .int (I a))] := subL_ok hl _ ⟨hk, trivial⟩
  have hj : lv_has ls nL ((i, Value.int (I a)) :: L) := ⟨hl.1, hl.2.1, fun q hq => by
    rcases List.mem_cons.mp hq with rfl | hq
    · exact hl2.2.2 _ List.mem_cons_self
    · exact hl.2.2 q hq⟩
  refine lv_iinc (k := 0) (v := I (a + n)) hx hb dd hj rfl (I_add a n) (Nat.le_of_ble_eq_true hn) rfl (fun ls hl => ?_)
  refine k H locs ls hW hV hS ?_
  rw [← er1_eq]
  refine ⟨hl.1, hl.2.1, fun q hq => hl.2.2 q ?_⟩
  rcases List.mem_cons.mp hq with rfl | hq
  · exact List.mem_cons_self
  · refine List.mem_cons_of_mem _ ?_
    rw [List.mem_filter] at hq ⊢
    exact ⟨List.mem_cons_of_mem _ hq.1, hq.2⟩
theorem x_iadd {a b : Int} (F : Fx Γ cc own nL ret P d mc ms) (dd : decode cc pc = .ok (.iadd, 1)) (k : XX Γ nL V ad ν cs sl (pc + 1) L (.int (I (a + b)) :: st)) : XX Γ nL V ad ν cs sl pc L (.int (I b) :: .int (I a) :: st) := by
  obtain ⟨p, l, e, R, s, m, args, below, meth, c, A, Q, E⟩ := Γ
  obtain ⟨hx, hb, hml, hown, hts, hlk, hr, hK, hA0, hR, hQ, hzz⟩ := F
  intro H locs ls hW hV hS hl
  refine lv_iadd hx hb dd  ?_
  rw [I_add]
  exact k H locs ls hW hV hS hl
theorem x_isub {a b : Int} (F : Fx Γ cc own nL ret P d mc ms) (dd : decode cc pc = .ok (.isub, 1)) (k : XX Γ nL V ad ν cs sl (pc + 1) L (.int (I (a - b)) :: st)) : XX Γ nL V ad ν cs sl pc L (.int (I b) :: .int (I a) :: st) := by
  obtain ⟨p, l, e, R, s, m, args, below, meth, c, A, Q, E⟩ := Γ
  obtain ⟨hx, hb, hml, hown, hts, hlk, hr, hK, hA0, hR, hQ, hzz⟩ := F
  intro H locs ls hW hV hS hl
  refine lv_isub hx hb dd  ?_
  rw [I_sub]
  exact k H locs ls hW hV hS hl
theorem x_imul {a b : Int} (F : Fx Γ cc own nL ret P d mc ms) (dd : decode cc pc = .ok (.imul, 1)) (k : XX Γ nL V ad ν cs sl (pc + 1) L (.int (I (a * b)) :: st)) : XX Γ nL V ad ν cs sl pc L (.int (I b) :: .int (I a) :: st) := by
  obtain ⟨p, l, e, R, s, m, args, below, meth, c, A, Q, E⟩ := Γ
  obtain ⟨hx, hb, hml, hown, hts, hlk, hr, hK, hA0, hR, hQ, hzz⟩ := F
  intro H locs ls hW hV hS hl
  refine lv_imul hx hb dd  ?_
  rw [I_mul]
  exact k H locs ls hW hV hS hl
theorem x_ineg {a : Int} (F : Fx Γ cc own nL ret P d mc ms) (dd : decode cc pc = .ok (.ineg, 1)) (k : XX Γ nL V ad ν cs sl (pc + 1) L (.int (I (-a)) :: st)) : XX Γ nL V ad ν cs sl pc L (.int (I a) :: st) := by
  obtain ⟨p, l, e, R, s, m, args, below, meth, c, A, Q, E⟩ := Γ
  obtain ⟨hx, hb, hml, hown, hts, hlk, hr, hK, hA0, hR, hQ, hzz⟩ := F
  intro H locs ls hW hV hS hl
  refine lv_ineg hx hb dd  ?_
  rw [I_neg]
  exact k H locs ls hW hV hS hl
theorem r_ixor {x y z : Int32} (F : Fx Γ cc own nL ret P d mc ms) (dd : decode cc pc = .ok (.ixor, 1)) (hz : x ^^^ y = z) (k : XX Γ nL V ad ν cs sl (pc + 1) L (.int z :: st)) : XX Γ nL V ad ν cs sl pc L (.int y :: .int x :: st) := by
  obtain ⟨p, l, e, R, s, m, args, below, meth, c, A, Q, E⟩ := Γ
  obtain ⟨hx, hb, hml, hown, hts, hlk, hr, hK, hA0, hR, hQ, hzz⟩ := F
  intro H locs ls hW hV hS hl
  refine lv_ixor hx hb dd  ?_
  rw [hz]
  exact k H locs ls hW hV hS hl
theorem r_iand {x y z : Int32} (F : Fx Γ cc own nL ret P d mc ms) (dd : decode cc pc = .ok (.iand, 1)) (hz : x &&& y = z) (k : XX Γ nL V ad ν cs sl (pc + 1) L (.int z :: st)) : XX Γ nL V ad ν cs sl pc L (.int y :: .int x :: st) := by
  obtain ⟨p, l, e, R, s, m, args, below, meth, c, A, Q, E⟩ := Γ
  obtain ⟨hx, hb, hml, hown, hts, hlk, hr, hK, hA0, hR, hQ, hzz⟩ := F
  intro H locs ls hW hV hS hl
  refine lv_iand hx hb dd  ?_
  rw [hz]
  exact k H locs ls hW hV hS hl
theorem r_ior {x y z : Int32} (F : Fx Γ cc own nL ret P d mc ms) (dd : decode cc pc = .ok (.ior, 1)) (hz : x ||| y = z) (k : XX Γ nL V ad ν cs sl (pc + 1) L (.int z :: st)) : XX Γ nL V ad ν cs sl pc L (.int y :: .int x :: st) := by
  obtain ⟨p, l, e, R, s, m, args, below, meth, c, A, Q, E⟩ := Γ
  obtain ⟨hx, hb, hml, hown, hts, hlk, hr, hK, hA0, hR, hQ, hzz⟩ := F
  intro H locs ls hW hV hS hl
  refine lv_ior hx hb dd  ?_
  rw [hz]
  exact k H locs ls hW hV hS hl
theorem r_ishl {x y z : Int32} (F : Fx Γ cc own nL ret P d mc ms) (dd : decode cc pc = .ok (.ishl, 1)) (hz : x <<< (y &&& 31) = z) (k : XX Γ nL V ad ν cs sl (pc + 1) L (.int z :: st)) : XX Γ nL V ad ν cs sl pc L (.int y :: .int x :: st) := by
  obtain ⟨p, l, e, R, s, m, args, below, meth, c, A, Q, E⟩ := Γ
  obtain ⟨hx, hb, hml, hown, hts, hlk, hr, hK, hA0, hR, hQ, hzz⟩ := F
  intro H locs ls hW hV hS hl
  refine lv_ishl hx hb dd  ?_
  rw [hz]
  exact k H locs ls hW hV hS hl
theorem r_ishr {x y z : Int32} (F : Fx Γ cc own nL ret P d mc ms) (dd : decode cc pc = .ok (.ishr, 1)) (hz : x >>> (y &&& 31) = z) (k : XX Γ nL V ad ν cs sl (pc + 1) L (.int z :: st)) : XX Γ nL V ad ν cs sl pc L (.int y :: .int x :: st) := by
  obtain ⟨p, l, e, R, s, m, args, below, meth, c, A, Q, E⟩ := Γ
  obtain ⟨hx, hb, hml, hown, hts, hlk, hr, hK, hA0, hR, hQ, hzz⟩ := F
  intro H locs ls hW hV hS hl
  refine lv_ishr hx hb dd  ?_
  rw [hz]
  exact k H locs ls hW hV hS hl
theorem r_iushr {x y z : Int32} (F : Fx Γ cc own nL ret P d mc ms) (dd : decode cc pc = .ok (.iushr, 1)) (hv : (x.toUInt32 >>> (y.toUInt32 &&& Int32.toUInt32 31)).toInt32 = z) (k : XX Γ nL V ad ν cs sl (pc + 1) L (.int z :: st)) : XX Γ nL V ad ν cs sl pc L (.int y :: .int x :: st) := by
  obtain ⟨p, l, e, R, s, m, args, below, meth, c, A, Q, E⟩ := Γ
  obtain ⟨hx, hb, hml, hown, hts, hlk, hr, hK, hA0, hR, hQ, hzz⟩ := F
  intro H locs ls hW hV hS hl
  exact lv_iushr hx hb dd hv (k H locs ls hW hV hS hl)
theorem r_idiv {x y z : Int32} (F : Fx Γ cc own nL ret P d mc ms) (dd : decode cc pc = .ok (.idiv, 1)) (hne : ¬ y = 0) (hz : x / y = z) (k : XX Γ nL V ad ν cs sl (pc + 1) L (.int z :: st)) : XX Γ nL V ad ν cs sl pc L (.int y :: .int x :: st) := by
  obtain ⟨p, l, e, R, s, m, args, below, meth, c, A, Q, E⟩ := Γ
  obtain ⟨hx, hb, hml, hown, hts, hlk, hr, hK, hA0, hR, hQ, hzz⟩ := F
  intro H locs ls hW hV hS hl
  subst hz
  exact lv_idiv hx hb dd hne (k H locs ls hW hV hS hl)
theorem r_irem {x y z : Int32} (F : Fx Γ cc own nL ret P d mc ms) (dd : decode cc pc = .ok (.irem, 1)) (hne : ¬ y = 0) (hz : x - x / y * y = z) (k : XX Γ nL V ad ν cs sl (pc + 1) L (.int z :: st)) : XX Γ nL V ad ν cs sl pc L (.int y :: .int x :: st) := by
  obtain ⟨p, l, e, R, s, m, args, below, meth, c, A, Q, E⟩ := Γ
  obtain ⟨hx, hb, hml, hown, hts, hlk, hr, hK, hA0, hR, hQ, hzz⟩ := F
  intro H locs ls hW hV hS hl
  subst hz
  exact lv_irem hx hb dd hne (k H locs ls hW hV hS hl)
theorem r_i2l {x : Int32} {z : Int64} (F : Fx Γ cc own nL ret P d mc ms) (dd : decode cc pc = .ok (.i2l, 1)) (hz : x.toInt64 = z) (k : XX Γ nL V ad ν cs sl (pc + 1) L (.long z :: st)) : XX Γ nL V ad ν cs sl pc L (.int x :: st) := by
  obtain ⟨p, l, e, R, s, m, args, below, meth, c, A, Q, E⟩ := Γ
  obtain ⟨hx, hb, hml, hown, hts, hlk, hr, hK, hA0, hR, hQ, hzz⟩ := F
  intro H locs ls hW hV hS hl
  exact lv_i2l hx hb dd hz (k H locs ls hW hV hS hl)
theorem r_l2i {x : Int64} {z : Int32} (F : Fx Γ cc own nL ret P d mc ms) (dd : decode cc pc = .ok (.l2i, 1)) (hz : x.toInt32 = z) (k : XX Γ nL V ad ν cs sl (pc + 1) L (.int z :: st)) : XX Γ nL V ad ν cs sl pc L (.long x :: st) := by
  obtain ⟨p, l, e, R, s, m, args, below, meth, c, A, Q, E⟩ := Γ
  obtain ⟨hx, hb, hml, hown, hts, hlk, hr, hK, hA0, hR, hQ, hzz⟩ := F
  intro H locs ls hW hV hS hl
  exact lv_l2i hx hb dd hz (k H locs ls hW hV hS hl)
theorem r_i2b {x : Int32} {z : Int32} (F : Fx Γ cc own nL ret P d mc ms) (dd : decode cc pc = .ok (.i2b, 1)) (hz : x.toInt8.toInt32 = z) (k : XX Γ nL V ad ν cs sl (pc + 1) L (.int z :: st)) : XX Γ nL V ad ν cs sl pc L (.int x :: st) := by
  obtain ⟨p, l, e, R, s, m, args, below, meth, c, A, Q, E⟩ := Γ
  obtain ⟨hx, hb, hml, hown, hts, hlk, hr, hK, hA0, hR, hQ, hzz⟩ := F
  intro H locs ls hW hV hS hl
  exact lv_i2b hx hb dd hz (k H locs ls hW hV hS hl)
theorem x_i2l {a : Int} (F : Fx Γ cc own nL ret P d mc ms) (dd : decode cc pc = .ok (.i2l, 1)) (ha : -2147483648 ≤ a ∧ a < 2147483648) (k : XX Γ nL V ad ν cs sl (pc + 1) L (.long (J a) :: st)) : XX Γ nL V ad ν cs sl pc L (.int (I a) :: st) := by
  obtain ⟨p, l, e, R, s, m, args, below, meth, c, A, Q, E⟩ := Γ
  obtain ⟨hx, hb, hml, hown, hts, hlk, hr, hK, hA0, hR, hQ, hzz⟩ := F
  intro H locs ls hW hV hS hl
  refine lv_i2l (v := J a) hx hb dd ?_ (k H locs ls hW hV hS hl)
  rw [← Int64.ofInt_int32ToInt, I_toInt ha]
  rfl
theorem r_ladd {x y z : Int64} (F : Fx Γ cc own nL ret P d mc ms) (dd : decode cc pc = .ok (.ladd, 1)) (hz : x + y = z) (k : XX Γ nL V ad ν cs sl (pc + 1) L (.long z :: st)) : XX Γ nL V ad ν cs sl pc L (.long y :: .long x :: st) := by
  obtain ⟨p, l, e, R, s, m, args, below, meth, c, A, Q, E⟩ := Γ
  obtain ⟨hx, hb, hml, hown, hts, hlk, hr, hK, hA0, hR, hQ, hzz⟩ := F
  intro H locs ls hW hV hS hl
  refine lv_ladd hx hb dd  ?_
  rw [hz]
  exact k H locs ls hW hV hS hl
theorem r_land {x y z : Int64} (F : Fx Γ cc own nL ret P d mc ms) (dd : decode cc pc = .ok (.land, 1)) (hz : x &&& y = z) (k : XX Γ nL V ad ν cs sl (pc + 1) L (.long z :: st)) : XX Γ nL V ad ν cs sl pc L (.long y :: .long x :: st) := by
  obtain ⟨p, l, e, R, s, m, args, below, meth, c, A, Q, E⟩ := Γ
  obtain ⟨hx, hb, hml, hown, hts, hlk, hr, hK, hA0, hR, hQ, hzz⟩ := F
  intro H locs ls hW hV hS hl
  refine lv_land hx hb dd  ?_
  rw [hz]
  exact k H locs ls hW hV hS hl
theorem r_lor {x y z : Int64} (F : Fx Γ cc own nL ret P d mc ms) (dd : decode cc pc = .ok (.lor, 1)) (hz : x ||| y = z) (k : XX Γ nL V ad ν cs sl (pc + 1) L (.long z :: st)) : XX Γ nL V ad ν cs sl pc L (.long y :: .long x :: st) := by
  obtain ⟨p, l, e, R, s, m, args, below, meth, c, A, Q, E⟩ := Γ
  obtain ⟨hx, hb, hml, hown, hts, hlk, hr, hK, hA0, hR, hQ, hzz⟩ := F
  intro H locs ls hW hV hS hl
  refine lv_lor hx hb dd  ?_
  rw [hz]
  exact k H locs ls hW hV hS hl
theorem r_ldiv {x y z : Int64} (F : Fx Γ cc own nL ret P d mc ms) (dd : decode cc pc = .ok (.ldiv, 1)) (hne : ¬ y = 0) (hz : x / y = z) (k : XX Γ nL V ad ν cs sl (pc + 1) L (.long z :: st)) : XX Γ nL V ad ν cs sl pc L (.long y :: .long x :: st) := by
  obtain ⟨p, l, e, R, s, m, args, below, meth, c, A, Q, E⟩ := Γ
  obtain ⟨hx, hb, hml, hown, hts, hlk, hr, hK, hA0, hR, hQ, hzz⟩ := F
  intro H locs ls hW hV hS hl
  subst hz
  exact lv_ldiv hx hb dd hne (k H locs ls hW hV hS hl)
theorem r_lrem {x y z : Int64} (F : Fx Γ cc own nL ret P d mc ms) (dd : decode cc pc = .ok (.lrem, 1)) (hne : ¬ y = 0) (hz : x - x / y * y = z) (k : XX Γ nL V ad ν cs sl (pc + 1) L (.long z :: st)) : XX Γ nL V ad ν cs sl pc L (.long y :: .long x :: st) := by
  obtain ⟨p, l, e, R, s, m, args, below, meth, c, A, Q, E⟩ := Γ
  obtain ⟨hx, hb, hml, hown, hts, hlk, hr, hK, hA0, hR, hQ, hzz⟩ := F
  intro H locs ls hW hV hS hl
  subst hz
  exact lv_lrem hx hb dd hne (k H locs ls hW hV hS hl)
theorem x_dup {v : Value} (F : Fx Γ cc own nL ret P d mc ms) (dd : decode cc pc = .ok (.dup, 1)) (hv : v.category = 1) (k : XX Γ nL V ad ν cs sl (pc + 1) L (v :: v :: st)) : XX Γ nL V ad ν cs sl pc L (v :: st) := by
  obtain ⟨p, l, e, R, s, m, args, below, meth, c, A, Q, E⟩ := Γ
  obtain ⟨hx, hb, hml, hown, hts, hlk, hr, hK, hA0, hR, hQ, hzz⟩ := F
  intro H locs ls hW hV hS hl
  exact lv_dup hx hb dd hv (k H locs ls hW hV hS hl)
theorem x_pop {v : Value} (F : Fx Γ cc own nL ret P d mc ms) (dd : decode cc pc = .ok (.pop, 1)) (hv : v.category = 1) (k : XX Γ nL V ad ν cs sl (pc + 1) L st) : XX Γ nL V ad ν cs sl pc L (v :: st) := by
  obtain ⟨p, l, e, R, s, m, args, below, meth, c, A, Q, E⟩ := Γ
  obtain ⟨hx, hb, hml, hown, hts, hlk, hr, hK, hA0, hR, hQ, hzz⟩ := F
  intro H locs ls hW hV hS hl
  exact lv_pop hx hb dd hv (k H locs ls hW hV hS hl)
theorem x_icmp_eq {a b off : Int} {tgt : Nat} (F : Fx Γ cc own nL ret P d mc ms) (dd : decode cc pc = .ok (.if_icmp .eq off, 3)) (ht : (pc : Int) + off = (tgt : Int)) (hg : -2147483648 ≤ a ∧ a < 2147483648 ∧ -2147483648 ≤ b ∧ b < 2147483648) (kt : a = b → XX Γ nL V ad ν cs sl tgt L st) (kf : ¬ a = b → XX Γ nL V ad ν cs sl (pc + 3) L st) : XX Γ nL V ad ν cs sl pc L (.int (I b) :: .int (I a) :: st) := by
  obtain ⟨p, l, e, R, s, m, args, below, meth, c, A, Q, E⟩ := Γ
  obtain ⟨hx, hb, hml, hown, hts, hlk, hr, hK, hA0, hR, hQ, hzz⟩ := F
  intro H locs ls hW hV hS hl
  refine lv_icmp_eq hx hb dd ht (fun hh => kt ?_ H locs ls hW hV hS hl) (fun hh => kf ?_ H locs ls hW hV hS hl)
  · rw [I_eq (by omega)] at hh
    exact hh
  · rw [I_eq (by omega)] at hh
    exact hh
theorem x_if_eq {a off : Int} {tgt : Nat} (F : Fx Γ cc own nL ret P d mc ms) (dd : decode cc pc = .ok (.ifCond .eq off, 3)) (ht : (pc : Int) + off = (tgt : Int)) (hg : -2147483648 ≤ a ∧ a < 2147483648) (kt : a = 0 → XX Γ nL V ad ν cs sl tgt L st) (kf : ¬ a = 0 → XX Γ nL V ad ν cs sl (pc + 3) L st) : XX Γ nL V ad ν cs sl pc L (.int (I a) :: st) := by
  obtain ⟨p, l, e, R, s, m, args, below, meth, c, A, Q, E⟩ := Γ
  obtain ⟨hx, hb, hml, hown, hts, hlk, hr, hK, hA0, hR, hQ, hzz⟩ := F
  intro H locs ls hW hV hS hl
  refine lv_if_eq hx hb dd ht (fun hh => kt ?_ H locs ls hW hV hS hl) (fun hh => kf ?_ H locs ls hW hV hS hl)
  · rw [I_0, I_eq (by omega)] at hh
    exact hh
  · rw [I_0, I_eq (by omega)] at hh
    exact hh
theorem x_icmp_ne {a b off : Int} {tgt : Nat} (F : Fx Γ cc own nL ret P d mc ms) (dd : decode cc pc = .ok (.if_icmp .ne off, 3)) (ht : (pc : Int) + off = (tgt : Int)) (hg : -2147483648 ≤ a ∧ a < 2147483648 ∧ -2147483648 ≤ b ∧ b < 2147483648) (kt : ¬ a = b → XX Γ nL V ad ν cs sl tgt L st) (kf : a = b → XX Γ nL V ad ν cs sl (pc + 3) L st) : XX Γ nL V ad ν cs sl pc L (.int (I b) :: .int (I a) :: st) := by
  obtain ⟨p, l, e, R, s, m, args, below, meth, c, A, Q, E⟩ := Γ
  obtain ⟨hx, hb, hml, hown, hts, hlk, hr, hK, hA0, hR, hQ, hzz⟩ := F
  intro H locs ls hW hV hS hl
  refine lv_icmp_ne hx hb dd ht (fun hh => kt ?_ H locs ls hW hV hS hl) (fun hh => kf ?_ H locs ls hW hV hS hl)
  · rw [I_eq (by omega)] at hh
    exact hh
  · rw [I_eq (by omega)] at hh
    exact hh
theorem x_if_ne {a off : Int} {tgt : Nat} (F : Fx Γ cc own nL ret P d mc ms) (dd : decode cc pc = .ok (.ifCond .ne off, 3)) (ht : (pc : Int) + off = (tgt : Int)) (hg : -2147483648 ≤ a ∧ a < 2147483648) (kt : ¬ a = 0 → XX Γ nL V ad ν cs sl tgt L st) (kf : a = 0 → XX Γ nL V ad ν cs sl (pc + 3) L st) : XX Γ nL V ad ν cs sl pc L (.int (I a) :: st) := by
  obtain ⟨p, l, e, R, s, m, args, below, meth, c, A, Q, E⟩ := Γ
  obtain ⟨hx, hb, hml, hown, hts, hlk, hr, hK, hA0, hR, hQ, hzz⟩ := F
  intro H locs ls hW hV hS hl
  refine lv_if_ne hx hb dd ht (fun hh => kt ?_ H locs ls hW hV hS hl) (fun hh => kf ?_ H locs ls hW hV hS hl)
  · rw [I_0, I_eq (by omega)] at hh
    exact hh
  · rw [I_0, I_eq (by omega)] at hh
    exact hh
theorem x_icmp_lt {a b off : Int} {tgt : Nat} (F : Fx Γ cc own nL ret P d mc ms) (dd : decode cc pc = .ok (.if_icmp .lt off, 3)) (ht : (pc : Int) + off = (tgt : Int)) (hg : -2147483648 ≤ a ∧ a < 2147483648 ∧ -2147483648 ≤ b ∧ b < 2147483648) (kt : a < b → XX Γ nL V ad ν cs sl tgt L st) (kf : ¬ a < b → XX Γ nL V ad ν cs sl (pc + 3) L st) : XX Γ nL V ad ν cs sl pc L (.int (I b) :: .int (I a) :: st) := by
  obtain ⟨p, l, e, R, s, m, args, below, meth, c, A, Q, E⟩ := Γ
  obtain ⟨hx, hb, hml, hown, hts, hlk, hr, hK, hA0, hR, hQ, hzz⟩ := F
  intro H locs ls hW hV hS hl
  refine lv_icmp_lt hx hb dd ht (fun hh => kt ?_ H locs ls hW hV hS hl) (fun hh => kf ?_ H locs ls hW hV hS hl)
  · rw [I_lt (by omega)] at hh
    exact hh
  · rw [I_lt (by omega)] at hh
    exact hh
theorem x_if_lt {a off : Int} {tgt : Nat} (F : Fx Γ cc own nL ret P d mc ms) (dd : decode cc pc = .ok (.ifCond .lt off, 3)) (ht : (pc : Int) + off = (tgt : Int)) (hg : -2147483648 ≤ a ∧ a < 2147483648) (kt : a < 0 → XX Γ nL V ad ν cs sl tgt L st) (kf : ¬ a < 0 → XX Γ nL V ad ν cs sl (pc + 3) L st) : XX Γ nL V ad ν cs sl pc L (.int (I a) :: st) := by
  obtain ⟨p, l, e, R, s, m, args, below, meth, c, A, Q, E⟩ := Γ
  obtain ⟨hx, hb, hml, hown, hts, hlk, hr, hK, hA0, hR, hQ, hzz⟩ := F
  intro H locs ls hW hV hS hl
  refine lv_if_lt hx hb dd ht (fun hh => kt ?_ H locs ls hW hV hS hl) (fun hh => kf ?_ H locs ls hW hV hS hl)
  · rw [I_0, I_lt (by omega)] at hh
    exact hh
  · rw [I_0, I_lt (by omega)] at hh
    exact hh
theorem x_icmp_ge {a b off : Int} {tgt : Nat} (F : Fx Γ cc own nL ret P d mc ms) (dd : decode cc pc = .ok (.if_icmp .ge off, 3)) (ht : (pc : Int) + off = (tgt : Int)) (hg : -2147483648 ≤ a ∧ a < 2147483648 ∧ -2147483648 ≤ b ∧ b < 2147483648) (kt : b ≤ a → XX Γ nL V ad ν cs sl tgt L st) (kf : ¬ b ≤ a → XX Γ nL V ad ν cs sl (pc + 3) L st) : XX Γ nL V ad ν cs sl pc L (.int (I b) :: .int (I a) :: st) := by
  obtain ⟨p, l, e, R, s, m, args, below, meth, c, A, Q, E⟩ := Γ
  obtain ⟨hx, hb, hml, hown, hts, hlk, hr, hK, hA0, hR, hQ, hzz⟩ := F
  intro H locs ls hW hV hS hl
  refine lv_icmp_ge hx hb dd ht (fun hh => kt ?_ H locs ls hW hV hS hl) (fun hh => kf ?_ H locs ls hW hV hS hl)
  · rw [I_le (by omega)] at hh
    exact hh
  · rw [I_le (by omega)] at hh
    exact hh
theorem x_if_ge {a off : Int} {tgt : Nat} (F : Fx Γ cc own nL ret P d mc ms) (dd : decode cc pc = .ok (.ifCond .ge off, 3)) (ht : (pc : Int) + off = (tgt : Int)) (hg : -2147483648 ≤ a ∧ a < 2147483648) (kt : 0 ≤ a → XX Γ nL V ad ν cs sl tgt L st) (kf : ¬ 0 ≤ a → XX Γ nL V ad ν cs sl (pc + 3) L st) : XX Γ nL V ad ν cs sl pc L (.int (I a) :: st) := by
  obtain ⟨p, l, e, R, s, m, args, below, meth, c, A, Q, E⟩ := Γ
  obtain ⟨hx, hb, hml, hown, hts, hlk, hr, hK, hA0, hR, hQ, hzz⟩ := F
  intro H locs ls hW hV hS hl
  refine lv_if_ge hx hb dd ht (fun hh => kt ?_ H locs ls hW hV hS hl) (fun hh => kf ?_ H locs ls hW hV hS hl)
  · rw [I_0, I_le (by omega)] at hh
    exact hh
  · rw [I_0, I_le (by omega)] at hh
    exact hh
theorem x_icmp_gt {a b off : Int} {tgt : Nat} (F : Fx Γ cc own nL ret P d mc ms) (dd : decode cc pc = .ok (.if_icmp .gt off, 3)) (ht : (pc : Int) + off = (tgt : Int)) (hg : -2147483648 ≤ a ∧ a < 2147483648 ∧ -2147483648 ≤ b ∧ b < 2147483648) (kt : b < a → XX Γ nL V ad ν cs sl tgt L st) (kf : ¬ b < a → XX Γ nL V ad ν cs sl (pc + 3) L st) : XX Γ nL V ad ν cs sl pc L (.int (I b) :: .int (I a) :: st) := by
  obtain ⟨p, l, e, R, s, m, args, below, meth, c, A, Q, E⟩ := Γ
  obtain ⟨hx, hb, hml, hown, hts, hlk, hr, hK, hA0, hR, hQ, hzz⟩ := F
  intro H locs ls hW hV hS hl
  refine lv_icmp_gt hx hb dd ht (fun hh => kt ?_ H locs ls hW hV hS hl) (fun hh => kf ?_ H locs ls hW hV hS hl)
  · rw [I_lt (by omega)] at hh
    exact hh
  · rw [I_lt (by omega)] at hh
    exact hh
theorem x_if_gt {a off : Int} {tgt : Nat} (F : Fx Γ cc own nL ret P d mc ms) (dd : decode cc pc = .ok (.ifCond .gt off, 3)) (ht : (pc : Int) + off = (tgt : Int)) (hg : -2147483648 ≤ a ∧ a < 2147483648) (kt : 0 < a → XX Γ nL V ad ν cs sl tgt L st) (kf : ¬ 0 < a → XX Γ nL V ad ν cs sl (pc + 3) L st) : XX Γ nL V ad ν cs sl pc L (.int (I a) :: st) := by
  obtain ⟨p, l, e, R, s, m, args, below, meth, c, A, Q, E⟩ := Γ
  obtain ⟨hx, hb, hml, hown, hts, hlk, hr, hK, hA0, hR, hQ, hzz⟩ := F
  intro H locs ls hW hV hS hl
  refine lv_if_gt hx hb dd ht (fun hh => kt ?_ H locs ls hW hV hS hl) (fun hh => kf ?_ H locs ls hW hV hS hl)
  · rw [I_0, I_lt (by omega)] at hh
    exact hh
  · rw [I_0, I_lt (by omega)] at hh
    exact hh
theorem x_icmp_le {a b off : Int} {tgt : Nat} (F : Fx Γ cc own nL ret P d mc ms) (dd : decode cc pc = .ok (.if_icmp .le off, 3)) (ht : (pc : Int) + off = (tgt : Int)) (hg : -2147483648 ≤ a ∧ a < 2147483648 ∧ -2147483648 ≤ b ∧ b < 2147483648) (kt : a ≤ b → XX Γ nL V ad ν cs sl tgt L st) (kf : ¬ a ≤ b → XX Γ nL V ad ν cs sl (pc + 3) L st) : XX Γ nL V ad ν cs sl pc L (.int (I b) :: .int (I a) :: st) := by
  obtain ⟨p, l, e, R, s, m, args, below, meth, c, A, Q, E⟩ := Γ
  obtain ⟨hx, hb, hml, hown, hts, hlk, hr, hK, hA0, hR, hQ, hzz⟩ := F
  intro H locs ls hW hV hS hl
  refine lv_icmp_le hx hb dd ht (fun hh => kt ?_ H locs ls hW hV hS hl) (fun hh => kf ?_ H locs ls hW hV hS hl)
  · rw [I_le (by omega)] at hh
    exact hh
  · rw [I_le (by omega)] at hh
    exact hh
theorem x_if_le {a off : Int} {tgt : Nat} (F : Fx Γ cc own nL ret P d mc ms) (dd : decode cc pc = .ok (.ifCond .le off, 3)) (ht : (pc : Int) + off = (tgt : Int)) (hg : -2147483648 ≤ a ∧ a < 2147483648) (kt : a ≤ 0 → XX Γ nL V ad ν cs sl tgt L st) (kf : ¬ a ≤ 0 → XX Γ nL V ad ν cs sl (pc + 3) L st) : XX Γ nL V ad ν cs sl pc L (.int (I a) :: st) := by
  obtain ⟨p, l, e, R, s, m, args, below, meth, c, A, Q, E⟩ := Γ
  obtain ⟨hx, hb, hml, hown, hts, hlk, hr, hK, hA0, hR, hQ, hzz⟩ := F
  intro H locs ls hW hV hS hl
  refine lv_if_le hx hb dd ht (fun hh => kt ?_ H locs ls hW hV hS hl) (fun hh => kf ?_ H locs ls hW hV hS hl)
  · rw [I_0, I_le (by omega)] at hh
    exact hh
  · rw [I_0, I_le (by omega)] at hh
    exact hh
theorem x_if_eqB {a : Bool} {off : Int} {tgt : Nat} (F : Fx Γ cc own nL ret P d mc ms) (dd : decode cc pc = .ok (.ifCond .eq off, 3)) (ht : (pc : Int) + off = (tgt : Int)) (kt : a = false → XX Γ nL V ad ν cs sl tgt L st) (kf : a = true → XX Γ nL V ad ν cs sl (pc + 3) L st) : XX Γ nL V ad ν cs sl pc L (.int (I (bI a)) :: st) := by
  obtain ⟨p, l, e, R, s, m, args, below, meth, c, A, Q, E⟩ := Γ
  obtain ⟨hx, hb, hml, hown, hts, hlk, hr, hK, hA0, hR, hQ, hzz⟩ := F
  intro H locs ls hW hV hS hl
  refine lv_if_eq hx hb dd ht (fun hh => kt ?_ H locs ls hW hV hS hl) (fun hh => kf ?_ H locs ls hW hV hS hl)
  · rw [bI_0] at hh
    simpa using hh
  · rw [bI_0] at hh
    simpa using hh
theorem x_if_neB {a : Bool} {off : Int} {tgt : Nat} (F : Fx Γ cc own nL ret P d mc ms) (dd : decode cc pc = .ok (.ifCond .ne off, 3)) (ht : (pc : Int) + off = (tgt : Int)) (kt : a = true → XX Γ nL V ad ν cs sl tgt L st) (kf : a = false → XX Γ nL V ad ν cs sl (pc + 3) L st) : XX Γ nL V ad ν cs sl pc L (.int (I (bI a)) :: st) := by
  obtain ⟨p, l, e, R, s, m, args, below, meth, c, A, Q, E⟩ := Γ
  obtain ⟨hx, hb, hml, hown, hts, hlk, hr, hK, hA0, hR, hQ, hzz⟩ := F
  intro H locs ls hW hV hS hl
  refine lv_if_ne hx hb dd ht (fun hh => kt ?_ H locs ls hW hV hS hl) (fun hh => kf ?_ H locs ls hW hV hS hl)
  · rw [bI_0] at hh
    simpa using hh
  · rw [bI_0] at hh
    simpa using hh
theorem x_goto {off : Int} {tgt : Nat} (F : Fx Γ cc own nL ret P d mc ms) (dd : decode cc pc = .ok (.goto off, 3)) (ht : (pc : Int) + off = (tgt : Int)) (k : XX Γ nL V ad ν cs sl tgt L st) : XX Γ nL V ad ν cs sl pc L st := by
  obtain ⟨p, l, e, R, s, m, args, below, meth, c, A, Q, E⟩ := Γ
  obtain ⟨hx, hb, hml, hown, hts, hlk, hr, hK, hA0, hR, hQ, hzz⟩ := F
  intro H locs ls hW hV hS hl
  exact lv_goto hx hb dd ht (k H locs ls hW hV hS hl)
theorem x_tabIn {dflt lo hi off : Int} {offs : Array Int} {len tgt : Nat} {a : Int} (F : Fx Γ cc own nL ret P d mc ms) (dd : decode cc pc = .ok (.tableswitch dflt lo hi offs, len)) (h1 : lo ≤ a) (h2 : a ≤ hi) (hg : -2147483648 ≤ a ∧ a < 2147483648) (ho : offs[(a - lo).toNat]? = some off) (ht : (pc : Int) + off = (tgt : Int)) (k : XX Γ nL V ad ν cs sl tgt L st) : XX Γ nL V ad ν cs sl pc L (.int (I a) :: st) := by
  obtain ⟨p, l, e, R, s, m, args, below, meth, c, A, Q, E⟩ := Γ
  obtain ⟨hx, hb, hml, hown, hts, hlk, hr, hK, hA0, hR, hQ, hzz⟩ := F
  intro H locs ls hW hV hS hl
  refine lv_tableIn (off := off) hx hb dd ?_ ?_ ?_ ht (k H locs ls hW hV hS hl) <;> rw [I_toInt hg]
  · omega
  · omega
  · exact ho
theorem x_tabOut {dflt lo hi : Int} {offs : Array Int} {len tgt : Nat} {a : Int} (F : Fx Γ cc own nL ret P d mc ms) (dd : decode cc pc = .ok (.tableswitch dflt lo hi offs, len)) (h : a < lo ∨ hi < a) (hg : -2147483648 ≤ a ∧ a < 2147483648) (ht : (pc : Int) + dflt = (tgt : Int)) (k : XX Γ nL V ad ν cs sl tgt L st) : XX Γ nL V ad ν cs sl pc L (.int (I a) :: st) := by
  obtain ⟨p, l, e, R, s, m, args, below, meth, c, A, Q, E⟩ := Γ
  obtain ⟨hx, hb, hml, hown, hts, hlk, hr, hK, hA0, hR, hQ, hzz⟩ := F
  intro H locs ls hW hV hS hl
  refine lv_tableOut hx hb dd ?_ ht (k H locs ls hW hV hS hl)
  rw [I_toInt hg]
  exact h
theorem x_lookup {dflt off : Int} {ps : Array (Int × Int)} {len tgt : Nat} {a : Int} (F : Fx Γ cc own nL ret P d mc ms) (dd : decode cc pc = .ok (.lookupswitch dflt ps, len)) (hg : -2147483648 ≤ a ∧ a < 2147483648) (hp : (ps.toList.zip (ps.toList.drop 1)).all (fun (a, next) => a.1 < next.1) = true) (ho : Op.lookupswitch.offset ps.toList dflt a = off) (ht : (pc : Int) + off = (tgt : Int)) (k : XX Γ nL V ad ν cs sl tgt L st) : XX Γ nL V ad ν cs sl pc L (.int (I a) :: st) := by
  obtain ⟨p, l, e, R, s, m, args, below, meth, c, A, Q, E⟩ := Γ
  obtain ⟨hx, hb, hml, hown, hts, hlk, hr, hK, hA0, hR, hQ, hzz⟩ := F
  intro H locs ls hW hV hS hl
  refine lv_lookup hx hb dd hp ?_ ht (k H locs ls hW hV hS hl)
  rw [I_toInt hg]
  exact ho
theorem x_iret {x : Int32} (F : Fx Γ cc own nL ret P d mc ms) (dd : decode cc pc = .ok (.ireturn, 1)) (hq : P (some (.int x)) V ad ν) (hret : ret = some .int) (hc : cs = mc) (hs : sl = ms) : XX Γ nL V ad ν cs sl pc L [.int x] := by
  obtain ⟨p, l, e, R, s, m, args, below, meth, c, A, Q, E⟩ := Γ
  obtain ⟨hx, hb, hml, hown, hts, hlk, hr, hK, hA0, hR, hQ, hzz⟩ := F
  intro H locs ls hW hV hS hl
  subst hQ; subst hR; subst hc; subst hs
  exact W.iret hx hb (hr.trans hret) (fun t ht hw => ⟨⟨_, V, ad, ν, rfl, hq, by rw [ht]; exact hW, hV⟩, hS.F ht⟩) hS.2.2 dd hlk
theorem x_zret {b : Bool} (F : Fx Γ cc own nL ret P d mc ms) (dd : decode cc pc = .ok (.ireturn, 1)) (hq : P (some (.int (I (bI b)))) V ad ν) (hret : ret = some .boolean) (hc : cs = mc) (hs : sl = ms) : XX Γ nL V ad ν cs sl pc L [.int (I (bI b))] := by
  obtain ⟨p, l, e, R, s, m, args, below, meth, c, A, Q, E⟩ := Γ
  obtain ⟨hx, hb, hml, hown, hts, hlk, hr, hK, hA0, hR, hQ, hzz⟩ := F
  intro H locs ls hW hV hS hl
  subst hQ; subst hR; subst hc; subst hs
  exact W.zret hx hb (hr.trans hret) (by cases b <;> decide) (fun t ht hw => ⟨⟨_, V, ad, ν, rfl, hq, by rw [ht]; exact hW, hV⟩, hS.F ht⟩) hS.2.2 dd hlk
theorem x_nret {x : Int32} {ty : FieldType} (F : Fx Γ cc own nL ret P d mc ms) (dd : decode cc pc = .ok (.ireturn, 1)) (hq : P (some (.int x)) V ad ν) (hret : ret = some ty) (hn : narrow ty (.int x) = .int x) (hc : cs = mc) (hs : sl = ms) : XX Γ nL V ad ν cs sl pc L [.int x] := by
  obtain ⟨p, l, e, R, s, m, args, below, meth, c, A, Q, E⟩ := Γ
  obtain ⟨hx, hb, hml, hown, hts, hlk, hr, hK, hA0, hR, hQ, hzz⟩ := F
  intro H locs ls hW hV hS hl
  subst hQ; subst hR; subst hc; subst hs
  exact W.zret hx hb (hr.trans hret) hn (fun t ht hw => ⟨⟨_, V, ad, ν, rfl, hq, by rw [ht]; exact hW, hV⟩, hS.F ht⟩) hS.2.2 dd hlk
theorem x_vret (F : Fx Γ cc own nL ret P d mc ms) (dd : decode cc pc = .ok (.return_, 1)) (hq : P none V ad ν) (hret : ret = none) (hc : cs = mc) (hs : sl = ms) : XX Γ nL V ad ν cs sl pc L [] := by
  obtain ⟨p, l, e, R, s, m, args, below, meth, c, A, Q, E⟩ := Γ
  obtain ⟨hx, hb, hml, hown, hts, hlk, hr, hK, hA0, hR, hQ, hzz⟩ := F
  intro H locs ls hW hV hS hl
  subst hQ; subst hR; subst hc; subst hs
  exact W.vret hx hb (hr.trans hret) (fun t ht hw => ⟨⟨_, V, ad, ν, rfl, hq, by rw [ht]; exact hW, hV⟩, hS.F ht⟩) hS.2.2 dd hlk
theorem x_lret {x : Int64} (F : Fx Γ cc own nL ret P d mc ms) (dd : decode cc pc = .ok (.lreturn, 1)) (hq : P (some (.long x)) V ad ν) (hret : ret = some .long) (hc : cs = mc) (hs : sl = ms) : XX Γ nL V ad ν cs sl pc L [.long x] := by
  obtain ⟨p, l, e, R, s, m, args, below, meth, c, A, Q, E⟩ := Γ
  obtain ⟨hx, hb, hml, hown, hts, hlk, hr, hK, hA0, hR, hQ, hzz⟩ := F
  intro H locs ls hW hV hS hl
  subst hQ; subst hR; subst hc; subst hs
  exact W.lret hx hb (hr.trans hret) (fun t ht hw => ⟨⟨_, V, ad, ν, rfl, hq, by rw [ht]; exact hW, hV⟩, hS.F ht⟩) hS.2.2 dd hlk
theorem x_aret {x : Nat} {nm : String} (F : Fx Γ cc own nL ret P d mc ms) (dd : decode cc pc = .ok (.areturn, 1)) (hq : P (some (.ref x)) V ad ν) (hret : ret = some (.object nm)) (hc : cs = mc) (hs : sl = ms) : XX Γ nL V ad ν cs sl pc L [.ref x] := by
  obtain ⟨p, l, e, R, s, m, args, below, meth, c, A, Q, E⟩ := Γ
  obtain ⟨hx, hb, hml, hown, hts, hlk, hr, hK, hA0, hR, hQ, hzz⟩ := F
  intro H locs ls hW hV hS hl
  subst hQ; subst hR; subst hc; subst hs
  exact W.aret hx hb (hr.trans hret) (Or.inl ⟨nm, rfl⟩) (Or.inr ⟨x, rfl⟩) (fun t ht hw => ⟨⟨_, V, ad, ν, rfl, hq, by rw [ht]; exact hW, hV⟩, hS.F ht⟩) hS.2.2 dd hlk
end ROWS
end
section
/-! ===== rows of the judgement: fields, arrays, copies ===== -/
theorem tys_at {E : Ev} {ti : Nat} (h : ti < 8) : (tysE E)[ti]? = some (E.2.1 ti, tyA ti) := by
  rcases (show ti = 0 ∨ ti = 1 ∨ ti = 2 ∨ ti = 3 ∨ ti = 4 ∨ ti = 5 ∨ ti = 6 ∨ ti = 7 by omega) with rfl | rfl | rfl | rfl | rfl | rfl | rfl | rfl <;> rfl
theorem Kn.arr {E : Ev} {U : State} (h : Kn E U) {ti : Nat} (ht : ti < 8) : ArrOfT U (E.2.1 ti) (tyA ti) := (h.1.2 ti _ (tys_at ht)).1
/-- a cell changed at o: the world behind it -/
theorem Wd.set {E : Ev} {V : Ob → Prop} {ad : Ob → Nat} {ν : Mv} {H H1 : Heap} {o : Ob} {f : Nat → Value} (h : Wd E V ad ν H) (ho : V o) (h1 : cOK E ad f o H1) (hq : ∀ q : Nat, q ≠ ad o → H1[q]? = H[q]?) : Wd E V ad (fun o' => if o' = o then f else ν o') H1 := by
  refine ⟨fun o' ho' => ?_, h.2.1, h.2.2⟩
  by_cases e : o' = o
  · subst e
    simp only [if_true]
    exact h1
  · simp only [if_neg e]
    have hne : ad o' ≠ ad o := fun z => e (h.2.1 o' o ho' ho z)
    have h2 := h.1 o' ho'
    unfold cOK at h2 ⊢
    split
    · rename_i ci hs
      rw [hs] at h2
      obtain ⟨r, a, b⟩ := h2
      exact ⟨r, a, b.kept (hq _ hne)⟩
    · rename_i ti n hs
      rw [hs] at h2
      exact (hq _ hne).trans h2
theorem upV_eq {ν : Mv} {o : Ob} {k : Nat} {v : Value} {f : Nat → Value} (h : ∀ j, f j = if j = k then v else ν o j) : (fun o' => if o' = o then f else ν o') = upV ν o k v := by
  funext o' j
  by_cases e : o' = o
  · subst e
    by_cases e2 : j = k
    · simp [upV, h, e2]
    · simp [upV, h, e2]
  · simp [upV, e]
theorem va_S.cell {A : Nat → Prop} {H0 H H1 : Heap} {locs : List Loc} {a i : Nat} (h : va_S A H0 H locs) (ha : A a) (hz : H1.size = H.size) (hq : ∀ q : Nat, q ≠ a → H1[q]? = H[q]?) : va_S A H0 H1 (locs ++ [⟨a, i⟩]) := by
  refine ⟨by rw [hz]; exact h.1, fun q h1 h2 => ?_, fun l hl => ?_⟩
  · rw [hq q (fun e => h2 (by rw [e]; exact ha))]
    exact h.2.1 q h1 h2
  · rcases List.mem_append.mp hl with h1 | h1
    · exact h.2.2 l h1
    · rw [List.mem_singleton.mp h1]
      exact ha
section HEAP
variable {Γ : Ct} {cc : ByteArray} {own : String} {nL : Nat} {ret : Option FieldType} {P : Pq} {d mc ms : Nat} {V : Ob → Prop} {ad : Ob → Nat} {ν : Mv} {cs sl pc : Nat} {L : List (Nat × Value)} {st : List Value} {o : Ob} {v : Value}
theorem x_get {C : String} {T : u_T} {N ci idx : Nat} (F : Fx Γ cc own nL ret P d mc ms) (dd : decode cc pc = .ok (.getfield idx, 3)) (hc : vwCl[ci]? = some (C, T, N)) (hin : ∀ w ∈ u_ws C T N, w ∈ lw_tbl ∧ goodWord w = true) (k : Nat) (hk : k < N) (hlk : Cond.fieldLink own idx C (T k).2.1 (T k).2.2.1 ∈ wA) (hO : (T k).1 = C) (ho : V o) (hs : shp o = .inl ci) (hv : ν o k = v)
    (kk : XX Γ nL V ad ν cs sl (pc + 3) L (v :: st)) : XX Γ nL V ad ν cs sl pc L (.ref (ad o) :: st) := by
  obtain ⟨p, l, e, R, s, m, args, below, meth, c, A, Q, E⟩ := Γ
  obtain ⟨hx, hb, hml, hown, hts, hlok, hr, hK, hA0, hR, hQ, hzz⟩ := F
  intro H locs ls hW hV hS hl
  have h1 := hW.1 o ho
  unfold cOK at h1
  rw [hs] at h1
  obtain ⟨r, h1, cell, q1, q2, q3, q4⟩ := h1
  have hr : r = (C, T, N) := Option.some.inj (h1.symm.trans hc)
  subst hr
  obtain ⟨hS', hfc, kC, hkC, hkind⟩ := hK.1.1 ci _ hc
  obtain ⟨cf, kf, fi, f, hi, hsl⟩ := hS' k hk
  have hin' : ∀ w ∈ u_ws C T N, w ∈ wA := fun w hw => wA_of (hin w hw).1 (hin w hw).2
  refine W.getf hx hb hown (hts _ hlk) (by rw [← hO]; exact hi) (u_facts hfc hkC (u_lays hts hin' hk) hi).1 q1 (by rw [q3]; exact fun h => by cases h) (v := v) ?_ rfl rfl dd (kk H locs ls hW hV hS hl)
  rw [hsl, q4 k hk, hv]
theorem x_put {C : String} {T : u_T} {N ci idx : Nat} (F : Fx Γ cc own nL ret P d mc ms) (dd : decode cc pc = .ok (.putfield idx, 3)) (hc : vwCl[ci]? = some (C, T, N)) (hin : ∀ w ∈ u_ws C T N, w ∈ lw_tbl ∧ goodWord w = true) (ty0 : Nat → FieldType) (hty : ∀ k, k < N → parseFieldDescriptor (T k).2.2.1 = some (ty0 k)) (hnm : ∀ a, a < N → ∀ b, b < N → a ≠ b → (T a).2.1 ≠ (T b).2.1)
    (k : Nat) (hk : k < N) (hlk : Cond.fieldLink own idx C (T k).2.1 (T k).2.2.1 ∈ wA) (hO : (T k).1 = C) (hfin : (T k).2.2.2 = false) (ho : V o) (hs : shp o = .inl ci) (hn : narrow (ty0 k) v = v) (hfit : fits (ty0 k) v = true)
    (kk : XX Γ nL V ad (upV ν o k v) cs sl (pc + 3) L st) : XX Γ nL V ad ν cs sl pc L (v :: .ref (ad o) :: st) := by
  obtain ⟨p, l, e, R, s, m, args, below, meth, c, A, Q, E⟩ := Γ
  obtain ⟨hx, hb, hml, hown, hts, hlok, hr, hK, hA0, hR, hQ, hzz⟩ := F
  intro H locs ls hW hV hS hl
  have h1 := hW.1 o ho
  unfold cOK at h1
  rw [hs] at h1
  obtain ⟨r, h1, cell, q1, q2, q3, q4⟩ := h1
  have hr : r = (C, T, N) := Option.some.inj (h1.symm.trans hc)
  subst hr
  have hin' : ∀ w ∈ u_ws C T N, w ∈ wA := fun w hw => wA_of (hin w hw).1 (hin w hw).2
  have hap := va_apart (own := own) hts hin' ty0 hty hnm hK.1 hc
  obtain ⟨hS', hfc, kC, hkC, hkind⟩ := hK.1.1 ci _ hc
  obtain ⟨cf, kf, fi, f, hi, hsl⟩ := hS' k hk
  have hlay := hts _ (hin' _ (u_in_lay hk))
  unfold u_lay at hlay
  rw [if_neg (by rw [hfin]; decide)] at hlay
  have hst := (u_facts hfc hkC (u_lays hts hin' hk) hi).1
  have h6 := u_store hfc hkC hkind hlay hi (hty k hk) hn hfit
  refine W.putK hx hb (f := f) ⟨hown, hts _ hlk, ⟨_, _, _, by rw [← hO]; exact hi⟩, hst⟩ (by rw [q2]; exact h6) q1 q3 (by rw [hsl]; exact k2_hasslot (q4 k hk)) rfl rfl dd fun H' e1 e2 e3 => ?_
  rw [hsl] at e1 ⊢
  refine kk H' _ ls ?_ hV (hS.cell (hV o ho) e2 e3) hl
  rw [← upV_eq (f := fun j => if j = k then v else ν o j) (fun j => rfl)]
  refine hW.set ho ?_ e3
  unfold cOK
  rw [hs]
  exact ⟨_, hc, t_OB.to (V := updV (ν o) k v) ⟨_, e1, q2, q3, t_set q4 hap hk v⟩ (fun j _ => rfl)⟩
/-- a final field, in the constructor of its class -/
theorem x_putF {C : String} {T : u_T} {N ci idx : Nat} (F : Fx Γ cc own nL ret P d mc ms) (hin2 : Γ.2.2.2.2.2.2.2.2.1.name = "<init>") (dd : decode cc pc = .ok (.putfield idx, 3)) (hc : vwCl[ci]? = some (C, T, N)) (hin : ∀ w ∈ u_ws C T N, w ∈ lw_tbl ∧ goodWord w = true) (ty0 : Nat → FieldType) (hty : ∀ k, k < N → parseFieldDescriptor (T k).2.2.1 = some (ty0 k)) (hnm : ∀ a, a < N → ∀ b, b < N → a ≠ b → (T a).2.1 ≠ (T b).2.1)
    (k : Nat) (hk : k < N) (hlk : Cond.fieldLink own idx C (T k).2.1 (T k).2.2.1 ∈ wA) (hO : (T k).1 = C) (hdecl : C = own) (hfin : (T k).2.2.2 = true) (ho : V o) (hs : shp o = .inl ci) (hn : narrow (ty0 k) v = v) (hfit : fits (ty0 k) v = true)
    (kk : XX Γ nL V ad (upV ν o k v) cs sl (pc + 3) L st) : XX Γ nL V ad ν cs sl pc L (v :: .ref (ad o) :: st) := by
  obtain ⟨p, l, e, R, s, m, args, below, meth, c, A, Q, E⟩ := Γ
  obtain ⟨hx, hb, hml, hown, hts, hlok, hr, hK, hA0, hR, hQ, hzz⟩ := F
  intro H locs ls hW hV hS hl
  have h1 := hW.1 o ho
  unfold cOK at h1
  rw [hs] at h1
  obtain ⟨r, h1, cell, q1, q2, q3, q4⟩ := h1
  have hr : r = (C, T, N) := Option.some.inj (h1.symm.trans hc)
  subst hr
  have hin' : ∀ w ∈ u_ws C T N, w ∈ wA := fun w hw => wA_of (hin w hw).1 (hin w hw).2
  have hap := va_apart (own := own) hts hin' ty0 hty hnm hK.1 hc
  obtain ⟨hS', hfc, kC, hkC, hkind⟩ := hK.1.1 ci _ hc
  obtain ⟨cf, kf, fi, f, hi, hsl⟩ := hS' k hk
  have hlay := hts _ (hin' _ (u_in_lay hk))
  unfold u_lay at hlay
  rw [if_pos hfin] at hlay
  have hst := (u_facts hfc hkC (u_lays hts hin' hk) hi).1
  have hcf : m.cls = cf := by
    obtain ⟨_, _, c', _, _, _, -, -, hf', -, -, -, hown2, -⟩ := Cond.laysFinal_spec hlay
    have e1 : c' = cf := by have := hi.symm.trans hf'; simp at this; exact this.1.symm
    rw [hO, hdecl] at hown2
    rw [← e1]; exact Option.some.inj (hown.symm.trans hown2)
  have h6 := u_fits hfc hkC hkind (Or.inr hlay) hi (hty k hk) hn hfit
  refine W.putFinK hx hb hown (hts _ hlk) (by rw [← hO]; exact hi) hst hcf hin2 (by rw [q2]; exact h6) q1 q3 (by rw [hsl]; exact k2_hasslot (q4 k hk)) rfl rfl dd fun H' e1 e2 e3 => ?_
  rw [hsl] at e1 ⊢
  refine kk H' _ ls ?_ hV (hS.cell (hV o ho) e2 e3) hl
  rw [← upV_eq (f := fun j => if j = k then v else ν o j) (fun j => rfl)]
  refine hW.set ho ?_ e3
  unfold cOK
  rw [hs]
  exact ⟨_, hc, t_OB.to (V := updV (ν o) k v) ⟨_, e1, q2, q3, t_set q4 hap hk v⟩ (fun j _ => rfl)⟩
theorem arr_in {ti n : Nat} {cA : ClassId} {f : Nat → Value} {j : Int} (hj : 0 ≤ j ∧ j < n ∧ n ≤ 2147483647) : ¬ (I j < 0 ∨ (arrV cA n f).slots.size ≤ (I j).toNatClampNeg) ∧ (arrV cA n f).slots[(I j).toNatClampNeg]? = some (f j.toNat) := by
  have h1 : (I j).toNatClampNeg = j.toNat := I_clamp (by omega)
  rw [h1, arrV_size]
  refine ⟨?_, arrV_read _ _ (by omega)⟩
  rw [I_0, I_lt (by omega)]
  omega
theorem x_alen {ti n : Nat} {z : Int} (F : Fx Γ cc own nL ret P d mc ms) (dd : decode cc pc = .ok (.arraylength, 1)) (ho : V o) (hs : shp o = .inr (ti, n)) (ht : Nat.ble (ti + 1) 8 = true) (hn : (n : Int) = z) (kk : XX Γ nL V ad ν cs sl (pc + 1) L (.int (I z) :: st)) : XX Γ nL V ad ν cs sl pc L (.ref (ad o) :: st) := by
  obtain ⟨p, l, e, R, s, m, args, below, meth, c, A, Q, E⟩ := Γ
  obtain ⟨hx, hb, hml, hown, hts, hlok, hr, hK, hA0, hR, hQ, hzz⟩ := F
  intro H locs ls hW hV hS hl
  have h1 := hW.1 o ho
  unfold cOK at h1
  rw [hs] at h1
  subst hn
  refine W.alen (n := I n) hx hb h1 (hK.arr (Nat.le_of_ble_eq_true ht) n (ν o)) ?_ rfl rfl dd (kk H locs ls hW hV hS hl)
  rw [arrV_size]
  exact I_nI n
theorem x_iald {n : Nat} {j : Int} (F : Fx Γ cc own nL ret P d mc ms) (dd : decode cc pc = .ok (.iaload, 1)) (ho : V o) (hs : shp o = .inr (0, n)) (hj : 0 ≤ j ∧ j < n ∧ n ≤ 2147483647) (hv : ν o j.toNat = v) (kk : XX Γ nL V ad ν cs sl (pc + 1) L (v :: st)) : XX Γ nL V ad ν cs sl pc L (.int (I j) :: .ref (ad o) :: st) := by
  obtain ⟨p, l, e, R, s, m, args, below, meth, c, A, Q, E⟩ := Γ
  obtain ⟨hx, hb, hml, hown, hts, hlok, hr, hK, hA0, hR, hQ, hzz⟩ := F
  intro H locs ls hW hV hS hl
  have h1 := hW.1 o ho
  unfold cOK at h1
  rw [hs] at h1
  subst hv
  have h2 := arr_in (ti := 0) (cA := E.2.1 0) (f := ν o) hj
  exact W.iald hx hb h1 (hK.arr (by decide) n (ν o)) (fun h => by cases h) h2.1 h2.2 rfl rfl dd (kk H locs ls hW hV hS hl)
theorem x_lald {n : Nat} {j : Int} (F : Fx Γ cc own nL ret P d mc ms) (dd : decode cc pc = .ok (.laload, 1)) (ho : V o) (hs : shp o = .inr (1, n)) (hj : 0 ≤ j ∧ j < n ∧ n ≤ 2147483647) (hv : ν o j.toNat = v) (kk : XX Γ nL V ad ν cs sl (pc + 1) L (v :: st)) : XX Γ nL V ad ν cs sl pc L (.int (I j) :: .ref (ad o) :: st) := by
  obtain ⟨p, l, e, R, s, m, args, below, meth, c, A, Q, E⟩ := Γ
  obtain ⟨hx, hb, hml, hown, hts, hlok, hr, hK, hA0, hR, hQ, hzz⟩ := F
  intro H locs ls hW hV hS hl
  have h1 := hW.1 o ho
  unfold cOK at h1
  rw [hs] at h1
  subst hv
  have h2 := arr_in (ti := 0) (cA := E.2.1 1) (f := ν o) hj
  exact W.lald hx hb h1 (hK.arr (by decide) n (ν o)) (fun h => by cases h) h2.1 h2.2 rfl rfl dd (kk H locs ls hW hV hS hl)
theorem x_bald {n : Nat} {j : Int} (F : Fx Γ cc own nL ret P d mc ms) (dd : decode cc pc = .ok (.baload, 1)) (ho : V o) (hs : shp o = .inr (2, n)) (hj : 0 ≤ j ∧ j < n ∧ n ≤ 2147483647) (hv : ν o j.toNat = v) (kk : XX Γ nL V ad ν cs sl (pc + 1) L (v :: st)) : XX Γ nL V ad ν cs sl pc L (.int (I j) :: .ref (ad o) :: st) := by
  obtain ⟨p, l, e, R, s, m, args, below, meth, c, A, Q, E⟩ := Γ
  obtain ⟨hx, hb, hml, hown, hts, hlok, hr, hK, hA0, hR, hQ, hzz⟩ := F
  intro H locs ls hW hV hS hl
  have h1 := hW.1 o ho
  unfold cOK at h1
  rw [hs] at h1
  subst hv
  have h2 := arr_in (ti := 0) (cA := E.2.1 2) (f := ν o) hj
  exact W.bald hx hb h1 (hK.arr (by decide) n (ν o)) (fun h => by cases h) h2.1 h2.2 rfl rfl dd (kk H locs ls hW hV hS hl)
theorem x_cald {n : Nat} {j : Int} (F : Fx Γ cc own nL ret P d mc ms) (dd : decode cc pc = .ok (.caload, 1)) (ho : V o) (hs : shp o = .inr (3, n)) (hj : 0 ≤ j ∧ j < n ∧ n ≤ 2147483647) (hv : ν o j.toNat = v) (kk : XX Γ nL V ad ν cs sl (pc + 1) L (v :: st)) : XX Γ nL V ad ν cs sl pc L (.int (I j) :: .ref (ad o) :: st) := by
  obtain ⟨p, l, e, R, s, m, args, below, meth, c, A, Q, E⟩ := Γ
  obtain ⟨hx, hb, hml, hown, hts, hlok, hr, hK, hA0, hR, hQ, hzz⟩ := F
  intro H locs ls hW hV hS hl
  have h1 := hW.1 o ho
  unfold cOK at h1
  rw [hs] at h1
  subst hv
  have h2 := arr_in (ti := 0) (cA := E.2.1 3) (f := ν o) hj
  exact W.cald hx hb h1 (hK.arr (by decide) n (ν o)) (fun h => by cases h) h2.1 h2.2 rfl rfl dd (kk H locs ls hW hV hS hl)
theorem x_aald {ti n : Nat} {j : Int} (F : Fx Γ cc own nL ret P d mc ms) (dd : decode cc pc = .ok (.aaload, 1)) (ho : V o) (hs : shp o = .inr (ti, n)) (ht : Nat.ble (ti + 1) 8 = true) (hre : (tyA ti).isReference = true) (hj : 0 ≤ j ∧ j < n ∧ n ≤ 2147483647) (hv : ν o j.toNat = v) (kk : XX Γ nL V ad ν cs sl (pc + 1) L (v :: st)) : XX Γ nL V ad ν cs sl pc L (.int (I j) :: .ref (ad o) :: st) := by
  obtain ⟨p, l, e, R, s, m, args, below, meth, c, A, Q, E⟩ := Γ
  obtain ⟨hx, hb, hml, hown, hts, hlok, hr, hK, hA0, hR, hQ, hzz⟩ := F
  intro H locs ls hW hV hS hl
  have h1 := hW.1 o ho
  unfold cOK at h1
  rw [hs] at h1
  subst hv
  have h2 := arr_in (ti := 0) (cA := E.2.1 ti) (f := ν o) hj
  exact W.aald hx hb h1 (hK.arr (Nat.le_of_ble_eq_true ht) n (ν o)) hre (fun h => by cases h) h2.1 h2.2 rfl rfl dd (kk H locs ls hW hV hS hl)
theorem x_iast {n : Nat} {j : Int} {x : Int32} (F : Fx Γ cc own nL ret P d mc ms) (dd : decode cc pc = .ok (.iastore, 1)) (ho : V o) (hs : shp o = .inr (0, n)) (hj : 0 ≤ j ∧ j < n ∧ n ≤ 2147483647) (kk : XX Γ nL V ad (upV ν o j.toNat (.int x)) cs sl (pc + 1) L st) : XX Γ nL V ad ν cs sl pc L (.int x :: .int (I j) :: .ref (ad o) :: st) := by
  obtain ⟨p, l, e, R, s, m, args, below, meth, c, A, Q, E⟩ := Γ
  obtain ⟨hx, hb, hml, hown, hts, hlok, hr, hK, hA0, hR, hQ, hzz⟩ := F
  intro H locs ls hW hV hS hl
  have h1 := hW.1 o ho
  unfold cOK at h1
  rw [hs] at h1
  have h2 := arr_in (ti := 0) (cA := E.2.1 0) (f := ν o) hj
  refine W.iast hx hb h1 (hK.arr (by decide) n (ν o)) (fun h => by cases h) h2.1 rfl rfl dd fun H1 e1 z1 oq => ?_
  refine kk H1 _ ls ?_ hV (hS.cell (hV o ho) z1 oq) hl
  rw [← upV_eq (f := fun i => if i = j.toNat then (.int x) else ν o i) (fun i => rfl)]
  refine hW.set ho ?_ oq
  unfold cOK
  rw [hs]
  show H1[ad o]? = some (arrV _ n _)
  rw [e1, arrV_store, I_clamp (by omega)]
  congr 2
theorem x_last {n : Nat} {j : Int} {x : Int64} (F : Fx Γ cc own nL ret P d mc ms) (dd : decode cc pc = .ok (.lastore, 1)) (ho : V o) (hs : shp o = .inr (1, n)) (hj : 0 ≤ j ∧ j < n ∧ n ≤ 2147483647) (kk : XX Γ nL V ad (upV ν o j.toNat (.long x)) cs sl (pc + 1) L st) : XX Γ nL V ad ν cs sl pc L (.long x :: .int (I j) :: .ref (ad o) :: st) := by
  obtain ⟨p, l, e, R, s, m, args, below, meth, c, A, Q, E⟩ := Γ
  obtain ⟨hx, hb, hml, hown, hts, hlok, hr, hK, hA0, hR, hQ, hzz⟩ := F
  intro H locs ls hW hV hS hl
  have h1 := hW.1 o ho
  unfold cOK at h1
  rw [hs] at h1
  have h2 := arr_in (ti := 0) (cA := E.2.1 1) (f := ν o) hj
  refine W.last hx hb h1 (hK.arr (by decide) n (ν o)) (fun h => by cases h) h2.1 rfl rfl dd fun H1 e1 z1 oq => ?_
  refine kk H1 _ ls ?_ hV (hS.cell (hV o ho) z1 oq) hl
  rw [← upV_eq (f := fun i => if i = j.toNat then (.long x) else ν o i) (fun i => rfl)]
  refine hW.set ho ?_ oq
  unfold cOK
  rw [hs]
  show H1[ad o]? = some (arrV _ n _)
  rw [e1, arrV_store, I_clamp (by omega)]
  congr 2
theorem x_bast {n : Nat} {j : Int} {x : Int32} (F : Fx Γ cc own nL ret P d mc ms) (dd : decode cc pc = .ok (.bastore, 1)) (ho : V o) (hs : shp o = .inr (2, n)) (hj : 0 ≤ j ∧ j < n ∧ n ≤ 2147483647) (kk : XX Γ nL V ad (upV ν o j.toNat (narrow .byte (.int x))) cs sl (pc + 1) L st) : XX Γ nL V ad ν cs sl pc L (.int x :: .int (I j) :: .ref (ad o) :: st) := by
  obtain ⟨p, l, e, R, s, m, args, below, meth, c, A, Q, E⟩ := Γ
  obtain ⟨hx, hb, hml, hown, hts, hlok, hr, hK, hA0, hR, hQ, hzz⟩ := F
  intro H locs ls hW hV hS hl
  have h1 := hW.1 o ho
  unfold cOK at h1
  rw [hs] at h1
  have h2 := arr_in (ti := 0) (cA := E.2.1 2) (f := ν o) hj
  refine W.bast hx hb h1 (hK.arr (by decide) n (ν o)) (fun h => by cases h) h2.1 rfl rfl dd fun H1 e1 z1 oq => ?_
  refine kk H1 _ ls ?_ hV (hS.cell (hV o ho) z1 oq) hl
  rw [← upV_eq (f := fun i => if i = j.toNat then (narrow .byte (.int x)) else ν o i) (fun i => rfl)]
  refine hW.set ho ?_ oq
  unfold cOK
  rw [hs]
  show H1[ad o]? = some (arrV _ n _)
  rw [e1, arrV_store, I_clamp (by omega)]
  congr 2
theorem x_cast {n : Nat} {j : Int} {x : Int32} (F : Fx Γ cc own nL ret P d mc ms) (dd : decode cc pc = .ok (.castore, 1)) (ho : V o) (hs : shp o = .inr (3, n)) (hj : 0 ≤ j ∧ j < n ∧ n ≤ 2147483647) (kk : XX Γ nL V ad (upV ν o j.toNat (narrow .char (.int x))) cs sl (pc + 1) L st) : XX Γ nL V ad ν cs sl pc L (.int x :: .int (I j) :: .ref (ad o) :: st) := by
  obtain ⟨p, l, e, R, s, m, args, below, meth, c, A, Q, E⟩ := Γ
  obtain ⟨hx, hb, hml, hown, hts, hlok, hr, hK, hA0, hR, hQ, hzz⟩ := F
  intro H locs ls hW hV hS hl
  have h1 := hW.1 o ho
  unfold cOK at h1
  rw [hs] at h1
  have h2 := arr_in (ti := 0) (cA := E.2.1 3) (f := ν o) hj
  refine W.cast hx hb h1 (hK.arr (by decide) n (ν o)) (fun h => by cases h) h2.1 rfl rfl dd fun H1 e1 z1 oq => ?_
  refine kk H1 _ ls ?_ hV (hS.cell (hV o ho) z1 oq) hl
  rw [← upV_eq (f := fun i => if i = j.toNat then (narrow .char (.int x)) else ν o i) (fun i => rfl)]
  refine hW.set ho ?_ oq
  unfold cOK
  rw [hs]
  show H1[ad o]? = some (arrV _ n _)
  rw [e1, arrV_store, I_clamp (by omega)]
  congr 2
/-- what a copy leaves -/
def cpV (ν : Mv) (o1 o2 : Ob) (sp dp n : Nat) : Mv := fun o k => if o = o2 ∧ dp ≤ k ∧ k < dp + n then ν o1 (sp + (k - dp)) else ν o k
theorem x_copy {ti n1 n2 idx : Nat} {sp dp n : Int} {o1 o2 : Ob} (F : Fx Γ cc own nL ret P d mc ms) (dd : decode cc pc = .ok (.invokestatic idx, 3)) (hlk : Cond.methodLink own idx arraycopyName ∈ wA) (hw2 : Cond.native arraycopyName ∈ wA) (hw3 : Cond.static arraycopyName ∈ wA) (hw4 : Cond.initialized "java/lang/System" ∈ wA) (hd : 1 ≤ d) (h1 : V o1) (h2 : V o2) (hs1 : shp o1 = .inr (ti, n1)) (hs2 : shp o2 = .inr (ti, n2)) (ht : Nat.ble (ti + 1) 4 = true)
    (hj : 0 ≤ sp ∧ 0 ≤ dp ∧ 0 ≤ n ∧ sp + n ≤ n1 ∧ dp + n ≤ n2 ∧ n1 ≤ 2147483647 ∧ n2 ≤ 2147483647) (hfit : ∀ i, i < n.toNat → fits (tyA ti) (ν o1 (sp.toNat + i)) = true) (hcat : Nat.ble ((st.map fun v => v.category).sum) 4 = true)
    (kk : XX Γ nL V ad (cpV ν o1 o2 sp.toNat dp.toNat n.toNat) cs sl (pc + 3) L st) : XX Γ nL V ad ν cs sl pc L (.int (I n) :: .int (I dp) :: .ref (ad o2) :: .int (I sp) :: .ref (ad o1) :: st) := by
  obtain ⟨p, l, e, R, s, m, args, below, meth, c, A, Q, E⟩ := Γ
  obtain ⟨hx, hb, hml, hown, hts, hlok, hr, hK, hA0, hR, hQ, hzz⟩ := F
  intro H locs ls hW hV hS hl
  have c1 := hW.1 o1 h1
  unfold cOK at c1
  rw [hs1] at c1
  have c2 := hW.1 o2 h2
  unfold cOK at c2
  rw [hs2] at c2
  have ht4 := Nat.le_of_ble_eq_true ht
  have hc4 := Nat.le_of_ble_eq_true hcat
  have hprim : refKind (tyA ti) = false := by
    rcases (show ti = 0 ∨ ti = 1 ∨ ti = 2 ∨ ti = 3 by omega) with rfl | rfl | rfl | rfl <;> rfl
  have ht8 : ti < 8 := by omega
  obtain ⟨-, k0, hk0, cm0, hkk0⟩ := hK.arr ht8 n1 (ν o1)
  obtain ⟨-, k1, hk1, cm1, hkk1⟩ := hK.arr ht8 n2 (ν o2)
  have e0 : (I sp).toNatClampNeg = sp.toNat := I_clamp (by omega)
  have e1 : (I dp).toNatClampNeg = dp.toNat := I_clamp (by omega)
  have e2 : (I n).toNatClampNeg = n.toNat := I_clamp (by omega)
  have hnw : nativeFrameWords "java/lang/System" "arraycopy" 5 ≤ 25 := by decide +kernel
  have hloc : 2 * (F0 m pc ls (.int (I n) :: .int (I dp) :: .ref (ad o2) :: .int (I sp) :: .ref (ad o1) :: st)).monitorRoom + (st.map fun v => v.category).sum + (nativeFrameWords "java/lang/System" "arraycopy" 5 + 11) ≤ R.locals := by
    rw [hR]
    show 2 * 0 + _ + _ ≤ 40 * d
    omega
  intro T hT X
  obtain ⟨vm', X', step⟩ := X.arraycopy hx hown (hts _ hlk) (hts _ hw2) (hts _ hw3) (hts _ hw4) (src := ad o1) (dst := ad o2) (cs := arrV (E.2.1 ti) n1 (ν o1)) (cd := arrV (E.2.1 ti) n2 (ν o2)) (srcPos := I sp) (destPos := I dp) (n := I n) (by rw [hT]; exact c1) (by rw [hT]; exact c2)
    (fun _ h => by cases h) (fun _ h => by cases h) (fun h => by cases h) (fun h => by cases h) hk0 hk1 hkk0 hkk1 (by simp [hprim]) (by rw [I_0, I_lt (by omega)]; omega) (by rw [I_0, I_lt (by omega)]; omega) (by rw [I_0, I_lt (by omega)]; omega)
    (by rw [I_toInt (by omega), I_toInt (by omega), arrV_size]; omega)
    (by rw [I_toInt (by omega), I_toInt (by omega), arrV_size]; omega)
    (fun vm₁ _ i hi => by
      rw [e2] at hi
      have e : (arrV (E.2.1 ti) n1 (ν o1)).slots.getD ((I sp).toNatClampNeg + i) .null = ν o1 (sp.toNat + i) := by
        rw [Array.getD_eq_getD_getElem?, e0, arrV_read _ _ (by omega)]
        rfl
      refine ⟨?_, ?_⟩
      · rw [e]
        exact hfit i hi
      · rw [e]
        have hf := hfit i hi
        revert hf
        rcases (show ti = 0 ∨ ti = 1 ∨ ti = 2 ∨ ti = 3 by omega) with rfl | rfl | rfl | rfl <;> cases ν o1 (sp.toNat + i) <;> intro hf <;> first | exact trivial | (exfalso; simp [fits, tyA] at hf; done))
    (g := F0 m pc ls (.int (I n) :: .int (I dp) :: .ref (ad o2) :: .int (I sp) :: .ref (ad o1) :: st)) rfl (by rw [hml]; exact hl.1) (rest := st) rfl (by rw [hb]; exact dd) (by rw [hR]; exact hd) hloc
  have e3 : copied (arrV (E.2.1 ti) n1 (ν o1)) (arrV (E.2.1 ti) n2 (ν o2)) (I sp) (I dp) (I n) = arrV (E.2.1 ti) n2 (va_cpy (ν o1) (ν o2) sp.toNat dp.toNat n.toNat) := by
    show (arrV (E.2.1 ti) n2 (ν o2)).storeRun (I dp).toNatClampNeg ((arrV (E.2.1 ti) n1 (ν o1)).stretch (I sp).toNatClampNeg (I n).toNatClampNeg) = _
    rw [e0, e1, e2]
    exact va_copied (fun z => z) _ _ (ν o1) (ν o2) (by omega)
  rw [e3] at X' step
  have hl2 : ad o2 < H.size := (Array.getElem?_eq_some_iff.mp c2).1
  have hheap : ((T.setVm vm').setCell (ad o2) (arrV (E.2.1 ti) n2 (va_cpy (ν o1) (ν o2) sp.toNat dp.toNat n.toNat))).heap = H.setIfInBounds (ad o2) (arrV (E.2.1 ti) n2 (va_cpy (ν o1) (ν o2) sp.toNat dp.toNat n.toNat)) := by rw [← hT]; rfl
  have oq : ∀ q : Nat, q ≠ ad o2 → (H.setIfInBounds (ad o2) (arrV (E.2.1 ti) n2 (va_cpy (ν o1) (ν o2) sp.toNat dp.toNat n.toNat)))[q]? = H[q]? := fun q hq => by simp [Array.getElem?_setIfInBounds, Ne.symm hq]
  have hWn : Wd E V ad (cpV ν o1 o2 sp.toNat dp.toNat n.toNat) (H.setIfInBounds (ad o2) (arrV (E.2.1 ti) n2 (va_cpy (ν o1) (ν o2) sp.toNat dp.toNat n.toNat))) := by
    have h := hW.set (f := va_cpy (ν o1) (ν o2) sp.toNat dp.toNat n.toNat) h2 (H1 := H.setIfInBounds (ad o2) (arrV (E.2.1 ti) n2 (va_cpy (ν o1) (ν o2) sp.toNat dp.toNat n.toNat))) (by unfold cOK; rw [hs2]; simp [Array.getElem?_setIfInBounds, hl2]) oq
    have e4 : (fun o' => if o' = o2 then va_cpy (ν o1) (ν o2) sp.toNat dp.toNat n.toNat else ν o') = cpV ν o1 o2 sp.toNat dp.toNat n.toNat := by
      funext o' k
      by_cases hh : o' = o2
      · subst hh
        simp only [if_true, va_cpy, cpV, true_and]
      · simp only [if_neg hh, cpV, hh, false_and, if_false]
    rw [e4] at h
    exact h
  obtain ⟨t, a1, b1⟩ := kk _ _ ls hWn hV ⟨by simp; exact hS.1, fun q g1 g2 => by
      rw [oq q (fun e => g2 (by rw [e]; exact hV o2 h2))]
      exact hS.2.1 q g1 g2, fun q hq => by
      rcases List.mem_append.mp hq with h | h
      · exact hS.2.2 q h
      · obtain ⟨z, -, hz⟩ := List.mem_map.mp h
        rw [← hz]
        exact hV o2 h2⟩ hl _ hheap X'
  exact ⟨t, step t a1, b1⟩
end HEAP
end
section
/-! ===== contracts and calls ===== -/
abbrev Mi : Type := MethodName × ByteArray × Nat × Option FieldType
def nP (V : Ob → Prop) (ad : Ob → Nat) (P1 : Option Value → Me → Prop) : Pq := fun v V' ad' ν' => V' = V ∧ ad' = ad ∧ ∃ μ', ν' = vl ad μ' ∧ P1 v μ'
/-- the contract of a method that makes nothing -/
def Con (l : Launch) (E : Ev) (d : Nat) (mi : Mi) (A : Nat → Prop) (V : Ob → Prop) (ad : Ob → Nat) (μ : Me) (av : List Value) (P1 : Option Value → Me → Prop) : Prop := ConG l E d mi.1 mi.2.1 mi.2.2.1 mi.2.2.2 A V ad (vl ad μ) 0 0 av (nP V ad P1)
def pi (Q : Int → Me → Prop) : Option Value → Me → Prop := fun v μ => ∃ z, v = some (.int (I z)) ∧ Q z μ
def pz (Q : Bool → Me → Prop) : Option Value → Me → Prop := fun v μ => ∃ b, v = some (.int (I (bI b))) ∧ Q b μ
def pl (Q : Int → Me → Prop) : Option Value → Me → Prop := fun v μ => ∃ z, v = some (.long (J z)) ∧ Q z μ
def pv (Q : Me → Prop) : Option Value → Me → Prop := fun v μ => v = none ∧ Q μ
def pr (Q : Nat → Me → Prop) : Option Value → Me → Prop := fun v μ => ∃ a, v = some (.ref a) ∧ Q a μ
theorem con {l : Launch} {E : Ev} {d : Nat} {mi : Mi} {A : Nat → Prop} {V : Ob → Prop} {ad : Ob → Nat} {μ : Me} {av : List Value} {P1 : Option Value → Me → Prop} {own : String}
    (hy : plainName mi.1.cls = true) (ho : mi.1.cls = own) (hn : Nat.ble (lg_sl av).length mi.2.2.1 = true) {L : List (Nat × Value)} (hL : lv_args 0 av = L)
    (body : ∀ Γ : Ct, Fx Γ mi.2.1 own mi.2.2.1 mi.2.2.2 (nP V ad P1) d 0 0 → XX Γ mi.2.2.1 V ad (vl ad μ) 0 0 0 L []) : Con l E d mi A V ad μ av P1 :=
  conG hy ho (Nat.le_of_ble_eq_true hn) hL (fun Γ F _ _ => body Γ F)
theorem Con.to {l : Launch} {E : Ev} {d : Nat} {mi : Mi} {A : Nat → Prop} {V : Ob → Prop} {ad : Ob → Nat} {μ : Me} {av : List Value} {P1 P2 : Option Value → Me → Prop} (h : Con l E d mi A V ad μ av P1) (h12 : ∀ v μ', P1 v μ' → P2 v μ') : Con l E d mi A V ad μ av P2 := by
  intro hA hA0 p e ha hc hk s m args below hf happ hP hK
  obtain ⟨k, o, h1, h2, h3, ⟨⟨v, V', ad', ν', q1, ⟨r1, r2, μ', r3, r4⟩, q3⟩, q4⟩, q5⟩ := h hA hA0 p e ha hc hk s m args below hf happ hP hK
  exact ⟨k, o, h1, h2, h3, ⟨⟨v, V', ad', ν', q1, ⟨r1, r2, μ', r3, h12 v μ' r4⟩, q3⟩, q4⟩, q5⟩
def LkV (own : String) (idx : Nat) (mi : Mi) (C : String) (n : Nat) : Prop :=
  Cond.methodLink own idx mi.1 ∈ wA ∧ Cond.instanceMethod mi.1 ∈ wA ∧ Cond.selects C mi.1 mi.1 ∈ wA ∧ Cond.initialized C ∈ wA ∧ Cond.code mi.1 mi.2.1 mi.2.2.1 mi.2.2.2 ∈ wA ∧ mi.1.cls = C ∧ (mi.1.cls ≠ "java/lang/invoke/MethodHandle" ∧ mi.1.cls ≠ "java/lang/invoke/VarHandle") ∧ (parseMethodDescriptor mi.1.desc).map (fun d => d.parameters.length) = some n ∧ Nat.ble mi.2.2.1 21 = true
def LkS (own : String) (idx : Nat) (mi : Mi) (n : Nat) : Prop :=
  Cond.methodLink own idx mi.1 ∈ wA ∧ Cond.static mi.1 ∈ wA ∧ Cond.initialized mi.1.cls ∈ wA ∧ Cond.code mi.1 mi.2.1 mi.2.2.1 mi.2.2.2 ∈ wA ∧ (mi.1.cls ≠ "java/lang/invoke/MethodHandle" ∧ mi.1.cls ≠ "java/lang/invoke/VarHandle") ∧ (parseMethodDescriptor mi.1.desc).map (fun d => d.parameters.length) = some n ∧ Nat.ble mi.2.2.1 21 = true
/-- a static method of a nest mate -/
def LkSN (own : String) (idx : Nat) (mi : Mi) (host : String) (n : Nat) : Prop :=
  Cond.methodLinkNest own idx mi.1 host ∈ nestW ∧ Cond.static mi.1 ∈ wA ∧ Cond.initialized mi.1.cls ∈ wA ∧ Cond.code mi.1 mi.2.1 mi.2.2.1 mi.2.2.2 ∈ wA ∧ (mi.1.cls ≠ "java/lang/invoke/MethodHandle" ∧ mi.1.cls ≠ "java/lang/invoke/VarHandle") ∧ (parseMethodDescriptor mi.1.desc).map (fun d => d.parameters.length) = some n ∧ Nat.ble mi.2.2.1 21 = true
theorem gi_code {mi : Mi} (h : Cond.code mi.1 mi.2.1 mi.2.2.1 mi.2.2.2 ∈ wA) : GoodIn wA (Cond.code mi.1 mi.2.1 mi.2.2.1 mi.2.2.2 :: wA) := wA_gi fun w hw => by
  rcases List.mem_cons.mp hw with rfl | hw
  · exact h
  · exact hw
/-- a contract's start -/
def PcG (E : Ev) (A : Nat → Prop) (V : Ob → Prop) (ad : Ob → Nat) (ν : Mv) (mc : Nat) (av : List Value) : Array Value → State → Prop := fun args U => args = av.toArray ∧ Wd E V ad ν U.heap ∧ Kn E U ∧ (0 < mc → ∀ q, U.heap.size ≤ q → A q)
theorem PcG.blind {E : Ev} {A : Nat → Prop} {V : Ob → Prop} {ad : Ob → Nat} {ν : Mv} {mc : Nat} {av : List Value} : FrameBlind (PcG E A V ad ν mc av) := fun a U g mk h => ⟨h.1, h.2.1, Kn.blind g mk a h.2.2.1, h.2.2.2⟩
section CALLS
variable {p : Program} {l : Launch} {e : Env} {R : Room} {s : State} {m : MethodId} {args : Array Value} {below : List Frame} {meth : Method} {c : Code} {H : Heap} {locs : List Loc} {cells slots : Nat} {Q : State → Prop} {pc : Nat} {ls : Array Slot} {rest st0 : List Value} {a : Array Value} {A : Nat → Prop} {mc ms : Nat} {E : Ev} {P : Pq}
/-- behind a call -/
theorem q_back (hr : va_Run p l e R s m args below meth c H locs cells slots mc ms (F0 m pc ls st0) rest (QG E P A a) A) (hS : va_S A s.heap H locs)
    (kk : ∀ (v : Option Value) (V : Ob → Prop) (ad : Ob → Nat) (ν : Mv) (H1 : Heap) (locs1 : List Loc), P v V ad ν → Wd E V ad ν H1 → (∀ o, V o → A (ad o)) → va_S A s.heap H1 locs1 → W p l e R s m args below meth c H1 locs1 (cells + mc) (slots + ms) Q (F0 m (pc + 3) ls (v.toList ++ rest))) : W p l e R s m args below meth c H locs cells slots Q (F0 m pc ls st0) := by
  intro T hT X
  obtain ⟨v, st₀, t, T', L, h0, X', hL, e1, e2, ⟨⟨v', V, ad, ν, hv, hP, hW, hV⟩, hz, hk⟩, st⟩ := hr T hT X
  cases hv
  rw [h0] at hz hk
  obtain ⟨t2, a1, b1⟩ := kk v V ad ν T'.heap (locs ++ L) hP (by rw [e1]; exact hW) hV ⟨Nat.le_trans hS.1 (by rw [e1]; exact hz), fun q h1 h2 => by rw [e1, hk q (Nat.lt_of_lt_of_le h1 hS.1) h2]; exact hS.2.1 q h1 h2, fun q hq => by
      rcases List.mem_append.mp hq with h | h
      · exact hS.2.2 q h
      · exact hL q h⟩ T' rfl X'
  exact ⟨t2, st t2 a1, b1⟩
end CALLS
section CALLX
variable {Γ : Ct} {cc : ByteArray} {own : String} {nL : Nat} {ret : Option FieldType} {P : Pq} {d mc ms : Nat} {V : Ob → Prop} {ad : Ob → Nat} {ν : Mv} {cs sl pc : Nat} {L : List (Nat × Value)} {st st0 : List Value} {o : Ob} {mi : Mi} {C : String} {T : u_T} {N ci n idx d2 mc2 ms2 : Nat} {As : List Value} {P2 : Pq}
theorem x_callVG (F : Fx Γ cc own nL ret P d mc ms) (dd : decode cc pc = .ok (.invokevirtual idx, 3)) (hL : LkV own idx mi C n) (hci : vwCl[ci]? = some (C, T, N)) (ho : V o) (hs : shp o = .inl ci) (hn : As.length = n) (hst : st0 = As.reverse ++ .ref (ad o) :: st) (hcat : Nat.ble ((st.map fun v => v.category).sum) 8 = true) (hd : Nat.ble (d2 + 1) d = true) (hmc : Nat.ble (cs + mc2) mc = true) (hms : Nat.ble (sl + ms2) ms = true)
    (hM : ∀ (l : Launch) (E : Ev) (A : Nat → Prop), ConG l E d2 mi.1 mi.2.1 mi.2.2.1 mi.2.2.2 A V ad ν mc2 ms2 (.ref (ad o) :: As) P2) (kk : ∀ (v : Option Value) (V' : Ob → Prop) (ad' : Ob → Nat) (ν' : Mv), P2 v V' ad' ν' → XX Γ nL V' ad' ν' (cs + mc2) (sl + ms2) (pc + 3) L (v.toList ++ st)) : XX Γ nL V ad ν cs sl pc L st0 := by
  obtain ⟨p, l, e, R, s, m, args, below, meth, c, A, Q, E⟩ := Γ
  obtain ⟨hx, hb, hml, hown, hts, hlok, hr, hK, hA0, hR, hQ, hzz⟩ := F
  obtain ⟨w1, w2, w3, w4, w5, w6, w7, w8, w9⟩ := hL
  have hd := Nat.le_of_ble_eq_true hd
  have hmc := Nat.le_of_ble_eq_true hmc
  have hms := Nat.le_of_ble_eq_true hms
  have w9 := Nat.le_of_ble_eq_true w9
  intro H locs ls hW hV hS hl
  have h1 := hW.1 o ho
  unfold cOK at h1
  rw [hs] at h1
  obtain ⟨r, h1, cell, q1, q2, q3, q4⟩ := h1
  have hrr : r = (C, T, N) := Option.some.inj (h1.symm.trans hci)
  subst hrr
  subst hR
  have hfc := (hK.1.1 ci _ hci).2.1
  have CB : CallB (rmD d mc ms) s args own idx mi.1 mi.2.1 mi.2.2.1 mi.2.2.2 (Cond.code mi.1 mi.2.1 mi.2.2.1 mi.2.2.2 :: wA) (rmD d2 mc2 ms2) mc2 ms2 n := callB_of n hts (gi_code w5) rfl rfl rfl (by rw [w6]; exact hts _ w4) (hts _ w1) ⟨w7.1, w7.2, w8⟩ ⟨hd, by show 8 + (mi.2.2.1 + 11) + 40 * d2 ≤ 40 * d; omega⟩
  refine q_back (va_runV (As := As) (rest := st) (b := ad o) ⟨hx, hb, hml, hown, hts⟩ (hM l E A hV hA0) ⟨CB, hts _ w2, hts _ w3⟩ ⟨PcG.blind, ⟨cell, q1, by rw [q3]; rfl, by rw [q2]; exact hfc⟩, fun U hU hw => ⟨rfl, by rw [hU]; exact hW, hK.next hA0 hS hU hw, fun hz q hq => hzz (by omega) q (Nat.le_trans hS.1 (by rw [← hU]; exact hq))⟩⟩ rfl hn hl.1 hst (lv_room (Nat.le_of_ble_eq_true hcat)) dd ⟨hmc, hms⟩) hS ?_
  intro v V' ad' ν' H1 locs1 hP hW1 hV1 hS1
  exact kk v V' ad' ν' hP H1 locs1 ls hW1 hV1 hS1 hl
theorem x_callSG (F : Fx Γ cc own nL ret P d mc ms) (dd : decode cc pc = .ok (.invokestatic idx, 3)) (hL : LkS own idx mi n) (hn : As.length = n) (hst : st0 = As.reverse ++ st) (hcat : Nat.ble ((st.map fun v => v.category).sum) 8 = true) (hd : Nat.ble (d2 + 1) d = true) (hmc : Nat.ble (cs + mc2) mc = true) (hms : Nat.ble (sl + ms2) ms = true)
    (hM : ∀ (l : Launch) (E : Ev) (A : Nat → Prop), ConG l E d2 mi.1 mi.2.1 mi.2.2.1 mi.2.2.2 A V ad ν mc2 ms2 As P2) (kk : ∀ (v : Option Value) (V' : Ob → Prop) (ad' : Ob → Nat) (ν' : Mv), P2 v V' ad' ν' → XX Γ nL V' ad' ν' (cs + mc2) (sl + ms2) (pc + 3) L (v.toList ++ st)) : XX Γ nL V ad ν cs sl pc L st0 := by
  obtain ⟨p, l, e, R, s, m, args, below, meth, c, A, Q, E⟩ := Γ
  obtain ⟨hx, hb, hml, hown, hts, hlok, hr, hK, hA0, hR, hQ, hzz⟩ := F
  obtain ⟨w1, w2, w4, w5, w7, w8, w9⟩ := hL
  have hd := Nat.le_of_ble_eq_true hd
  have hmc := Nat.le_of_ble_eq_true hmc
  have hms := Nat.le_of_ble_eq_true hms
  have w9 := Nat.le_of_ble_eq_true w9
  intro H locs ls hW hV hS hl
  subst hR
  have CB : CallB (rmD d mc ms) s args own idx mi.1 mi.2.1 mi.2.2.1 mi.2.2.2 (Cond.code mi.1 mi.2.1 mi.2.2.1 mi.2.2.2 :: wA) (rmD d2 mc2 ms2) mc2 ms2 n := callB_of n hts (gi_code w5) rfl rfl rfl (hts _ w4) (hts _ w1) ⟨w7.1, w7.2, w8⟩ ⟨hd, by show 8 + (mi.2.2.1 + 11) + 40 * d2 ≤ 40 * d; omega⟩
  refine q_back (va_runS (As := As) (rest := st) ⟨hx, hb, hml, hown, hts⟩ (hM l E A hV hA0) ⟨CB, hts _ w2⟩ ⟨PcG.blind, fun U hU hw => ⟨rfl, by rw [hU]; exact hW, hK.next hA0 hS hU hw, fun hz q hq => hzz (by omega) q (Nat.le_trans hS.1 (by rw [← hU]; exact hq))⟩⟩ rfl hn hl.1 hst (lv_room (Nat.le_of_ble_eq_true hcat)) dd ⟨hmc, hms⟩) hS ?_
  intro v V' ad' ν' H1 locs1 hP hW1 hV1 hS1
  exact kk v V' ad' ν' hP H1 locs1 ls hW1 hV1 hS1 hl
theorem x_callSNG {host : String} (F : Fx Γ cc own nL ret P d mc ms) (dd : decode cc pc = .ok (.invokestatic idx, 3)) (hL : LkSN own idx mi host n) (hn : As.length = n) (hst : st0 = As.reverse ++ st) (hcat : Nat.ble ((st.map fun v => v.category).sum) 8 = true) (hd : Nat.ble (d2 + 1) d = true) (hmc : Nat.ble (cs + mc2) mc = true) (hms : Nat.ble (sl + ms2) ms = true)
    (hM : ∀ (l : Launch) (E : Ev) (A : Nat → Prop), ConG l E d2 mi.1 mi.2.1 mi.2.2.1 mi.2.2.2 A V ad ν mc2 ms2 As P2) (kk : ∀ (v : Option Value) (V' : Ob → Prop) (ad' : Ob → Nat) (ν' : Mv), P2 v V' ad' ν' → XX Γ nL V' ad' ν' (cs + mc2) (sl + ms2) (pc + 3) L (v.toList ++ st)) : XX Γ nL V ad ν cs sl pc L st0 := by
  obtain ⟨p, l, e, R, s, m, args, below, meth, c, A, Q, E⟩ := Γ
  obtain ⟨hx, hb, hml, hown, hts, hlok, hr, hK, hA0, hR, hQ, hzz⟩ := F
  obtain ⟨w1, w2, w4, w5, w7, w8, w9⟩ := hL
  have hd := Nat.le_of_ble_eq_true hd
  have hmc := Nat.le_of_ble_eq_true hmc
  have hms := Nat.le_of_ble_eq_true hms
  have w9 := Nat.le_of_ble_eq_true w9
  intro H locs ls hW hV hS hl
  subst hR
  have CB : va_CN (rmD d mc ms) s args own idx mi.1 host mi.2.1 mi.2.2.1 mi.2.2.2 (Cond.code mi.1 mi.2.1 mi.2.2.1 mi.2.2.2 :: wA) (rmD d2 mc2 ms2) mc2 ms2 n := va_cnB n hts (gi_code w5) rfl rfl rfl (hK.2.1 _ w1) (hts _ w4) ⟨w7.1, w7.2, w8⟩ ⟨hd, by show 8 + (mi.2.2.1 + 11) + 40 * d2 ≤ 40 * d; omega⟩
  refine q_back (va_runSN (As := As) (rest := st) ⟨hx, hb, hml, hown, hts⟩ (hM l E A hV hA0) ⟨CB, hts _ w2, trivial⟩ ⟨PcG.blind, fun U hU hw => ⟨rfl, by rw [hU]; exact hW, hK.next hA0 hS hU hw, fun hz q hq => hzz (by omega) q (Nat.le_trans hS.1 (by rw [← hU]; exact hq))⟩⟩ rfl hn hl.1 hst (lv_room (Nat.le_of_ble_eq_true hcat)) dd ⟨hmc, hms⟩) hS ?_
  intro v V' ad' ν' H1 locs1 hP hW1 hV1 hS1
  exact kk v V' ad' ν' hP H1 locs1 ls hW1 hV1 hS1 hl
variable {μ : Me}
theorem x_V0i {Q1 : Int → Me → Prop} (F : Fx Γ cc own nL ret P d mc ms) (dd : decode cc pc = .ok (.invokevirtual idx, 3)) (hL : LkV own idx mi C 0) (hci : vwCl[ci]? = some (C, T, N)) (ho : V o) (hs : shp o = .inl ci) (hd : Nat.ble (d2 + 1) d = true) (hM : ∀ (l : Launch) (E : Ev) (A : Nat → Prop), Con l E d2 mi A V ad μ (.ref (ad o) :: []) (pi Q1)) (hcat : Nat.ble ((st.map fun v => v.category).sum) 8 = true) (hmc : Nat.ble cs mc = true) (hms : Nat.ble sl ms = true) (kk : ∀ (z : Int) (μ' : Me), Q1 z μ' → XX Γ nL V ad (vl ad μ') cs sl (pc + 3) L (.int (I z) :: st)) : XX Γ nL V ad (vl ad μ) cs sl pc L (.ref (ad o) :: st) := by
  refine x_callVG (As := []) (mc2 := 0) (ms2 := 0) F dd hL hci ho hs rfl rfl hcat hd hmc hms hM ?_
  rintro v V' ad' ν' ⟨rfl, rfl, μ', rfl, z, rfl, hq⟩
  exact kk z μ' hq
theorem x_V0z {Q1 : Bool → Me → Prop} (F : Fx Γ cc own nL ret P d mc ms) (dd : decode cc pc = .ok (.invokevirtual idx, 3)) (hL : LkV own idx mi C 0) (hci : vwCl[ci]? = some (C, T, N)) (ho : V o) (hs : shp o = .inl ci) (hd : Nat.ble (d2 + 1) d = true) (hM : ∀ (l : Launch) (E : Ev) (A : Nat → Prop), Con l E d2 mi A V ad μ (.ref (ad o) :: []) (pz Q1)) (hcat : Nat.ble ((st.map fun v => v.category).sum) 8 = true) (hmc : Nat.ble cs mc = true) (hms : Nat.ble sl ms = true) (kk : ∀ (z : Bool) (μ' : Me), Q1 z μ' → XX Γ nL V ad (vl ad μ') cs sl (pc + 3) L (.int (I (bI z)) :: st)) : XX Γ nL V ad (vl ad μ) cs sl pc L (.ref (ad o) :: st) := by
  refine x_callVG (As := []) (mc2 := 0) (ms2 := 0) F dd hL hci ho hs rfl rfl hcat hd hmc hms hM ?_
  rintro v V' ad' ν' ⟨rfl, rfl, μ', rfl, z, rfl, hq⟩
  exact kk z μ' hq
theorem x_V0l {Q1 : Int → Me → Prop} (F : Fx Γ cc own nL ret P d mc ms) (dd : decode cc pc = .ok (.invokevirtual idx, 3)) (hL : LkV own idx mi C 0) (hci : vwCl[ci]? = some (C, T, N)) (ho : V o) (hs : shp o = .inl ci) (hd : Nat.ble (d2 + 1) d = true) (hM : ∀ (l : Launch) (E : Ev) (A : Nat → Prop), Con l E d2 mi A V ad μ (.ref (ad o) :: []) (pl Q1)) (hcat : Nat.ble ((st.map fun v => v.category).sum) 8 = true) (hmc : Nat.ble cs mc = true) (hms : Nat.ble sl ms = true) (kk : ∀ (z : Int) (μ' : Me), Q1 z μ' → XX Γ nL V ad (vl ad μ') cs sl (pc + 3) L (.long (J z) :: st)) : XX Γ nL V ad (vl ad μ) cs sl pc L (.ref (ad o) :: st) := by
  refine x_callVG (As := []) (mc2 := 0) (ms2 := 0) F dd hL hci ho hs rfl rfl hcat hd hmc hms hM ?_
  rintro v V' ad' ν' ⟨rfl, rfl, μ', rfl, z, rfl, hq⟩
  exact kk z μ' hq
theorem x_V0v {Q1 : Me → Prop} (F : Fx Γ cc own nL ret P d mc ms) (dd : decode cc pc = .ok (.invokevirtual idx, 3)) (hL : LkV own idx mi C 0) (hci : vwCl[ci]? = some (C, T, N)) (ho : V o) (hs : shp o = .inl ci) (hd : Nat.ble (d2 + 1) d = true) (hM : ∀ (l : Launch) (E : Ev) (A : Nat → Prop), Con l E d2 mi A V ad μ (.ref (ad o) :: []) (pv Q1)) (hcat : Nat.ble ((st.map fun v => v.category).sum) 8 = true) (hmc : Nat.ble cs mc = true) (hms : Nat.ble sl ms = true) (kk : ∀ (μ' : Me), Q1 μ' → XX Γ nL V ad (vl ad μ') cs sl (pc + 3) L st) : XX Γ nL V ad (vl ad μ) cs sl pc L (.ref (ad o) :: st) := by
  refine x_callVG (As := []) (mc2 := 0) (ms2 := 0) F dd hL hci ho hs rfl rfl hcat hd hmc hms hM ?_
  rintro v V' ad' ν' ⟨rfl, rfl, μ', rfl, rfl, hq⟩
  exact kk μ' hq
theorem x_V0r {Q1 : Nat → Me → Prop} (F : Fx Γ cc own nL ret P d mc ms) (dd : decode cc pc = .ok (.invokevirtual idx, 3)) (hL : LkV own idx mi C 0) (hci : vwCl[ci]? = some (C, T, N)) (ho : V o) (hs : shp o = .inl ci) (hd : Nat.ble (d2 + 1) d = true) (hM : ∀ (l : Launch) (E : Ev) (A : Nat → Prop), Con l E d2 mi A V ad μ (.ref (ad o) :: []) (pr Q1)) (hcat : Nat.ble ((st.map fun v => v.category).sum) 8 = true) (hmc : Nat.ble cs mc = true) (hms : Nat.ble sl ms = true) (kk : ∀ (z : Nat) (μ' : Me), Q1 z μ' → XX Γ nL V ad (vl ad μ') cs sl (pc + 3) L (.ref z :: st)) : XX Γ nL V ad (vl ad μ) cs sl pc L (.ref (ad o) :: st) := by
  refine x_callVG (As := []) (mc2 := 0) (ms2 := 0) F dd hL hci ho hs rfl rfl hcat hd hmc hms hM ?_
  rintro v V' ad' ν' ⟨rfl, rfl, μ', rfl, z, rfl, hq⟩
  exact kk z μ' hq
theorem x_V1i {a1 : Value} {Q1 : Int → Me → Prop} (F : Fx Γ cc own nL ret P d mc ms) (dd : decode cc pc = .ok (.invokevirtual idx, 3)) (hL : LkV own idx mi C 1) (hci : vwCl[ci]? = some (C, T, N)) (ho : V o) (hs : shp o = .inl ci) (hd : Nat.ble (d2 + 1) d = true) (hM : ∀ (l : Launch) (E : Ev) (A : Nat → Prop), Con l E d2 mi A V ad μ (.ref (ad o) :: [a1]) (pi Q1)) (hcat : Nat.ble ((st.map fun v => v.category).sum) 8 = true) (hmc : Nat.ble cs mc = true) (hms : Nat.ble sl ms = true) (kk : ∀ (z : Int) (μ' : Me), Q1 z μ' → XX Γ nL V ad (vl ad μ') cs sl (pc + 3) L (.int (I z) :: st)) : XX Γ nL V ad (vl ad μ) cs sl pc L (a1 :: .ref (ad o) :: st) := by
  refine x_callVG (As := [a1]) (mc2 := 0) (ms2 := 0) F dd hL hci ho hs rfl rfl hcat hd hmc hms hM ?_
  rintro v V' ad' ν' ⟨rfl, rfl, μ', rfl, z, rfl, hq⟩
  exact kk z μ' hq
theorem x_V1z {a1 : Value} {Q1 : Bool → Me → Prop} (F : Fx Γ cc own nL ret P d mc ms) (dd : decode cc pc = .ok (.invokevirtual idx, 3)) (hL : LkV own idx mi C 1) (hci : vwCl[ci]? = some (C, T, N)) (ho : V o) (hs : shp o = .inl ci) (hd : Nat.ble (d2 + 1) d = true) (hM : ∀ (l : Launch) (E : Ev) (A : Nat → Prop), Con l E d2 mi A V ad μ (.ref (ad o) :: [a1]) (pz Q1)) (hcat : Nat.ble ((st.map fun v => v.category).sum) 8 = true) (hmc : Nat.ble cs mc = true) (hms : Nat.ble sl ms = true) (kk : ∀ (z : Bool) (μ' : Me), Q1 z μ' → XX Γ nL V ad (vl ad μ') cs sl (pc + 3) L (.int (I (bI z)) :: st)) : XX Γ nL V ad (vl ad μ) cs sl pc L (a1 :: .ref (ad o) :: st) := by
  refine x_callVG (As := [a1]) (mc2 := 0) (ms2 := 0) F dd hL hci ho hs rfl rfl hcat hd hmc hms hM ?_
  rintro v V' ad' ν' ⟨rfl, rfl, μ', rfl, z, rfl, hq⟩
  exact kk z μ' hq
theorem x_V1l {a1 : Value} {Q1 : Int → Me → Prop} (F : Fx Γ cc own nL ret P d mc ms) (dd : decode cc pc = .ok (.invokevirtual idx, 3)) (hL : LkV own idx mi C 1) (hci : vwCl[ci]? = some (C, T, N)) (ho : V o) (hs : shp o = .inl ci) (hd : Nat.ble (d2 + 1) d = true) (hM : ∀ (l : Launch) (E : Ev) (A : Nat → Prop), Con l E d2 mi A V ad μ (.ref (ad o) :: [a1]) (pl Q1)) (hcat : Nat.ble ((st.map fun v => v.category).sum) 8 = true) (hmc : Nat.ble cs mc = true) (hms : Nat.ble sl ms = true) (kk : ∀ (z : Int) (μ' : Me), Q1 z μ' → XX Γ nL V ad (vl ad μ') cs sl (pc + 3) L (.long (J z) :: st)) : XX Γ nL V ad (vl ad μ) cs sl pc L (a1 :: .ref (ad o) :: st) := by
  refine x_callVG (As := [a1]) (mc2 := 0) (ms2 := 0) F dd hL hci ho hs rfl rfl hcat hd hmc hms hM ?_
  rintro v V' ad' ν' ⟨rfl, rfl, μ', rfl, z, rfl, hq⟩
  exact kk z μ' hq
theorem x_V1v {a1 : Value} {Q1 : Me → Prop} (F : Fx Γ cc own nL ret P d mc ms) (dd : decode cc pc = .ok (.invokevirtual idx, 3)) (hL : LkV own idx mi C 1) (hci : vwCl[ci]? = some (C, T, N)) (ho : V o) (hs : shp o = .inl ci) (hd : Nat.ble (d2 + 1) d = true) (hM : ∀ (l : Launch) (E : Ev) (A : Nat → Prop), Con l E d2 mi A V ad μ (.ref (ad o) :: [a1]) (pv Q1)) (hcat : Nat.ble ((st.map fun v => v.category).sum) 8 = true) (hmc : Nat.ble cs mc = true) (hms : Nat.ble sl ms = true) (kk : ∀ (μ' : Me), Q1 μ' → XX Γ nL V ad (vl ad μ') cs sl (pc + 3) L st) : XX Γ nL V ad (vl ad μ) cs sl pc L (a1 :: .ref (ad o) :: st) := by
  refine x_callVG (As := [a1]) (mc2 := 0) (ms2 := 0) F dd hL hci ho hs rfl rfl hcat hd hmc hms hM ?_
  rintro v V' ad' ν' ⟨rfl, rfl, μ', rfl, rfl, hq⟩
  exact kk μ' hq
theorem x_V1r {a1 : Value} {Q1 : Nat → Me → Prop} (F : Fx Γ cc own nL ret P d mc ms) (dd : decode cc pc = .ok (.invokevirtual idx, 3)) (hL : LkV own idx mi C 1) (hci : vwCl[ci]? = some (C, T, N)) (ho : V o) (hs : shp o = .inl ci) (hd : Nat.ble (d2 + 1) d = true) (hM : ∀ (l : Launch) (E : Ev) (A : Nat → Prop), Con l E d2 mi A V ad μ (.ref (ad o) :: [a1]) (pr Q1)) (hcat : Nat.ble ((st.map fun v => v.category).sum) 8 = true) (hmc : Nat.ble cs mc = true) (hms : Nat.ble sl ms = true) (kk : ∀ (z : Nat) (μ' : Me), Q1 z μ' → XX Γ nL V ad (vl ad μ') cs sl (pc + 3) L (.ref z :: st)) : XX Γ nL V ad (vl ad μ) cs sl pc L (a1 :: .ref (ad o) :: st) := by
  refine x_callVG (As := [a1]) (mc2 := 0) (ms2 := 0) F dd hL hci ho hs rfl rfl hcat hd hmc hms hM ?_
  rintro v V' ad' ν' ⟨rfl, rfl, μ', rfl, z, rfl, hq⟩
  exact kk z μ' hq
theorem x_V2i {a1 a2 : Value} {Q1 : Int → Me → Prop} (F : Fx Γ cc own nL ret P d mc ms) (dd : decode cc pc = .ok (.invokevirtual idx, 3)) (hL : LkV own idx mi C 2) (hci : vwCl[ci]? = some (C, T, N)) (ho : V o) (hs : shp o = .inl ci) (hd : Nat.ble (d2 + 1) d = true) (hM : ∀ (l : Launch) (E : Ev) (A : Nat → Prop), Con l E d2 mi A V ad μ (.ref (ad o) :: [a1, a2]) (pi Q1)) (hcat : Nat.ble ((st.map fun v => v.category).sum) 8 = true) (hmc : Nat.ble cs mc = true) (hms : Nat.ble sl ms = true) (kk : ∀ (z : Int) (μ' : Me), Q1 z μ' → XX Γ nL V ad (vl ad μ') cs sl (pc + 3) L (.int (I z) :: st)) : XX Γ nL V ad (vl ad μ) cs sl pc L (a2 :: a1 :: .ref (ad o) :: st) := by
  refine x_callVG (As := [a1, a2]) (mc2 := 0) (ms2 := 0) F dd hL hci ho hs rfl rfl hcat hd hmc hms hM ?_
  rintro v V' ad' ν' ⟨rfl, rfl, μ', rfl, z, rfl, hq⟩
  exact kk z μ' hq
theorem x_V2z {a1 a2 : Value} {Q1 : Bool → Me → Prop} (F : Fx Γ cc own nL ret P d mc ms) (dd : decode cc pc = .ok (.invokevirtual idx, 3)) (hL : LkV own idx mi C 2) (hci : vwCl[ci]? = some (C, T, N)) (ho : V o) (hs : shp o = .inl ci) (hd : Nat.ble (d2 + 1) d = true) (hM : ∀ (l : Launch) (E : Ev) (A : Nat → Prop), Con l E d2 mi A V ad μ (.ref (ad o) :: [a1, a2]) (pz Q1)) (hcat : Nat.ble ((st.map fun v => v.category).sum) 8 = true) (hmc : Nat.ble cs mc = true) (hms : Nat.ble sl ms = true) (kk : ∀ (z : Bool) (μ' : Me), Q1 z μ' → XX Γ nL V ad (vl ad μ') cs sl (pc + 3) L (.int (I (bI z)) :: st)) : XX Γ nL V ad (vl ad μ) cs sl pc L (a2 :: a1 :: .ref (ad o) :: st) := by
  refine x_callVG (As := [a1, a2]) (mc2 := 0) (ms2 := 0) F dd hL hci ho hs rfl rfl hcat hd hmc hms hM ?_
  rintro v V' ad' ν' ⟨rfl, rfl, μ', rfl, z, rfl, hq⟩
  exact kk z μ' hq
theorem x_V2l {a1 a2 : Value} {Q1 : Int → Me → Prop} (F : Fx Γ cc own nL ret P d mc ms) (dd : decode cc pc = .ok (.invokevirtual idx, 3)) (hL : LkV own idx mi C 2) (hci : vwCl[ci]? = some (C, T, N)) (ho : V o) (hs : shp o = .inl ci) (hd : Nat.ble (d2 + 1) d = true) (hM : ∀ (l : Launch) (E : Ev) (A : Nat → Prop), Con l E d2 mi A V ad μ (.ref (ad o) :: [a1, a2]) (pl Q1)) (hcat : Nat.ble ((st.map fun v => v.category).sum) 8 = true) (hmc : Nat.ble cs mc = true) (hms : Nat.ble sl ms = true) (kk : ∀ (z : Int) (μ' : Me), Q1 z μ' → XX Γ nL V ad (vl ad μ') cs sl (pc + 3) L (.long (J z) :: st)) : XX Γ nL V ad (vl ad μ) cs sl pc L (a2 :: a1 :: .ref (ad o) :: st) := by
  refine x_callVG (As := [a1, a2]) (mc2 := 0) (ms2 := 0) F dd hL hci ho hs rfl rfl hcat hd hmc hms hM ?_
  rintro v V' ad' ν' ⟨rfl, rfl, μ', rfl, z, rfl, hq⟩
  exact kk z μ' hq
theorem x_V2v {a1 a2 : Value} {Q1 : Me → Prop} (F : Fx Γ cc own nL ret P d mc ms) (dd : decode cc pc = .ok (.invokevirtual idx, 3)) (hL : LkV own idx mi C 2) (hci : vwCl[ci]? = some (C, T, N)) (ho : V o) (hs : shp o = .inl ci) (hd : Nat.ble (d2 + 1) d = true) (hM : ∀ (l : Launch) (E : Ev) (A : Nat → Prop), Con l E d2 mi A V ad μ (.ref (ad o) :: [a1, a2]) (pv Q1)) (hcat : Nat.ble ((st.map fun v => v.category).sum) 8 = true) (hmc : Nat.ble cs mc = true) (hms : Nat.ble sl ms = true) (kk : ∀ (μ' : Me), Q1 μ' → XX Γ nL V ad (vl ad μ') cs sl (pc + 3) L st) : XX Γ nL V ad (vl ad μ) cs sl pc L (a2 :: a1 :: .ref (ad o) :: st) := by
  refine x_callVG (As := [a1, a2]) (mc2 := 0) (ms2 := 0) F dd hL hci ho hs rfl rfl hcat hd hmc hms hM ?_
  rintro v V' ad' ν' ⟨rfl, rfl, μ', rfl, rfl, hq⟩
  exact kk μ' hq
theorem x_V2r {a1 a2 : Value} {Q1 : Nat → Me → Prop} (F : Fx Γ cc own nL ret P d mc ms) (dd : decode cc pc = .ok (.invokevirtual idx, 3)) (hL : LkV own idx mi C 2) (hci : vwCl[ci]? = some (C, T, N)) (ho : V o) (hs : shp o = .inl ci) (hd : Nat.ble (d2 + 1) d = true) (hM : ∀ (l : Launch) (E : Ev) (A : Nat → Prop), Con l E d2 mi A V ad μ (.ref (ad o) :: [a1, a2]) (pr Q1)) (hcat : Nat.ble ((st.map fun v => v.category).sum) 8 = true) (hmc : Nat.ble cs mc = true) (hms : Nat.ble sl ms = true) (kk : ∀ (z : Nat) (μ' : Me), Q1 z μ' → XX Γ nL V ad (vl ad μ') cs sl (pc + 3) L (.ref z :: st)) : XX Γ nL V ad (vl ad μ) cs sl pc L (a2 :: a1 :: .ref (ad o) :: st) := by
  refine x_callVG (As := [a1, a2]) (mc2 := 0) (ms2 := 0) F dd hL hci ho hs rfl rfl hcat hd hmc hms hM ?_
  rintro v V' ad' ν' ⟨rfl, rfl, μ', rfl, z, rfl, hq⟩
  exact kk z μ' hq
theorem x_V3i {a1 a2 a3 : Value} {Q1 : Int → Me → Prop} (F : Fx Γ cc own nL ret P d mc ms) (dd : decode cc pc = .ok (.invokevirtual idx, 3)) (hL : LkV own idx mi C 3) (hci : vwCl[ci]? = some (C, T, N)) (ho : V o) (hs : shp o = .inl ci) (hd : Nat.ble (d2 + 1) d = true) (hM : ∀ (l : Launch) (E : Ev) (A : Nat → Prop), Con l E d2 mi A V ad μ (.ref (ad o) :: [a1, a2, a3]) (pi Q1)) (hcat : Nat.ble ((st.map fun v => v.category).sum) 8 = true) (hmc : Nat.ble cs mc = true) (hms : Nat.ble sl ms = true) (kk : ∀ (z : Int) (μ' : Me), Q1 z μ' → XX Γ nL V ad (vl ad μ') cs sl (pc + 3) L (.int (I z) :: st)) : XX Γ nL V ad (vl ad μ) cs sl pc L (a3 :: a2 :: a1 :: .ref (ad o) :: st) := by
  refine x_callVG (As := [a1, a2, a3]) (mc2 := 0) (ms2 := 0) F dd hL hci ho hs rfl rfl hcat hd hmc hms hM ?_
  rintro v V' ad' ν' ⟨rfl, rfl, μ', rfl, z, rfl, hq⟩
  exact kk z μ' hq
theorem x_V3z {a1 a2 a3 : Value} {Q1 : Bool → Me → Prop} (F : Fx Γ cc own nL ret P d mc ms) (dd : decode cc pc = .ok (.invokevirtual idx, 3)) (hL : LkV own idx mi C 3) (hci : vwCl[ci]? = some (C, T, N)) (ho : V o) (hs : shp o = .inl ci) (hd : Nat.ble (d2 + 1) d = true) (hM : ∀ (l : Launch) (E : Ev) (A : Nat → Prop), Con l E d2 mi A V ad μ (.ref (ad o) :: [a1, a2, a3]) (pz Q1)) (hcat : Nat.ble ((st.map fun v => v.category).sum) 8 = true) (hmc : Nat.ble cs mc = true) (hms : Nat.ble sl ms = true) (kk : ∀ (z : Bool) (μ' : Me), Q1 z μ' → XX Γ nL V ad (vl ad μ') cs sl (pc + 3) L (.int (I (bI z)) :: st)) : XX Γ nL V ad (vl ad μ) cs sl pc L (a3 :: a2 :: a1 :: .ref (ad o) :: st) := by
  refine x_callVG (As := [a1, a2, a3]) (mc2 := 0) (ms2 := 0) F dd hL hci ho hs rfl rfl hcat hd hmc hms hM ?_
  rintro v V' ad' ν' ⟨rfl, rfl, μ', rfl, z, rfl, hq⟩
  exact kk z μ' hq
theorem x_V3l {a1 a2 a3 : Value} {Q1 : Int → Me → Prop} (F : Fx Γ cc own nL ret P d mc ms) (dd : decode cc pc = .ok (.invokevirtual idx, 3)) (hL : LkV own idx mi C 3) (hci : vwCl[ci]? = some (C, T, N)) (ho : V o) (hs : shp o = .inl ci) (hd : Nat.ble (d2 + 1) d = true) (hM : ∀ (l : Launch) (E : Ev) (A : Nat → Prop), Con l E d2 mi A V ad μ (.ref (ad o) :: [a1, a2, a3]) (pl Q1)) (hcat : Nat.ble ((st.map fun v => v.category).sum) 8 = true) (hmc : Nat.ble cs mc = true) (hms : Nat.ble sl ms = true) (kk : ∀ (z : Int) (μ' : Me), Q1 z μ' → XX Γ nL V ad (vl ad μ') cs sl (pc + 3) L (.long (J z) :: st)) : XX Γ nL V ad (vl ad μ) cs sl pc L (a3 :: a2 :: a1 :: .ref (ad o) :: st) := by
  refine x_callVG (As := [a1, a2, a3]) (mc2 := 0) (ms2 := 0) F dd hL hci ho hs rfl rfl hcat hd hmc hms hM ?_
  rintro v V' ad' ν' ⟨rfl, rfl, μ', rfl, z, rfl, hq⟩
  exact kk z μ' hq
theorem x_V3v {a1 a2 a3 : Value} {Q1 : Me → Prop} (F : Fx Γ cc own nL ret P d mc ms) (dd : decode cc pc = .ok (.invokevirtual idx, 3)) (hL : LkV own idx mi C 3) (hci : vwCl[ci]? = some (C, T, N)) (ho : V o) (hs : shp o = .inl ci) (hd : Nat.ble (d2 + 1) d = true) (hM : ∀ (l : Launch) (E : Ev) (A : Nat → Prop), Con l E d2 mi A V ad μ (.ref (ad o) :: [a1, a2, a3]) (pv Q1)) (hcat : Nat.ble ((st.map fun v => v.category).sum) 8 = true) (hmc : Nat.ble cs mc = true) (hms : Nat.ble sl ms = true) (kk : ∀ (μ' : Me), Q1 μ' → XX Γ nL V ad (vl ad μ') cs sl (pc + 3) L st) : XX Γ nL V ad (vl ad μ) cs sl pc L (a3 :: a2 :: a1 :: .ref (ad o) :: st) := by
  refine x_callVG (As := [a1, a2, a3]) (mc2 := 0) (ms2 := 0) F dd hL hci ho hs rfl rfl hcat hd hmc hms hM ?_
  rintro v V' ad' ν' ⟨rfl, rfl, μ', rfl, rfl, hq⟩
  exact kk μ' hq
theorem x_V3r {a1 a2 a3 : Value} {Q1 : Nat → Me → Prop} (F : Fx Γ cc own nL ret P d mc ms) (dd : decode cc pc = .ok (.invokevirtual idx, 3)) (hL : LkV own idx mi C 3) (hci : vwCl[ci]? = some (C, T, N)) (ho : V o) (hs : shp o = .inl ci) (hd : Nat.ble (d2 + 1) d = true) (hM : ∀ (l : Launch) (E : Ev) (A : Nat → Prop), Con l E d2 mi A V ad μ (.ref (ad o) :: [a1, a2, a3]) (pr Q1)) (hcat : Nat.ble ((st.map fun v => v.category).sum) 8 = true) (hmc : Nat.ble cs mc = true) (hms : Nat.ble sl ms = true) (kk : ∀ (z : Nat) (μ' : Me), Q1 z μ' → XX Γ nL V ad (vl ad μ') cs sl (pc + 3) L (.ref z :: st)) : XX Γ nL V ad (vl ad μ) cs sl pc L (a3 :: a2 :: a1 :: .ref (ad o) :: st) := by
  refine x_callVG (As := [a1, a2, a3]) (mc2 := 0) (ms2 := 0) F dd hL hci ho hs rfl rfl hcat hd hmc hms hM ?_
  rintro v V' ad' ν' ⟨rfl, rfl, μ', rfl, z, rfl, hq⟩
  exact kk z μ' hq
theorem x_V4i {a1 a2 a3 a4 : Value} {Q1 : Int → Me → Prop} (F : Fx Γ cc own nL ret P d mc ms) (dd : decode cc pc = .ok (.invokevirtual idx, 3)) (hL : LkV own idx mi C 4) (hci : vwCl[ci]? = some (C, T, N)) (ho : V o) (hs : shp o = .inl ci) (hd : Nat.ble (d2 + 1) d = true) (hM : ∀ (l : Launch) (E : Ev) (A : Nat → Prop), Con l E d2 mi A V ad μ (.ref (ad o) :: [a1, a2, a3, a4]) (pi Q1)) (hcat : Nat.ble ((st.map fun v => v.category).sum) 8 = true) (hmc : Nat.ble cs mc = true) (hms : Nat.ble sl ms = true) (kk : ∀ (z : Int) (μ' : Me), Q1 z μ' → XX Γ nL V ad (vl ad μ') cs sl (pc + 3) L (.int (I z) :: st)) : XX Γ nL V ad (vl ad μ) cs sl pc L (a4 :: a3 :: a2 :: a1 :: .ref (ad o) :: st) := by
  refine x_callVG (As := [a1, a2, a3, a4]) (mc2 := 0) (ms2 := 0) F dd hL hci ho hs rfl rfl hcat hd hmc hms hM ?_
  rintro v V' ad' ν' ⟨rfl, rfl, μ', rfl, z, rfl, hq⟩
  exact kk z μ' hq
theorem x_V4z {a1 a2 a3 a4 : Value} {Q1 : Bool → Me → Prop} (F : Fx Γ cc own nL ret P d mc ms) (dd : decode cc pc = .ok (.invokevirtual idx, 3)) (hL : LkV own idx mi C 4) (hci : vwCl[ci]? = some (C, T, N)) (ho : V o) (hs : shp o = .inl ci) (hd : Nat.ble (d2 + 1) d = true) (hM : ∀ (l : Launch) (E : Ev) (A : Nat → Prop), Con l E d2 mi A V ad μ (.ref (ad o) :: [a1, a2, a3, a4]) (pz Q1)) (hcat : Nat.ble ((st.map fun v => v.category).sum) 8 = true) (hmc : Nat.ble cs mc = true) (hms : Nat.ble sl ms = true) (kk : ∀ (z : Bool) (μ' : Me), Q1 z μ' → XX Γ nL V ad (vl ad μ') cs sl (pc + 3) L (.int (I (bI z)) :: st)) : XX Γ nL V ad (vl ad μ) cs sl pc L (a4 :: a3 :: a2 :: a1 :: .ref (ad o) :: st) := by
  refine x_callVG (As := [a1, a2, a3, a4]) (mc2 := 0) (ms2 := 0) F dd hL hci ho hs rfl rfl hcat hd hmc hms hM ?_
  rintro v V' ad' ν' ⟨rfl, rfl, μ', rfl, z, rfl, hq⟩
  exact kk z μ' hq
theorem x_V4l {a1 a2 a3 a4 : Value} {Q1 : Int → Me → Prop} (F : Fx Γ cc own nL ret P d mc ms) (dd : decode cc pc = .ok (.invokevirtual idx, 3)) (hL : LkV own idx mi C 4) (hci : vwCl[ci]? = some (C, T, N)) (ho : V o) (hs : shp o = .inl ci) (hd : Nat.ble (d2 + 1) d = true) (hM : ∀ (l : Launch) (E : Ev) (A : Nat → Prop), Con l E d2 mi A V ad μ (.ref (ad o) :: [a1, a2, a3, a4]) (pl Q1)) (hcat : Nat.ble ((st.map fun v => v.category).sum) 8 = true) (hmc : Nat.ble cs mc = true) (hms : Nat.ble sl ms = true) (kk : ∀ (z : Int) (μ' : Me), Q1 z μ' → XX Γ nL V ad (vl ad μ') cs sl (pc + 3) L (.long (J z) :: st)) : XX Γ nL V ad (vl ad μ) cs sl pc L (a4 :: a3 :: a2 :: a1 :: .ref (ad o) :: st) := by
  refine x_callVG (As := [a1, a2, a3, a4]) (mc2 := 0) (ms2 := 0) F dd hL hci ho hs rfl rfl hcat hd hmc hms hM ?_
  rintro v V' ad' ν' ⟨rfl, rfl, μ', rfl, z, rfl, hq⟩
  exact kk z μ' hq
theorem x_V4v {a1 a2 a3 a4 : Value} {Q1 : Me → Prop} (F : Fx Γ cc own nL ret P d mc ms) (dd : decode cc pc = .ok (.invokevirtual idx, 3)) (hL : LkV own idx mi C 4) (hci : vwCl[ci]? = some (C, T, N)) (ho : V o) (hs : shp o = .inl ci) (hd : Nat.ble (d2 + 1) d = true) (hM : ∀ (l : Launch) (E : Ev) (A : Nat → Prop), Con l E d2 mi A V ad μ (.ref (ad o) :: [a1, a2, a3, a4]) (pv Q1)) (hcat : Nat.ble ((st.map fun v => v.category).sum) 8 = true) (hmc : Nat.ble cs mc = true) (hms : Nat.ble sl ms = true) (kk : ∀ (μ' : Me), Q1 μ' → XX Γ nL V ad (vl ad μ') cs sl (pc + 3) L st) : XX Γ nL V ad (vl ad μ) cs sl pc L (a4 :: a3 :: a2 :: a1 :: .ref (ad o) :: st) := by
  refine x_callVG (As := [a1, a2, a3, a4]) (mc2 := 0) (ms2 := 0) F dd hL hci ho hs rfl rfl hcat hd hmc hms hM ?_
  rintro v V' ad' ν' ⟨rfl, rfl, μ', rfl, rfl, hq⟩
  exact kk μ' hq
theorem x_V4r {a1 a2 a3 a4 : Value} {Q1 : Nat → Me → Prop} (F : Fx Γ cc own nL ret P d mc ms) (dd : decode cc pc = .ok (.invokevirtual idx, 3)) (hL : LkV own idx mi C 4) (hci : vwCl[ci]? = some (C, T, N)) (ho : V o) (hs : shp o = .inl ci) (hd : Nat.ble (d2 + 1) d = true) (hM : ∀ (l : Launch) (E : Ev) (A : Nat → Prop), Con l E d2 mi A V ad μ (.ref (ad o) :: [a1, a2, a3, a4]) (pr Q1)) (hcat : Nat.ble ((st.map fun v => v.category).sum) 8 = true) (hmc : Nat.ble cs mc = true) (hms : Nat.ble sl ms = true) (kk : ∀ (z : Nat) (μ' : Me), Q1 z μ' → XX Γ nL V ad (vl ad μ') cs sl (pc + 3) L (.ref z :: st)) : XX Γ nL V ad (vl ad μ) cs sl pc L (a4 :: a3 :: a2 :: a1 :: .ref (ad o) :: st) := by
  refine x_callVG (As := [a1, a2, a3, a4]) (mc2 := 0) (ms2 := 0) F dd hL hci ho hs rfl rfl hcat hd hmc hms hM ?_
  rintro v V' ad' ν' ⟨rfl, rfl, μ', rfl, z, rfl, hq⟩
  exact kk z μ' hq
theorem x_V5i {a1 a2 a3 a4 a5 : Value} {Q1 : Int → Me → Prop} (F : Fx Γ cc own nL ret P d mc ms) (dd : decode cc pc = .ok (.invokevirtual idx, 3)) (hL : LkV own idx mi C 5) (hci : vwCl[ci]? = some (C, T, N)) (ho : V o) (hs : shp o = .inl ci) (hd : Nat.ble (d2 + 1) d = true) (hM : ∀ (l : Launch) (E : Ev) (A : Nat → Prop), Con l E d2 mi A V ad μ (.ref (ad o) :: [a1, a2, a3, a4, a5]) (pi Q1)) (hcat : Nat.ble ((st.map fun v => v.category).sum) 8 = true) (hmc : Nat.ble cs mc = true) (hms : Nat.ble sl ms = true) (kk : ∀ (z : Int) (μ' : Me), Q1 z μ' → XX Γ nL V ad (vl ad μ') cs sl (pc + 3) L (.int (I z) :: st)) : XX Γ nL V ad (vl ad μ) cs sl pc L (a5 :: a4 :: a3 :: a2 :: a1 :: .ref (ad o) :: st) := by
  refine x_callVG (As := [a1, a2, a3, a4, a5]) (mc2 := 0) (ms2 := 0) F dd hL hci ho hs rfl rfl hcat hd hmc hms hM ?_
  rintro v V' ad' ν' ⟨rfl, rfl, μ', rfl, z, rfl, hq⟩
  exact kk z μ' hq
theorem x_V5z {a1 a2 a3 a4 a5 : Value} {Q1 : Bool → Me → Prop} (F : Fx Γ cc own nL ret P d mc ms) (dd : decode cc pc = .ok (.invokevirtual idx, 3)) (hL : LkV own idx mi C 5) (hci : vwCl[ci]? = some (C, T, N)) (ho : V o) (hs : shp o = .inl ci) (hd : Nat.ble (d2 + 1) d = true) (hM : ∀ (l : Launch) (E : Ev) (A : Nat → Prop), Con l E d2 mi A V ad μ (.ref (ad o) :: [a1, a2, a3, a4, a5]) (pz Q1)) (hcat : Nat.ble ((st.map fun v => v.category).sum) 8 = true) (hmc : Nat.ble cs mc = true) (hms : Nat.ble sl ms = true) (kk : ∀ (z : Bool) (μ' : Me), Q1 z μ' → XX Γ nL V ad (vl ad μ') cs sl (pc + 3) L (.int (I (bI z)) :: st)) : XX Γ nL V ad (vl ad μ) cs sl pc L (a5 :: a4 :: a3 :: a2 :: a1 :: .ref (ad o) :: st) := by
  refine x_callVG (As := [a1, a2, a3, a4, a5]) (mc2 := 0) (ms2 := 0) F dd hL hci ho hs rfl rfl hcat hd hmc hms hM ?_
  rintro v V' ad' ν' ⟨rfl, rfl, μ', rfl, z, rfl, hq⟩
  exact kk z μ' hq
theorem x_V5l {a1 a2 a3 a4 a5 : Value} {Q1 : Int → Me → Prop} (F : Fx Γ cc own nL ret P d mc ms) (dd : decode cc pc = .ok (.invokevirtual idx, 3)) (hL : LkV own idx mi C 5) (hci : vwCl[ci]? = some (C, T, N)) (ho : V o) (hs : shp o = .inl ci) (hd : Nat.ble (d2 + 1) d = true) (hM : ∀ (l : Launch) (E : Ev) (A : Nat → Prop), Con l E d2 mi A V ad μ (.ref (ad o) :: [a1, a2, a3, a4, a5]) (pl Q1)) (hcat : Nat.ble ((st.map fun v => v.category).sum) 8 = true) (hmc : Nat.ble cs mc = true) (hms : Nat.ble sl ms = true) (kk : ∀ (z : Int) (μ' : Me), Q1 z μ' → XX Γ nL V ad (vl ad μ') cs sl (pc + 3) L (.long (J z) :: st)) : XX Γ nL V ad (vl ad μ) cs sl pc L (a5 :: a4 :: a3 :: a2 :: a1 :: .ref (ad o) :: st) := by
  refine x_callVG (As := [a1, a2, a3, a4, a5]) (mc2 := 0) (ms2 := 0) F dd hL hci ho hs rfl rfl hcat hd hmc hms hM ?_
  rintro v V' ad' ν' ⟨rfl, rfl, μ', rfl, z, rfl, hq⟩
  exact kk z μ' hq
theorem x_V5v {a1 a2 a3 a4 a5 : Value} {Q1 : Me → Prop} (F : Fx Γ cc own nL ret P d mc ms) (dd : decode cc pc = .ok (.invokevirtual idx, 3)) (hL : LkV own idx mi C 5) (hci : vwCl[ci]? = some (C, T, N)) (ho : V o) (hs : shp o = .inl ci) (hd : Nat.ble (d2 + 1) d = true) (hM : ∀ (l : Launch) (E : Ev) (A : Nat → Prop), Con l E d2 mi A V ad μ (.ref (ad o) :: [a1, a2, a3, a4, a5]) (pv Q1)) (hcat : Nat.ble ((st.map fun v => v.category).sum) 8 = true) (hmc : Nat.ble cs mc = true) (hms : Nat.ble sl ms = true) (kk : ∀ (μ' : Me), Q1 μ' → XX Γ nL V ad (vl ad μ') cs sl (pc + 3) L st) : XX Γ nL V ad (vl ad μ) cs sl pc L (a5 :: a4 :: a3 :: a2 :: a1 :: .ref (ad o) :: st) := by
  refine x_callVG (As := [a1, a2, a3, a4, a5]) (mc2 := 0) (ms2 := 0) F dd hL hci ho hs rfl rfl hcat hd hmc hms hM ?_
  rintro v V' ad' ν' ⟨rfl, rfl, μ', rfl, rfl, hq⟩
  exact kk μ' hq
theorem x_V5r {a1 a2 a3 a4 a5 : Value} {Q1 : Nat → Me → Prop} (F : Fx Γ cc own nL ret P d mc ms) (dd : decode cc pc = .ok (.invokevirtual idx, 3)) (hL : LkV own idx mi C 5) (hci : vwCl[ci]? = some (C, T, N)) (ho : V o) (hs : shp o = .inl ci) (hd : Nat.ble (d2 + 1) d = true) (hM : ∀ (l : Launch) (E : Ev) (A : Nat → Prop), Con l E d2 mi A V ad μ (.ref (ad o) :: [a1, a2, a3, a4, a5]) (pr Q1)) (hcat : Nat.ble ((st.map fun v => v.category).sum) 8 = true) (hmc : Nat.ble cs mc = true) (hms : Nat.ble sl ms = true) (kk : ∀ (z : Nat) (μ' : Me), Q1 z μ' → XX Γ nL V ad (vl ad μ') cs sl (pc + 3) L (.ref z :: st)) : XX Γ nL V ad (vl ad μ) cs sl pc L (a5 :: a4 :: a3 :: a2 :: a1 :: .ref (ad o) :: st) := by
  refine x_callVG (As := [a1, a2, a3, a4, a5]) (mc2 := 0) (ms2 := 0) F dd hL hci ho hs rfl rfl hcat hd hmc hms hM ?_
  rintro v V' ad' ν' ⟨rfl, rfl, μ', rfl, z, rfl, hq⟩
  exact kk z μ' hq
theorem x_V6i {a1 a2 a3 a4 a5 a6 : Value} {Q1 : Int → Me → Prop} (F : Fx Γ cc own nL ret P d mc ms) (dd : decode cc pc = .ok (.invokevirtual idx, 3)) (hL : LkV own idx mi C 6) (hci : vwCl[ci]? = some (C, T, N)) (ho : V o) (hs : shp o = .inl ci) (hd : Nat.ble (d2 + 1) d = true) (hM : ∀ (l : Launch) (E : Ev) (A : Nat → Prop), Con l E d2 mi A V ad μ (.ref (ad o) :: [a1, a2, a3, a4, a5, a6]) (pi Q1)) (hcat : Nat.ble ((st.map fun v => v.category).sum) 8 = true) (hmc : Nat.ble cs mc = true) (hms : Nat.ble sl ms = true) (kk : ∀ (z : Int) (μ' : Me), Q1 z μ' → XX Γ nL V ad (vl ad μ') cs sl (pc + 3) L (.int (I z) :: st)) : XX Γ nL V ad (vl ad μ) cs sl pc L (a6 :: a5 :: a4 :: a3 :: a2 :: a1 :: .ref (ad o) :: st) := by
  refine x_callVG (As := [a1, a2, a3, a4, a5, a6]) (mc2 := 0) (ms2 := 0) F dd hL hci ho hs rfl rfl hcat hd hmc hms hM ?_
  rintro v V' ad' ν' ⟨rfl, rfl, μ', rfl, z, rfl, hq⟩
  exact kk z μ' hq
theorem x_V6z {a1 a2 a3 a4 a5 a6 : Value} {Q1 : Bool → Me → Prop} (F : Fx Γ cc own nL ret P d mc ms) (dd : decode cc pc = .ok (.invokevirtual idx, 3)) (hL : LkV own idx mi C 6) (hci : vwCl[ci]? = some (C, T, N)) (ho : V o) (hs : shp o = .inl ci) (hd : Nat.ble (d2 + 1) d = true) (hM : ∀ (l : Launch) (E : Ev) (A : Nat → Prop), Con l E d2 mi A V ad μ (.ref (ad o) :: [a1, a2, a3, a4, a5, a6]) (pz Q1)) (hcat : Nat.ble ((st.map fun v => v.category).sum) 8 = true) (hmc : Nat.ble cs mc = true) (hms : Nat.ble sl ms = true) (kk : ∀ (z : Bool) (μ' : Me), Q1 z μ' → XX Γ nL V ad (vl ad μ') cs sl (pc + 3) L (.int (I (bI z)) :: st)) : XX Γ nL V ad (vl ad μ) cs sl pc L (a6 :: a5 :: a4 :: a3 :: a2 :: a1 :: .ref (ad o) :: st) := by
  refine x_callVG (As := [a1, a2, a3, a4, a5, a6]) (mc2 := 0) (ms2 := 0) F dd hL hci ho hs rfl rfl hcat hd hmc hms hM ?_
  rintro v V' ad' ν' ⟨rfl, rfl, μ', rfl, z, rfl, hq⟩
  exact kk z μ' hq
theorem x_V6l {a1 a2 a3 a4 a5 a6 : Value} {Q1 : Int → Me → Prop} (F : Fx Γ cc own nL ret P d mc ms) (dd : decode cc pc = .ok (.invokevirtual idx, 3)) (hL : LkV own idx mi C 6) (hci : vwCl[ci]? = some (C, T, N)) (ho : V o) (hs : shp o = .inl ci) (hd : Nat.ble (d2 + 1) d = true) (hM : ∀ (l : Launch) (E : Ev) (A : Nat → Prop), Con l E d2 mi A V ad μ (.ref (ad o) :: [a1, a2, a3, a4, a5, a6]) (pl Q1)) (hcat : Nat.ble ((st.map fun v => v.category).sum) 8 = true) (hmc : Nat.ble cs mc = true) (hms : Nat.ble sl ms = true) (kk : ∀ (z : Int) (μ' : Me), Q1 z μ' → XX Γ nL V ad (vl ad μ') cs sl (pc + 3) L (.long (J z) :: st)) : XX Γ nL V ad (vl ad μ) cs sl pc L (a6 :: a5 :: a4 :: a3 :: a2 :: a1 :: .ref (ad o) :: st) := by
  refine x_callVG (As := [a1, a2, a3, a4, a5, a6]) (mc2 := 0) (ms2 := 0) F dd hL hci ho hs rfl rfl hcat hd hmc hms hM ?_
  rintro v V' ad' ν' ⟨rfl, rfl, μ', rfl, z, rfl, hq⟩
  exact kk z μ' hq
theorem x_V6v {a1 a2 a3 a4 a5 a6 : Value} {Q1 : Me → Prop} (F : Fx Γ cc own nL ret P d mc ms) (dd : decode cc pc = .ok (.invokevirtual idx, 3)) (hL : LkV own idx mi C 6) (hci : vwCl[ci]? = some (C, T, N)) (ho : V o) (hs : shp o = .inl ci) (hd : Nat.ble (d2 + 1) d = true) (hM : ∀ (l : Launch) (E : Ev) (A : Nat → Prop), Con l E d2 mi A V ad μ (.ref (ad o) :: [a1, a2, a3, a4, a5, a6]) (pv Q1)) (hcat : Nat.ble ((st.map fun v => v.category).sum) 8 = true) (hmc : Nat.ble cs mc = true) (hms : Nat.ble sl ms = true) (kk : ∀ (μ' : Me), Q1 μ' → XX Γ nL V ad (vl ad μ') cs sl (pc + 3) L st) : XX Γ nL V ad (vl ad μ) cs sl pc L (a6 :: a5 :: a4 :: a3 :: a2 :: a1 :: .ref (ad o) :: st) := by
  refine x_callVG (As := [a1, a2, a3, a4, a5, a6]) (mc2 := 0) (ms2 := 0) F dd hL hci ho hs rfl rfl hcat hd hmc hms hM ?_
  rintro v V' ad' ν' ⟨rfl, rfl, μ', rfl, rfl, hq⟩
  exact kk μ' hq
theorem x_V6r {a1 a2 a3 a4 a5 a6 : Value} {Q1 : Nat → Me → Prop} (F : Fx Γ cc own nL ret P d mc ms) (dd : decode cc pc = .ok (.invokevirtual idx, 3)) (hL : LkV own idx mi C 6) (hci : vwCl[ci]? = some (C, T, N)) (ho : V o) (hs : shp o = .inl ci) (hd : Nat.ble (d2 + 1) d = true) (hM : ∀ (l : Launch) (E : Ev) (A : Nat → Prop), Con l E d2 mi A V ad μ (.ref (ad o) :: [a1, a2, a3, a4, a5, a6]) (pr Q1)) (hcat : Nat.ble ((st.map fun v => v.category).sum) 8 = true) (hmc : Nat.ble cs mc = true) (hms : Nat.ble sl ms = true) (kk : ∀ (z : Nat) (μ' : Me), Q1 z μ' → XX Γ nL V ad (vl ad μ') cs sl (pc + 3) L (.ref z :: st)) : XX Γ nL V ad (vl ad μ) cs sl pc L (a6 :: a5 :: a4 :: a3 :: a2 :: a1 :: .ref (ad o) :: st) := by
  refine x_callVG (As := [a1, a2, a3, a4, a5, a6]) (mc2 := 0) (ms2 := 0) F dd hL hci ho hs rfl rfl hcat hd hmc hms hM ?_
  rintro v V' ad' ν' ⟨rfl, rfl, μ', rfl, z, rfl, hq⟩
  exact kk z μ' hq
theorem x_S0i {Q1 : Int → Me → Prop} (F : Fx Γ cc own nL ret P d mc ms) (dd : decode cc pc = .ok (.invokestatic idx, 3)) (hL : LkS own idx mi 0) (hd : Nat.ble (d2 + 1) d = true) (hM : ∀ (l : Launch) (E : Ev) (A : Nat → Prop), Con l E d2 mi A V ad μ [] (pi Q1)) (hcat : Nat.ble ((st.map fun v => v.category).sum) 8 = true) (hmc : Nat.ble cs mc = true) (hms : Nat.ble sl ms = true) (kk : ∀ (z : Int) (μ' : Me), Q1 z μ' → XX Γ nL V ad (vl ad μ') cs sl (pc + 3) L (.int (I z) :: st)) : XX Γ nL V ad (vl ad μ) cs sl pc L (st) := by
  refine x_callSG (As := []) (mc2 := 0) (ms2 := 0) F dd hL rfl rfl hcat hd hmc hms hM ?_
  rintro v V' ad' ν' ⟨rfl, rfl, μ', rfl, z, rfl, hq⟩
  exact kk z μ' hq
theorem x_S0z {Q1 : Bool → Me → Prop} (F : Fx Γ cc own nL ret P d mc ms) (dd : decode cc pc = .ok (.invokestatic idx, 3)) (hL : LkS own idx mi 0) (hd : Nat.ble (d2 + 1) d = true) (hM : ∀ (l : Launch) (E : Ev) (A : Nat → Prop), Con l E d2 mi A V ad μ [] (pz Q1)) (hcat : Nat.ble ((st.map fun v => v.category).sum) 8 = true) (hmc : Nat.ble cs mc = true) (hms : Nat.ble sl ms = true) (kk : ∀ (z : Bool) (μ' : Me), Q1 z μ' → XX Γ nL V ad (vl ad μ') cs sl (pc + 3) L (.int (I (bI z)) :: st)) : XX Γ nL V ad (vl ad μ) cs sl pc L (st) := by
  refine x_callSG (As := []) (mc2 := 0) (ms2 := 0) F dd hL rfl rfl hcat hd hmc hms hM ?_
  rintro v V' ad' ν' ⟨rfl, rfl, μ', rfl, z, rfl, hq⟩
  exact kk z μ' hq
theorem x_S0l {Q1 : Int → Me → Prop} (F : Fx Γ cc own nL ret P d mc ms) (dd : decode cc pc = .ok (.invokestatic idx, 3)) (hL : LkS own idx mi 0) (hd : Nat.ble (d2 + 1) d = true) (hM : ∀ (l : Launch) (E : Ev) (A : Nat → Prop), Con l E d2 mi A V ad μ [] (pl Q1)) (hcat : Nat.ble ((st.map fun v => v.category).sum) 8 = true) (hmc : Nat.ble cs mc = true) (hms : Nat.ble sl ms = true) (kk : ∀ (z : Int) (μ' : Me), Q1 z μ' → XX Γ nL V ad (vl ad μ') cs sl (pc + 3) L (.long (J z) :: st)) : XX Γ nL V ad (vl ad μ) cs sl pc L (st) := by
  refine x_callSG (As := []) (mc2 := 0) (ms2 := 0) F dd hL rfl rfl hcat hd hmc hms hM ?_
  rintro v V' ad' ν' ⟨rfl, rfl, μ', rfl, z, rfl, hq⟩
  exact kk z μ' hq
theorem x_S0v {Q1 : Me → Prop} (F : Fx Γ cc own nL ret P d mc ms) (dd : decode cc pc = .ok (.invokestatic idx, 3)) (hL : LkS own idx mi 0) (hd : Nat.ble (d2 + 1) d = true) (hM : ∀ (l : Launch) (E : Ev) (A : Nat → Prop), Con l E d2 mi A V ad μ [] (pv Q1)) (hcat : Nat.ble ((st.map fun v => v.category).sum) 8 = true) (hmc : Nat.ble cs mc = true) (hms : Nat.ble sl ms = true) (kk : ∀ (μ' : Me), Q1 μ' → XX Γ nL V ad (vl ad μ') cs sl (pc + 3) L st) : XX Γ nL V ad (vl ad μ) cs sl pc L (st) := by
  refine x_callSG (As := []) (mc2 := 0) (ms2 := 0) F dd hL rfl rfl hcat hd hmc hms hM ?_
  rintro v V' ad' ν' ⟨rfl, rfl, μ', rfl, rfl, hq⟩
  exact kk μ' hq
theorem x_S0r {Q1 : Nat → Me → Prop} (F : Fx Γ cc own nL ret P d mc ms) (dd : decode cc pc = .ok (.invokestatic idx, 3)) (hL : LkS own idx mi 0) (hd : Nat.ble (d2 + 1) d = true) (hM : ∀ (l : Launch) (E : Ev) (A : Nat → Prop), Con l E d2 mi A V ad μ [] (pr Q1)) (hcat : Nat.ble ((st.map fun v => v.category).sum) 8 = true) (hmc : Nat.ble cs mc = true) (hms : Nat.ble sl ms = true) (kk : ∀ (z : Nat) (μ' : Me), Q1 z μ' → XX Γ nL V ad (vl ad μ') cs sl (pc + 3) L (.ref z :: st)) : XX Γ nL V ad (vl ad μ) cs sl pc L (st) := by
  refine x_callSG (As := []) (mc2 := 0) (ms2 := 0) F dd hL rfl rfl hcat hd hmc hms hM ?_
  rintro v V' ad' ν' ⟨rfl, rfl, μ', rfl, z, rfl, hq⟩
  exact kk z μ' hq
theorem x_S1i {a1 : Value} {Q1 : Int → Me → Prop} (F : Fx Γ cc own nL ret P d mc ms) (dd : decode cc pc = .ok (.invokestatic idx, 3)) (hL : LkS own idx mi 1) (hd : Nat.ble (d2 + 1) d = true) (hM : ∀ (l : Launch) (E : Ev) (A : Nat → Prop), Con l E d2 mi A V ad μ [a1] (pi Q1)) (hcat : Nat.ble ((st.map fun v => v.category).sum) 8 = true) (hmc : Nat.ble cs mc = true) (hms : Nat.ble sl ms = true) (kk : ∀ (z : Int) (μ' : Me), Q1 z μ' → XX Γ nL V ad (vl ad μ') cs sl (pc + 3) L (.int (I z) :: st)) : XX Γ nL V ad (vl ad μ) cs sl pc L (a1 :: st) := by
  refine x_callSG (As := [a1]) (mc2 := 0) (ms2 := 0) F dd hL rfl rfl hcat hd hmc hms hM ?_
  rintro v V' ad' ν' ⟨rfl, rfl, μ', rfl, z, rfl, hq⟩
  exact kk z μ' hq
theorem x_S1z {a1 : Value} {Q1 : Bool → Me → Prop} (F : Fx Γ cc own nL ret P d mc ms) (dd : decode cc pc = .ok (.invokestatic idx, 3)) (hL : LkS own idx mi 1) (hd : Nat.ble (d2 + 1) d = true) (hM : ∀ (l : Launch) (E : Ev) (A : Nat → Prop), Con l E d2 mi A V ad μ [a1] (pz Q1)) (hcat : Nat.ble ((st.map fun v => v.category).sum) 8 = true) (hmc : Nat.ble cs mc = true) (hms : Nat.ble sl ms = true) (kk : ∀ (z : Bool) (μ' : Me), Q1 z μ' → XX Γ nL V ad (vl ad μ') cs sl (pc + 3) L (.int (I (bI z)) :: st)) : XX Γ nL V ad (vl ad μ) cs sl pc L (a1 :: st) := by
  refine x_callSG (As := [a1]) (mc2 := 0) (ms2 := 0) F dd hL rfl rfl hcat hd hmc hms hM ?_
  rintro v V' ad' ν' ⟨rfl, rfl, μ', rfl, z, rfl, hq⟩
  exact kk z μ' hq
theorem x_S1l {a1 : Value} {Q1 : Int → Me → Prop} (F : Fx Γ cc own nL ret P d mc ms) (dd : decode cc pc = .ok (.invokestatic idx, 3)) (hL : LkS own idx mi 1) (hd : Nat.ble (d2 + 1) d = true) (hM : ∀ (l : Launch) (E : Ev) (A : Nat → Prop), Con l E d2 mi A V ad μ [a1] (pl Q1)) (hcat : Nat.ble ((st.map fun v => v.category).sum) 8 = true) (hmc : Nat.ble cs mc = true) (hms : Nat.ble sl ms = true) (kk : ∀ (z : Int) (μ' : Me), Q1 z μ' → XX Γ nL V ad (vl ad μ') cs sl (pc + 3) L (.long (J z) :: st)) : XX Γ nL V ad (vl ad μ) cs sl pc L (a1 :: st) := by
  refine x_callSG (As := [a1]) (mc2 := 0) (ms2 := 0) F dd hL rfl rfl hcat hd hmc hms hM ?_
  rintro v V' ad' ν' ⟨rfl, rfl, μ', rfl, z, rfl, hq⟩
  exact kk z μ' hq
theorem x_S1v {a1 : Value} {Q1 : Me → Prop} (F : Fx Γ cc own nL ret P d mc ms) (dd : decode cc pc = .ok (.invokestatic idx, 3)) (hL : LkS own idx mi 1) (hd : Nat.ble (d2 + 1) d = true) (hM : ∀ (l : Launch) (E : Ev) (A : Nat → Prop), Con l E d2 mi A V ad μ [a1] (pv Q1)) (hcat : Nat.ble ((st.map fun v => v.category).sum) 8 = true) (hmc : Nat.ble cs mc = true) (hms : Nat.ble sl ms = true) (kk : ∀ (μ' : Me), Q1 μ' → XX Γ nL V ad (vl ad μ') cs sl (pc + 3) L st) : XX Γ nL V ad (vl ad μ) cs sl pc L (a1 :: st) := by
  refine x_callSG (As := [a1]) (mc2 := 0) (ms2 := 0) F dd hL rfl rfl hcat hd hmc hms hM ?_
  rintro v V' ad' ν' ⟨rfl, rfl, μ', rfl, rfl, hq⟩
  exact kk μ' hq
theorem x_S1r {a1 : Value} {Q1 : Nat → Me → Prop} (F : Fx Γ cc own nL ret P d mc ms) (dd : decode cc pc = .ok (.invokestatic idx, 3)) (hL : LkS own idx mi 1) (hd : Nat.ble (d2 + 1) d = true) (hM : ∀ (l : Launch) (E : Ev) (A : Nat → Prop), Con l E d2 mi A V ad μ [a1] (pr Q1)) (hcat : Nat.ble ((st.map fun v => v.category).sum) 8 = true) (hmc : Nat.ble cs mc = true) (hms : Nat.ble sl ms = true) (kk : ∀ (z : Nat) (μ' : Me), Q1 z μ' → XX Γ nL V ad (vl ad μ') cs sl (pc + 3) L (.ref z :: st)) : XX Γ nL V ad (vl ad μ) cs sl pc L (a1 :: st) := by
  refine x_callSG (As := [a1]) (mc2 := 0) (ms2 := 0) F dd hL rfl rfl hcat hd hmc hms hM ?_
  rintro v V' ad' ν' ⟨rfl, rfl, μ', rfl, z, rfl, hq⟩
  exact kk z μ' hq
theorem x_S2i {a1 a2 : Value} {Q1 : Int → Me → Prop} (F : Fx Γ cc own nL ret P d mc ms) (dd : decode cc pc = .ok (.invokestatic idx, 3)) (hL : LkS own idx mi 2) (hd : Nat.ble (d2 + 1) d = true) (hM : ∀ (l : Launch) (E : Ev) (A : Nat → Prop), Con l E d2 mi A V ad μ [a1, a2] (pi Q1)) (hcat : Nat.ble ((st.map fun v => v.category).sum) 8 = true) (hmc : Nat.ble cs mc = true) (hms : Nat.ble sl ms = true) (kk : ∀ (z : Int) (μ' : Me), Q1 z μ' → XX Γ nL V ad (vl ad μ') cs sl (pc + 3) L (.int (I z) :: st)) : XX Γ nL V ad (vl ad μ) cs sl pc L (a2 :: a1 :: st) := by
  refine x_callSG (As := [a1, a2]) (mc2 := 0) (ms2 := 0) F dd hL rfl rfl hcat hd hmc hms hM ?_
  rintro v V' ad' ν' ⟨rfl, rfl, μ', rfl, z, rfl, hq⟩
  exact kk z μ' hq
theorem x_N2i {host : String} {a1 a2 : Value} {Q1 : Int → Me → Prop} (F : Fx Γ cc own nL ret P d mc ms) (dd : decode cc pc = .ok (.invokestatic idx, 3)) (hL : LkSN own idx mi host 2) (hd : Nat.ble (d2 + 1) d = true) (hM : ∀ (l : Launch) (E : Ev) (A : Nat → Prop), Con l E d2 mi A V ad μ [a1, a2] (pi Q1)) (hcat : Nat.ble ((st.map fun v => v.category).sum) 8 = true) (hmc : Nat.ble cs mc = true) (hms : Nat.ble sl ms = true) (kk : ∀ (z : Int) (μ' : Me), Q1 z μ' → XX Γ nL V ad (vl ad μ') cs sl (pc + 3) L (.int (I z) :: st)) : XX Γ nL V ad (vl ad μ) cs sl pc L (a2 :: a1 :: st) := by
  refine x_callSNG (As := [a1, a2]) (mc2 := 0) (ms2 := 0) F dd hL rfl rfl hcat hd hmc hms hM ?_
  rintro v V' ad' ν' ⟨rfl, rfl, μ', rfl, z, rfl, hq⟩
  exact kk z μ' hq
theorem x_S2z {a1 a2 : Value} {Q1 : Bool → Me → Prop} (F : Fx Γ cc own nL ret P d mc ms) (dd : decode cc pc = .ok (.invokestatic idx, 3)) (hL : LkS own idx mi 2) (hd : Nat.ble (d2 + 1) d = true) (hM : ∀ (l : Launch) (E : Ev) (A : Nat → Prop), Con l E d2 mi A V ad μ [a1, a2] (pz Q1)) (hcat : Nat.ble ((st.map fun v => v.category).sum) 8 = true) (hmc : Nat.ble cs mc = true) (hms : Nat.ble sl ms = true) (kk : ∀ (z : Bool) (μ' : Me), Q1 z μ' → XX Γ nL V ad (vl ad μ') cs sl (pc + 3) L (.int (I (bI z)) :: st)) : XX Γ nL V ad (vl ad μ) cs sl pc L (a2 :: a1 :: st) := by
  refine x_callSG (As := [a1, a2]) (mc2 := 0) (ms2 := 0) F dd hL rfl rfl hcat hd hmc hms hM ?_
  rintro v V' ad' ν' ⟨rfl, rfl, μ', rfl, z, rfl, hq⟩
  exact kk z μ' hq
theorem x_N2z {host : String} {a1 a2 : Value} {Q1 : Bool → Me → Prop} (F : Fx Γ cc own nL ret P d mc ms) (dd : decode cc pc = .ok (.invokestatic idx, 3)) (hL : LkSN own idx mi host 2) (hd : Nat.ble (d2 + 1) d = true) (hM : ∀ (l : Launch) (E : Ev) (A : Nat → Prop), Con l E d2 mi A V ad μ [a1, a2] (pz Q1)) (hcat : Nat.ble ((st.map fun v => v.category).sum) 8 = true) (hmc : Nat.ble cs mc = true) (hms : Nat.ble sl ms = true) (kk : ∀ (z : Bool) (μ' : Me), Q1 z μ' → XX Γ nL V ad (vl ad μ') cs sl (pc + 3) L (.int (I (bI z)) :: st)) : XX Γ nL V ad (vl ad μ) cs sl pc L (a2 :: a1 :: st) := by
  refine x_callSNG (As := [a1, a2]) (mc2 := 0) (ms2 := 0) F dd hL rfl rfl hcat hd hmc hms hM ?_
  rintro v V' ad' ν' ⟨rfl, rfl, μ', rfl, z, rfl, hq⟩
  exact kk z μ' hq
theorem x_S2l {a1 a2 : Value} {Q1 : Int → Me → Prop} (F : Fx Γ cc own nL ret P d mc ms) (dd : decode cc pc = .ok (.invokestatic idx, 3)) (hL : LkS own idx mi 2) (hd : Nat.ble (d2 + 1) d = true) (hM : ∀ (l : Launch) (E : Ev) (A : Nat → Prop), Con l E d2 mi A V ad μ [a1, a2] (pl Q1)) (hcat : Nat.ble ((st.map fun v => v.category).sum) 8 = true) (hmc : Nat.ble cs mc = true) (hms : Nat.ble sl ms = true) (kk : ∀ (z : Int) (μ' : Me), Q1 z μ' → XX Γ nL V ad (vl ad μ') cs sl (pc + 3) L (.long (J z) :: st)) : XX Γ nL V ad (vl ad μ) cs sl pc L (a2 :: a1 :: st) := by
  refine x_callSG (As := [a1, a2]) (mc2 := 0) (ms2 := 0) F dd hL rfl rfl hcat hd hmc hms hM ?_
  rintro v V' ad' ν' ⟨rfl, rfl, μ', rfl, z, rfl, hq⟩
  exact kk z μ' hq
theorem x_N2l {host : String} {a1 a2 : Value} {Q1 : Int → Me → Prop} (F : Fx Γ cc own nL ret P d mc ms) (dd : decode cc pc = .ok (.invokestatic idx, 3)) (hL : LkSN own idx mi host 2) (hd : Nat.ble (d2 + 1) d = true) (hM : ∀ (l : Launch) (E : Ev) (A : Nat → Prop), Con l E d2 mi A V ad μ [a1, a2] (pl Q1)) (hcat : Nat.ble ((st.map fun v => v.category).sum) 8 = true) (hmc : Nat.ble cs mc = true) (hms : Nat.ble sl ms = true) (kk : ∀ (z : Int) (μ' : Me), Q1 z μ' → XX Γ nL V ad (vl ad μ') cs sl (pc + 3) L (.long (J z) :: st)) : XX Γ nL V ad (vl ad μ) cs sl pc L (a2 :: a1 :: st) := by
  refine x_callSNG (As := [a1, a2]) (mc2 := 0) (ms2 := 0) F dd hL rfl rfl hcat hd hmc hms hM ?_
  rintro v V' ad' ν' ⟨rfl, rfl, μ', rfl, z, rfl, hq⟩
  exact kk z μ' hq
theorem x_S2v {a1 a2 : Value} {Q1 : Me → Prop} (F : Fx Γ cc own nL ret P d mc ms) (dd : decode cc pc = .ok (.invokestatic idx, 3)) (hL : LkS own idx mi 2) (hd : Nat.ble (d2 + 1) d = true) (hM : ∀ (l : Launch) (E : Ev) (A : Nat → Prop), Con l E d2 mi A V ad μ [a1, a2] (pv Q1)) (hcat : Nat.ble ((st.map fun v => v.category).sum) 8 = true) (hmc : Nat.ble cs mc = true) (hms : Nat.ble sl ms = true) (kk : ∀ (μ' : Me), Q1 μ' → XX Γ nL V ad (vl ad μ') cs sl (pc + 3) L st) : XX Γ nL V ad (vl ad μ) cs sl pc L (a2 :: a1 :: st) := by
  refine x_callSG (As := [a1, a2]) (mc2 := 0) (ms2 := 0) F dd hL rfl rfl hcat hd hmc hms hM ?_
  rintro v V' ad' ν' ⟨rfl, rfl, μ', rfl, rfl, hq⟩
  exact kk μ' hq
theorem x_N2v {host : String} {a1 a2 : Value} {Q1 : Me → Prop} (F : Fx Γ cc own nL ret P d mc ms) (dd : decode cc pc = .ok (.invokestatic idx, 3)) (hL : LkSN own idx mi host 2) (hd : Nat.ble (d2 + 1) d = true) (hM : ∀ (l : Launch) (E : Ev) (A : Nat → Prop), Con l E d2 mi A V ad μ [a1, a2] (pv Q1)) (hcat : Nat.ble ((st.map fun v => v.category).sum) 8 = true) (hmc : Nat.ble cs mc = true) (hms : Nat.ble sl ms = true) (kk : ∀ (μ' : Me), Q1 μ' → XX Γ nL V ad (vl ad μ') cs sl (pc + 3) L st) : XX Γ nL V ad (vl ad μ) cs sl pc L (a2 :: a1 :: st) := by
  refine x_callSNG (As := [a1, a2]) (mc2 := 0) (ms2 := 0) F dd hL rfl rfl hcat hd hmc hms hM ?_
  rintro v V' ad' ν' ⟨rfl, rfl, μ', rfl, rfl, hq⟩
  exact kk μ' hq
theorem x_S2r {a1 a2 : Value} {Q1 : Nat → Me → Prop} (F : Fx Γ cc own nL ret P d mc ms) (dd : decode cc pc = .ok (.invokestatic idx, 3)) (hL : LkS own idx mi 2) (hd : Nat.ble (d2 + 1) d = true) (hM : ∀ (l : Launch) (E : Ev) (A : Nat → Prop), Con l E d2 mi A V ad μ [a1, a2] (pr Q1)) (hcat : Nat.ble ((st.map fun v => v.category).sum) 8 = true) (hmc : Nat.ble cs mc = true) (hms : Nat.ble sl ms = true) (kk : ∀ (z : Nat) (μ' : Me), Q1 z μ' → XX Γ nL V ad (vl ad μ') cs sl (pc + 3) L (.ref z :: st)) : XX Γ nL V ad (vl ad μ) cs sl pc L (a2 :: a1 :: st) := by
  refine x_callSG (As := [a1, a2]) (mc2 := 0) (ms2 := 0) F dd hL rfl rfl hcat hd hmc hms hM ?_
  rintro v V' ad' ν' ⟨rfl, rfl, μ', rfl, z, rfl, hq⟩
  exact kk z μ' hq
theorem x_N2r {host : String} {a1 a2 : Value} {Q1 : Nat → Me → Prop} (F : Fx Γ cc own nL ret P d mc ms) (dd : decode cc pc = .ok (.invokestatic idx, 3)) (hL : LkSN own idx mi host 2) (hd : Nat.ble (d2 + 1) d = true) (hM : ∀ (l : Launch) (E : Ev) (A : Nat → Prop), Con l E d2 mi A V ad μ [a1, a2] (pr Q1)) (hcat : Nat.ble ((st.map fun v => v.category).sum) 8 = true) (hmc : Nat.ble cs mc = true) (hms : Nat.ble sl ms = true) (kk : ∀ (z : Nat) (μ' : Me), Q1 z μ' → XX Γ nL V ad (vl ad μ') cs sl (pc + 3) L (.ref z :: st)) : XX Γ nL V ad (vl ad μ) cs sl pc L (a2 :: a1 :: st) := by
  refine x_callSNG (As := [a1, a2]) (mc2 := 0) (ms2 := 0) F dd hL rfl rfl hcat hd hmc hms hM ?_
  rintro v V' ad' ν' ⟨rfl, rfl, μ', rfl, z, rfl, hq⟩
  exact kk z μ' hq
theorem x_S3i {a1 a2 a3 : Value} {Q1 : Int → Me → Prop} (F : Fx Γ cc own nL ret P d mc ms) (dd : decode cc pc = .ok (.invokestatic idx, 3)) (hL : LkS own idx mi 3) (hd : Nat.ble (d2 + 1) d = true) (hM : ∀ (l : Launch) (E : Ev) (A : Nat → Prop), Con l E d2 mi A V ad μ [a1, a2, a3] (pi Q1)) (hcat : Nat.ble ((st.map fun v => v.category).sum) 8 = true) (hmc : Nat.ble cs mc = true) (hms : Nat.ble sl ms = true) (kk : ∀ (z : Int) (μ' : Me), Q1 z μ' → XX Γ nL V ad (vl ad μ') cs sl (pc + 3) L (.int (I z) :: st)) : XX Γ nL V ad (vl ad μ) cs sl pc L (a3 :: a2 :: a1 :: st) := by
  refine x_callSG (As := [a1, a2, a3]) (mc2 := 0) (ms2 := 0) F dd hL rfl rfl hcat hd hmc hms hM ?_
  rintro v V' ad' ν' ⟨rfl, rfl, μ', rfl, z, rfl, hq⟩
  exact kk z μ' hq
theorem x_S3z {a1 a2 a3 : Value} {Q1 : Bool → Me → Prop} (F : Fx Γ cc own nL ret P d mc ms) (dd : decode cc pc = .ok (.invokestatic idx, 3)) (hL : LkS own idx mi 3) (hd : Nat.ble (d2 + 1) d = true) (hM : ∀ (l : Launch) (E : Ev) (A : Nat → Prop), Con l E d2 mi A V ad μ [a1, a2, a3] (pz Q1)) (hcat : Nat.ble ((st.map fun v => v.category).sum) 8 = true) (hmc : Nat.ble cs mc = true) (hms : Nat.ble sl ms = true) (kk : ∀ (z : Bool) (μ' : Me), Q1 z μ' → XX Γ nL V ad (vl ad μ') cs sl (pc + 3) L (.int (I (bI z)) :: st)) : XX Γ nL V ad (vl ad μ) cs sl pc L (a3 :: a2 :: a1 :: st) := by
  refine x_callSG (As := [a1, a2, a3]) (mc2 := 0) (ms2 := 0) F dd hL rfl rfl hcat hd hmc hms hM ?_
  rintro v V' ad' ν' ⟨rfl, rfl, μ', rfl, z, rfl, hq⟩
  exact kk z μ' hq
theorem x_S3l {a1 a2 a3 : Value} {Q1 : Int → Me → Prop} (F : Fx Γ cc own nL ret P d mc ms) (dd : decode cc pc = .ok (.invokestatic idx, 3)) (hL : LkS own idx mi 3) (hd : Nat.ble (d2 + 1) d = true) (hM : ∀ (l : Launch) (E : Ev) (A : Nat → Prop), Con l E d2 mi A V ad μ [a1, a2, a3] (pl Q1)) (hcat : Nat.ble ((st.map fun v => v.category).sum) 8 = true) (hmc : Nat.ble cs mc = true) (hms : Nat.ble sl ms = true) (kk : ∀ (z : Int) (μ' : Me), Q1 z μ' → XX Γ nL V ad (vl ad μ') cs sl (pc + 3) L (.long (J z) :: st)) : XX Γ nL V ad (vl ad μ) cs sl pc L (a3 :: a2 :: a1 :: st) := by
  refine x_callSG (As := [a1, a2, a3]) (mc2 := 0) (ms2 := 0) F dd hL rfl rfl hcat hd hmc hms hM ?_
  rintro v V' ad' ν' ⟨rfl, rfl, μ', rfl, z, rfl, hq⟩
  exact kk z μ' hq
theorem x_S3v {a1 a2 a3 : Value} {Q1 : Me → Prop} (F : Fx Γ cc own nL ret P d mc ms) (dd : decode cc pc = .ok (.invokestatic idx, 3)) (hL : LkS own idx mi 3) (hd : Nat.ble (d2 + 1) d = true) (hM : ∀ (l : Launch) (E : Ev) (A : Nat → Prop), Con l E d2 mi A V ad μ [a1, a2, a3] (pv Q1)) (hcat : Nat.ble ((st.map fun v => v.category).sum) 8 = true) (hmc : Nat.ble cs mc = true) (hms : Nat.ble sl ms = true) (kk : ∀ (μ' : Me), Q1 μ' → XX Γ nL V ad (vl ad μ') cs sl (pc + 3) L st) : XX Γ nL V ad (vl ad μ) cs sl pc L (a3 :: a2 :: a1 :: st) := by
  refine x_callSG (As := [a1, a2, a3]) (mc2 := 0) (ms2 := 0) F dd hL rfl rfl hcat hd hmc hms hM ?_
  rintro v V' ad' ν' ⟨rfl, rfl, μ', rfl, rfl, hq⟩
  exact kk μ' hq
theorem x_S3r {a1 a2 a3 : Value} {Q1 : Nat → Me → Prop} (F : Fx Γ cc own nL ret P d mc ms) (dd : decode cc pc = .ok (.invokestatic idx, 3)) (hL : LkS own idx mi 3) (hd : Nat.ble (d2 + 1) d = true) (hM : ∀ (l : Launch) (E : Ev) (A : Nat → Prop), Con l E d2 mi A V ad μ [a1, a2, a3] (pr Q1)) (hcat : Nat.ble ((st.map fun v => v.category).sum) 8 = true) (hmc : Nat.ble cs mc = true) (hms : Nat.ble sl ms = true) (kk : ∀ (z : Nat) (μ' : Me), Q1 z μ' → XX Γ nL V ad (vl ad μ') cs sl (pc + 3) L (.ref z :: st)) : XX Γ nL V ad (vl ad μ) cs sl pc L (a3 :: a2 :: a1 :: st) := by
  refine x_callSG (As := [a1, a2, a3]) (mc2 := 0) (ms2 := 0) F dd hL rfl rfl hcat hd hmc hms hM ?_
  rintro v V' ad' ν' ⟨rfl, rfl, μ', rfl, z, rfl, hq⟩
  exact kk z μ' hq
theorem x_S4i {a1 a2 a3 a4 : Value} {Q1 : Int → Me → Prop} (F : Fx Γ cc own nL ret P d mc ms) (dd : decode cc pc = .ok (.invokestatic idx, 3)) (hL : LkS own idx mi 4) (hd : Nat.ble (d2 + 1) d = true) (hM : ∀ (l : Launch) (E : Ev) (A : Nat → Prop), Con l E d2 mi A V ad μ [a1, a2, a3, a4] (pi Q1)) (hcat : Nat.ble ((st.map fun v => v.category).sum) 8 = true) (hmc : Nat.ble cs mc = true) (hms : Nat.ble sl ms = true) (kk : ∀ (z : Int) (μ' : Me), Q1 z μ' → XX Γ nL V ad (vl ad μ') cs sl (pc + 3) L (.int (I z) :: st)) : XX Γ nL V ad (vl ad μ) cs sl pc L (a4 :: a3 :: a2 :: a1 :: st) := by
  refine x_callSG (As := [a1, a2, a3, a4]) (mc2 := 0) (ms2 := 0) F dd hL rfl rfl hcat hd hmc hms hM ?_
  rintro v V' ad' ν' ⟨rfl, rfl, μ', rfl, z, rfl, hq⟩
  exact kk z μ' hq
theorem x_S4z {a1 a2 a3 a4 : Value} {Q1 : Bool → Me → Prop} (F : Fx Γ cc own nL ret P d mc ms) (dd : decode cc pc = .ok (.invokestatic idx, 3)) (hL : LkS own idx mi 4) (hd : Nat.ble (d2 + 1) d = true) (hM : ∀ (l : Launch) (E : Ev) (A : Nat → Prop), Con l E d2 mi A V ad μ [a1, a2, a3, a4] (pz Q1)) (hcat : Nat.ble ((st.map fun v => v.category).sum) 8 = true) (hmc : Nat.ble cs mc = true) (hms : Nat.ble sl ms = true) (kk : ∀ (z : Bool) (μ' : Me), Q1 z μ' → XX Γ nL V ad (vl ad μ') cs sl (pc + 3) L (.int (I (bI z)) :: st)) : XX Γ nL V ad (vl ad μ) cs sl pc L (a4 :: a3 :: a2 :: a1 :: st) := by
  refine x_callSG (As := [a1, a2, a3, a4]) (mc2 := 0) (ms2 := 0) F dd hL rfl rfl hcat hd hmc hms hM ?_
  rintro v V' ad' ν' ⟨rfl, rfl, μ', rfl, z, rfl, hq⟩
  exact kk z μ' hq
theorem x_S4l {a1 a2 a3 a4 : Value} {Q1 : Int → Me → Prop} (F : Fx Γ cc own nL ret P d mc ms) (dd : decode cc pc = .ok (.invokestatic idx, 3)) (hL : LkS own idx mi 4) (hd : Nat.ble (d2 + 1) d = true) (hM : ∀ (l : Launch) (E : Ev) (A : Nat → Prop), Con l E d2 mi A V ad μ [a1, a2, a3, a4] (pl Q1)) (hcat : Nat.ble ((st.map fun v => v.category).sum) 8 = true) (hmc : Nat.ble cs mc = true) (hms : Nat.ble sl ms = true) (kk : ∀ (z : Int) (μ' : Me), Q1 z μ' → XX Γ nL V ad (vl ad μ') cs sl (pc + 3) L (.long (J z) :: st)) : XX Γ nL V ad (vl ad μ) cs sl pc L (a4 :: a3 :: a2 :: a1 :: st) := by
  refine x_callSG (As := [a1, a2, a3, a4]) (mc2 := 0) (ms2 := 0) F dd hL rfl rfl hcat hd hmc hms hM ?_
  rintro v V' ad' ν' ⟨rfl, rfl, μ', rfl, z, rfl, hq⟩
  exact kk z μ' hq
theorem x_S4v {a1 a2 a3 a4 : Value} {Q1 : Me → Prop} (F : Fx Γ cc own nL ret P d mc ms) (dd : decode cc pc = .ok (.invokestatic idx, 3)) (hL : LkS own idx mi 4) (hd : Nat.ble (d2 + 1) d = true) (hM : ∀ (l : Launch) (E : Ev) (A : Nat → Prop), Con l E d2 mi A V ad μ [a1, a2, a3, a4] (pv Q1)) (hcat : Nat.ble ((st.map fun v => v.category).sum) 8 = true) (hmc : Nat.ble cs mc = true) (hms : Nat.ble sl ms = true) (kk : ∀ (μ' : Me), Q1 μ' → XX Γ nL V ad (vl ad μ') cs sl (pc + 3) L st) : XX Γ nL V ad (vl ad μ) cs sl pc L (a4 :: a3 :: a2 :: a1 :: st) := by
  refine x_callSG (As := [a1, a2, a3, a4]) (mc2 := 0) (ms2 := 0) F dd hL rfl rfl hcat hd hmc hms hM ?_
  rintro v V' ad' ν' ⟨rfl, rfl, μ', rfl, rfl, hq⟩
  exact kk μ' hq
theorem x_S4r {a1 a2 a3 a4 : Value} {Q1 : Nat → Me → Prop} (F : Fx Γ cc own nL ret P d mc ms) (dd : decode cc pc = .ok (.invokestatic idx, 3)) (hL : LkS own idx mi 4) (hd : Nat.ble (d2 + 1) d = true) (hM : ∀ (l : Launch) (E : Ev) (A : Nat → Prop), Con l E d2 mi A V ad μ [a1, a2, a3, a4] (pr Q1)) (hcat : Nat.ble ((st.map fun v => v.category).sum) 8 = true) (hmc : Nat.ble cs mc = true) (hms : Nat.ble sl ms = true) (kk : ∀ (z : Nat) (μ' : Me), Q1 z μ' → XX Γ nL V ad (vl ad μ') cs sl (pc + 3) L (.ref z :: st)) : XX Γ nL V ad (vl ad μ) cs sl pc L (a4 :: a3 :: a2 :: a1 :: st) := by
  refine x_callSG (As := [a1, a2, a3, a4]) (mc2 := 0) (ms2 := 0) F dd hL rfl rfl hcat hd hmc hms hM ?_
  rintro v V' ad' ν' ⟨rfl, rfl, μ', rfl, z, rfl, hq⟩
  exact kk z μ' hq
theorem x_S5i {a1 a2 a3 a4 a5 : Value} {Q1 : Int → Me → Prop} (F : Fx Γ cc own nL ret P d mc ms) (dd : decode cc pc = .ok (.invokestatic idx, 3)) (hL : LkS own idx mi 5) (hd : Nat.ble (d2 + 1) d = true) (hM : ∀ (l : Launch) (E : Ev) (A : Nat → Prop), Con l E d2 mi A V ad μ [a1, a2, a3, a4, a5] (pi Q1)) (hcat : Nat.ble ((st.map fun v => v.category).sum) 8 = true) (hmc : Nat.ble cs mc = true) (hms : Nat.ble sl ms = true) (kk : ∀ (z : Int) (μ' : Me), Q1 z μ' → XX Γ nL V ad (vl ad μ') cs sl (pc + 3) L (.int (I z) :: st)) : XX Γ nL V ad (vl ad μ) cs sl pc L (a5 :: a4 :: a3 :: a2 :: a1 :: st) := by
  refine x_callSG (As := [a1, a2, a3, a4, a5]) (mc2 := 0) (ms2 := 0) F dd hL rfl rfl hcat hd hmc hms hM ?_
  rintro v V' ad' ν' ⟨rfl, rfl, μ', rfl, z, rfl, hq⟩
  exact kk z μ' hq
theorem x_S5z {a1 a2 a3 a4 a5 : Value} {Q1 : Bool → Me → Prop} (F : Fx Γ cc own nL ret P d mc ms) (dd : decode cc pc = .ok (.invokestatic idx, 3)) (hL : LkS own idx mi 5) (hd : Nat.ble (d2 + 1) d = true) (hM : ∀ (l : Launch) (E : Ev) (A : Nat → Prop), Con l E d2 mi A V ad μ [a1, a2, a3, a4, a5] (pz Q1)) (hcat : Nat.ble ((st.map fun v => v.category).sum) 8 = true) (hmc : Nat.ble cs mc = true) (hms : Nat.ble sl ms = true) (kk : ∀ (z : Bool) (μ' : Me), Q1 z μ' → XX Γ nL V ad (vl ad μ') cs sl (pc + 3) L (.int (I (bI z)) :: st)) : XX Γ nL V ad (vl ad μ) cs sl pc L (a5 :: a4 :: a3 :: a2 :: a1 :: st) := by
  refine x_callSG (As := [a1, a2, a3, a4, a5]) (mc2 := 0) (ms2 := 0) F dd hL rfl rfl hcat hd hmc hms hM ?_
  rintro v V' ad' ν' ⟨rfl, rfl, μ', rfl, z, rfl, hq⟩
  exact kk z μ' hq
theorem x_S5l {a1 a2 a3 a4 a5 : Value} {Q1 : Int → Me → Prop} (F : Fx Γ cc own nL ret P d mc ms) (dd : decode cc pc = .ok (.invokestatic idx, 3)) (hL : LkS own idx mi 5) (hd : Nat.ble (d2 + 1) d = true) (hM : ∀ (l : Launch) (E : Ev) (A : Nat → Prop), Con l E d2 mi A V ad μ [a1, a2, a3, a4, a5] (pl Q1)) (hcat : Nat.ble ((st.map fun v => v.category).sum) 8 = true) (hmc : Nat.ble cs mc = true) (hms : Nat.ble sl ms = true) (kk : ∀ (z : Int) (μ' : Me), Q1 z μ' → XX Γ nL V ad (vl ad μ') cs sl (pc + 3) L (.long (J z) :: st)) : XX Γ nL V ad (vl ad μ) cs sl pc L (a5 :: a4 :: a3 :: a2 :: a1 :: st) := by
  refine x_callSG (As := [a1, a2, a3, a4, a5]) (mc2 := 0) (ms2 := 0) F dd hL rfl rfl hcat hd hmc hms hM ?_
  rintro v V' ad' ν' ⟨rfl, rfl, μ', rfl, z, rfl, hq⟩
  exact kk z μ' hq
theorem x_S5v {a1 a2 a3 a4 a5 : Value} {Q1 : Me → Prop} (F : Fx Γ cc own nL ret P d mc ms) (dd : decode cc pc = .ok (.invokestatic idx, 3)) (hL : LkS own idx mi 5) (hd : Nat.ble (d2 + 1) d = true) (hM : ∀ (l : Launch) (E : Ev) (A : Nat → Prop), Con l E d2 mi A V ad μ [a1, a2, a3, a4, a5] (pv Q1)) (hcat : Nat.ble ((st.map fun v => v.category).sum) 8 = true) (hmc : Nat.ble cs mc = true) (hms : Nat.ble sl ms = true) (kk : ∀ (μ' : Me), Q1 μ' → XX Γ nL V ad (vl ad μ') cs sl (pc + 3) L st) : XX Γ nL V ad (vl ad μ) cs sl pc L (a5 :: a4 :: a3 :: a2 :: a1 :: st) := by
  refine x_callSG (As := [a1, a2, a3, a4, a5]) (mc2 := 0) (ms2 := 0) F dd hL rfl rfl hcat hd hmc hms hM ?_
  rintro v V' ad' ν' ⟨rfl, rfl, μ', rfl, rfl, hq⟩
  exact kk μ' hq
theorem x_S5r {a1 a2 a3 a4 a5 : Value} {Q1 : Nat → Me → Prop} (F : Fx Γ cc own nL ret P d mc ms) (dd : decode cc pc = .ok (.invokestatic idx, 3)) (hL : LkS own idx mi 5) (hd : Nat.ble (d2 + 1) d = true) (hM : ∀ (l : Launch) (E : Ev) (A : Nat → Prop), Con l E d2 mi A V ad μ [a1, a2, a3, a4, a5] (pr Q1)) (hcat : Nat.ble ((st.map fun v => v.category).sum) 8 = true) (hmc : Nat.ble cs mc = true) (hms : Nat.ble sl ms = true) (kk : ∀ (z : Nat) (μ' : Me), Q1 z μ' → XX Γ nL V ad (vl ad μ') cs sl (pc + 3) L (.ref z :: st)) : XX Γ nL V ad (vl ad μ) cs sl pc L (a5 :: a4 :: a3 :: a2 :: a1 :: st) := by
  refine x_callSG (As := [a1, a2, a3, a4, a5]) (mc2 := 0) (ms2 := 0) F dd hL rfl rfl hcat hd hmc hms hM ?_
  rintro v V' ad' ν' ⟨rfl, rfl, μ', rfl, z, rfl, hq⟩
  exact kk z μ' hq
theorem x_S6i {a1 a2 a3 a4 a5 a6 : Value} {Q1 : Int → Me → Prop} (F : Fx Γ cc own nL ret P d mc ms) (dd : decode cc pc = .ok (.invokestatic idx, 3)) (hL : LkS own idx mi 6) (hd : Nat.ble (d2 + 1) d = true) (hM : ∀ (l : Launch) (E : Ev) (A : Nat → Prop), Con l E d2 mi A V ad μ [a1, a2, a3, a4, a5, a6] (pi Q1)) (hcat : Nat.ble ((st.map fun v => v.category).sum) 8 = true) (hmc : Nat.ble cs mc = true) (hms : Nat.ble sl ms = true) (kk : ∀ (z : Int) (μ' : Me), Q1 z μ' → XX Γ nL V ad (vl ad μ') cs sl (pc + 3) L (.int (I z) :: st)) : XX Γ nL V ad (vl ad μ) cs sl pc L (a6 :: a5 :: a4 :: a3 :: a2 :: a1 :: st) := by
  refine x_callSG (As := [a1, a2, a3, a4, a5, a6]) (mc2 := 0) (ms2 := 0) F dd hL rfl rfl hcat hd hmc hms hM ?_
  rintro v V' ad' ν' ⟨rfl, rfl, μ', rfl, z, rfl, hq⟩
  exact kk z μ' hq
theorem x_S6z {a1 a2 a3 a4 a5 a6 : Value} {Q1 : Bool → Me → Prop} (F : Fx Γ cc own nL ret P d mc ms) (dd : decode cc pc = .ok (.invokestatic idx, 3)) (hL : LkS own idx mi 6) (hd : Nat.ble (d2 + 1) d = true) (hM : ∀ (l : Launch) (E : Ev) (A : Nat → Prop), Con l E d2 mi A V ad μ [a1, a2, a3, a4, a5, a6] (pz Q1)) (hcat : Nat.ble ((st.map fun v => v.category).sum) 8 = true) (hmc : Nat.ble cs mc = true) (hms : Nat.ble sl ms = true) (kk : ∀ (z : Bool) (μ' : Me), Q1 z μ' → XX Γ nL V ad (vl ad μ') cs sl (pc + 3) L (.int (I (bI z)) :: st)) : XX Γ nL V ad (vl ad μ) cs sl pc L (a6 :: a5 :: a4 :: a3 :: a2 :: a1 :: st) := by
  refine x_callSG (As := [a1, a2, a3, a4, a5, a6]) (mc2 := 0) (ms2 := 0) F dd hL rfl rfl hcat hd hmc hms hM ?_
  rintro v V' ad' ν' ⟨rfl, rfl, μ', rfl, z, rfl, hq⟩
  exact kk z μ' hq
theorem x_S6l {a1 a2 a3 a4 a5 a6 : Value} {Q1 : Int → Me → Prop} (F : Fx Γ cc own nL ret P d mc ms) (dd : decode cc pc = .ok (.invokestatic idx, 3)) (hL : LkS own idx mi 6) (hd : Nat.ble (d2 + 1) d = true) (hM : ∀ (l : Launch) (E : Ev) (A : Nat → Prop), Con l E d2 mi A V ad μ [a1, a2, a3, a4, a5, a6] (pl Q1)) (hcat : Nat.ble ((st.map fun v => v.category).sum) 8 = true) (hmc : Nat.ble cs mc = true) (hms : Nat.ble sl ms = true) (kk : ∀ (z : Int) (μ' : Me), Q1 z μ' → XX Γ nL V ad (vl ad μ') cs sl (pc + 3) L (.long (J z) :: st)) : XX Γ nL V ad (vl ad μ) cs sl pc L (a6 :: a5 :: a4 :: a3 :: a2 :: a1 :: st) := by
  refine x_callSG (As := [a1, a2, a3, a4, a5, a6]) (mc2 := 0) (ms2 := 0) F dd hL rfl rfl hcat hd hmc hms hM ?_
  rintro v V' ad' ν' ⟨rfl, rfl, μ', rfl, z, rfl, hq⟩
  exact kk z μ' hq
theorem x_S6v {a1 a2 a3 a4 a5 a6 : Value} {Q1 : Me → Prop} (F : Fx Γ cc own nL ret P d mc ms) (dd : decode cc pc = .ok (.invokestatic idx, 3)) (hL : LkS own idx mi 6) (hd : Nat.ble (d2 + 1) d = true) (hM : ∀ (l : Launch) (E : Ev) (A : Nat → Prop), Con l E d2 mi A V ad μ [a1, a2, a3, a4, a5, a6] (pv Q1)) (hcat : Nat.ble ((st.map fun v => v.category).sum) 8 = true) (hmc : Nat.ble cs mc = true) (hms : Nat.ble sl ms = true) (kk : ∀ (μ' : Me), Q1 μ' → XX Γ nL V ad (vl ad μ') cs sl (pc + 3) L st) : XX Γ nL V ad (vl ad μ) cs sl pc L (a6 :: a5 :: a4 :: a3 :: a2 :: a1 :: st) := by
  refine x_callSG (As := [a1, a2, a3, a4, a5, a6]) (mc2 := 0) (ms2 := 0) F dd hL rfl rfl hcat hd hmc hms hM ?_
  rintro v V' ad' ν' ⟨rfl, rfl, μ', rfl, rfl, hq⟩
  exact kk μ' hq
theorem x_S6r {a1 a2 a3 a4 a5 a6 : Value} {Q1 : Nat → Me → Prop} (F : Fx Γ cc own nL ret P d mc ms) (dd : decode cc pc = .ok (.invokestatic idx, 3)) (hL : LkS own idx mi 6) (hd : Nat.ble (d2 + 1) d = true) (hM : ∀ (l : Launch) (E : Ev) (A : Nat → Prop), Con l E d2 mi A V ad μ [a1, a2, a3, a4, a5, a6] (pr Q1)) (hcat : Nat.ble ((st.map fun v => v.category).sum) 8 = true) (hmc : Nat.ble cs mc = true) (hms : Nat.ble sl ms = true) (kk : ∀ (z : Nat) (μ' : Me), Q1 z μ' → XX Γ nL V ad (vl ad μ') cs sl (pc + 3) L (.ref z :: st)) : XX Γ nL V ad (vl ad μ) cs sl pc L (a6 :: a5 :: a4 :: a3 :: a2 :: a1 :: st) := by
  refine x_callSG (As := [a1, a2, a3, a4, a5, a6]) (mc2 := 0) (ms2 := 0) F dd hL rfl rfl hcat hd hmc hms hM ?_
  rintro v V' ad' ν' ⟨rfl, rfl, μ', rfl, z, rfl, hq⟩
  exact kk z μ' hq
end CALLX
end
section
/-! ===== tables: method infos, link rows, field rows ===== -/
abbrev m_X7_init : Mi := (yX7_init, cX7_init, 3, none)
abbrev m_X3_init : Mi := (yX3_init, cX3_init, 1, none)
abbrev m_X1_init : Mi := (yX1_init, cX1_init, 1, none)
abbrev m_X0_init : Mi := (yX0_init, cX0_init, 2, none)
abbrev m_X2_init : Mi := (yX2_init, cX2_init, 2, none)
abbrev m_X6_init : Mi := (yX6_init, cX6_init, 3, none)
abbrev m_X4_init : Mi := (yX4_init, cX4_init, 2, none)
abbrev m_X5_init : Mi := (yX5_init, cX5_init, 1, none)
abbrev m_X7_comer : Mi := (yX7_comer, cX7_comer, 5, (some .int))
abbrev m_X7_isIn : Mi := (yX7_isIn, cX7_isIn, 2, (some .boolean))
abbrev m_X0_begin : Mi := (yX0_begin, cX0_begin, 6, none)
abbrev m_X7_of : Mi := (yX7_of, cX7_of, 4, (some .int))
abbrev m_X7_isComer : Mi := (yX7_isComer, cX7_isComer, 2, (some .boolean))
abbrev m_X6_letsBy : Mi := (yX6_letsBy, cX6_letsBy, 3, (some .boolean))
abbrev m_X6_marksNeeded : Mi := (yX6_marksNeeded, cX6_marksNeeded, 5, (some .int))
abbrev m_X2_bonus : Mi := (yX2_bonus, cX2_bonus, 10, (some .int))
abbrev m_X2_valueOf : Mi := (yX2_valueOf, cX2_valueOf, 4, (some .int))
abbrev m_X2_isSo : Mi := (yX2_isSo, cX2_isSo, 3, (some .boolean))
abbrev m_X6_likeBySum : Mi := (yX6_likeBySum, cX6_likeBySum, 4, (some .int))
abbrev m_J9_min_7cf53 : Mi := (yJ9_min_7cf53, cJ9_min_7cf53, 2, (some .int))
abbrev m_X1_knowsAlike : Mi := (yX1_knowsAlike, cX1_knowsAlike, 4, (some .boolean))
abbrev m_X7_alike : Mi := (yX7_alike, cX7_alike, 2, (some .int))
abbrev m_J6_bitCount_0f7a4 : Mi := (yJ6_bitCount_0f7a4, cJ6_bitCount_0f7a4, 1, (some .int))
abbrev m_X7_nearest : Mi := (yX7_nearest, cX7_nearest, 8, (some .int))
abbrev m_X6_likeToWalk : Mi := (yX6_likeToWalk, cX6_likeToWalk, 4, (some .int))
abbrev m_X7_daysUntilOut : Mi := (yX7_daysUntilOut, cX7_daysUntilOut, 4, (some .int))
abbrev m_X6_become : Mi := (yX6_become, cX6_become, 3, none)
abbrev m_X1_become : Mi := (yX1_become, cX1_become, 2, none)
abbrev m_X0_become : Mi := (yX0_become, cX0_become, 2, none)
abbrev m_X4_become : Mi := (yX4_become, cX4_become, 2, none)
abbrev m_X6_spendDay : Mi := (yX6_spendDay, cX6_spendDay, 2, none)
abbrev m_X7_set : Mi := (yX7_set, cX7_set, 6, (some .int))
abbrev m_X7_like : Mi := (yX7_like, cX7_like, 4, (some .int))
abbrev m_X7_teach : Mi := (yX7_teach, cX7_teach, 3, (some .int))
abbrev m_X1_learn : Mi := (yX1_learn, cX1_learn, 5, (some .int))
abbrev m_X1_leastAlike : Mi := (yX1_leastAlike, cX1_leastAlike, 4, (some .int))
abbrev m_X7_forget : Mi := (yX7_forget, cX7_forget, 3, (some .int))
abbrev m_X7_row : Mi := (yX7_row, cX7_row, 6, (some .int))
abbrev m_X7_feed : Mi := (yX7_feed, cX7_feed, 2, (some .int))
abbrev m_X7_house : Mi := (yX7_house, cX7_house, 3, (some .int))
abbrev m_X3_readHouse : Mi := (yX3_readHouse, cX3_readHouse, 3, (some .boolean))
abbrev m_X2_clear : Mi := (yX2_clear, cX2_clear, 1, none)
abbrev m_X3_readClause : Mi := (yX3_readClause, cX3_readClause, 3, (some .boolean))
abbrev m_X3_readWord : Mi := (yX3_readWord, cX3_readWord, 5, (some .int))
abbrev m_X3_wordOf : Mi := (yX3_wordOf, cX3_wordOf, 1, (some (.object "java/lang/String")))
abbrev m_X3_sameSigns : Mi := (yX3_sameSigns, cX3_sameSigns, 3, (some .int))
abbrev m_J0_length_8abf5 : Mi := (yJ0_length_8abf5, cJ0_length_8abf5, 1, (some .int))
abbrev m_J0_coder_7d493 : Mi := (yJ0_coder_7d493, cJ0_coder_7d493, 1, (some .byte))
abbrev m_J0_charAt_5068e : Mi := (yJ0_charAt_5068e, cJ0_charAt_5068e, 2, (some .char))
abbrev m_J0_isLatin1_aae02 : Mi := (yJ0_isLatin1_aae02, cJ0_isLatin1_aae02, 1, (some .boolean))
abbrev m_J1_charAt_3b067 : Mi := (yJ1_charAt_3b067, cJ1_charAt_3b067, 2, (some .char))
abbrev m_J0_checkIndex_df160 : Mi := (yJ0_checkIndex_df160, cJ0_checkIndex_df160, 2, none)
abbrev m_J3_checkIndex_8e157 : Mi := (yJ3_checkIndex_8e157, cJ3_checkIndex_8e157, 3, (some .int))
abbrev m_J2_charAt_3b067 : Mi := (yJ2_charAt_3b067, cJ2_charAt_3b067, 2, (some .char))
abbrev m_J2_checkIndex_2214a : Mi := (yJ2_checkIndex_2214a, cJ2_checkIndex_2214a, 2, none)
abbrev m_J2_length_9d52b : Mi := (yJ2_length_9d52b, cJ2_length_9d52b, 1, (some .int))
abbrev m_J2_getChar_3b067 : Mi := (yJ2_getChar_3b067, cJ2_getChar_3b067, 2, (some .char))
abbrev m_J9_max_7cf53 : Mi := (yJ9_max_7cf53, cJ9_max_7cf53, 2, (some .int))
abbrev m_X3_readSign : Mi := (yX3_readSign, cX3_readSign, 2, (some .boolean))
abbrev m_X3_signAt : Mi := (yX3_signAt, cX3_signAt, 1, (some .int))
abbrev m_X3_readNumber : Mi := (yX3_readNumber, cX3_readNumber, 4, (some .int))
abbrev m_X3_readEither : Mi := (yX3_readEither, cX3_readEither, 4, (some .boolean))
abbrev m_X3_readFactor : Mi := (yX3_readFactor, cX3_readFactor, 3, (some .boolean))
abbrev m_X3_readTest : Mi := (yX3_readTest, cX3_readTest, 4, (some .boolean))
abbrev m_X3_readOneOf : Mi := (yX3_readOneOf, cX3_readOneOf, 4, (some .int))
abbrev m_X2_put : Mi := (yX2_put, cX2_put, 3, none)
abbrev m_X7_told : Mi := (yX7_told, cX7_told, 4, (some .int))
abbrev m_X7_master : Mi := (yX7_master, cX7_master, 6, (some .int))
abbrev m_X7_askNeededByComer : Mi := (yX7_askNeededByComer, cX7_askNeededByComer, 3, none)
abbrev m_X7_letByWalkAlone : Mi := (yX7_letByWalkAlone, cX7_letByWalkAlone, 4, (some .int))
abbrev m_X6_whoIsLet : Mi := (yX6_whoIsLet, cX6_whoIsLet, 3, (some .int))
abbrev m_X6_passedTogether : Mi := (yX6_passedTogether, cX6_passedTogether, 3, (some .int))
abbrev m_X7_pass : Mi := (yX7_pass, cX7_pass, 2, (some .int))
abbrev m_X6_goDays : Mi := (yX6_goDays, cX6_goDays, 4, none)
abbrev m_X7_on : Mi := (yX7_on, cX7_on, 4, (some .int))
abbrev m_X7_aheadBy : Mi := (yX7_aheadBy, cX7_aheadBy, 2, (some (.object "GatesBent$Town")))
abbrev m_X7_lessons : Mi := (yX7_lessons, cX7_lessons, 5, (some .int))
abbrev m_X7_bestLessons : Mi := (yX7_bestLessons, cX7_bestLessons, 8, (some .int))
abbrev m_X7_letByLessons : Mi := (yX7_letByLessons, cX7_letByLessons, 6, (some .int))
abbrev m_X7_pupil : Mi := (yX7_pupil, cX7_pupil, 6, (some .int))
abbrev m_X7_feign : Mi := (yX7_feign, cX7_feign, 10, (some .int))
abbrev m_X7_see : Mi := (yX7_see, cX7_see, 4, (some .int))
abbrev m_X4_clear : Mi := (yX4_clear, cX4_clear, 1, (some .int))
abbrev m_X4_add : Mi := (yX4_add, cX4_add, 4, (some .int))
abbrev m_X7_wrong : Mi := (yX7_wrong, cX7_wrong, 4, (some .int))
abbrev m_X7_can : Mi := (yX7_can, cX7_can, 4, (some .int))
abbrev m_X7_walksBySeen : Mi := (yX7_walksBySeen, cX7_walksBySeen, 6, (some .int))
abbrev m_X7_askNeededByGate : Mi := (yX7_askNeededByGate, cX7_askNeededByGate, 2, none)
abbrev m_X7_isAllSeenSo : Mi := (yX7_isAllSeenSo, cX7_isAllSeenSo, 5, (some .boolean))
abbrev m_X7_numbersBySeen : Mi := (yX7_numbersBySeen, cX7_numbersBySeen, 6, (some .int))
abbrev m_X7_odds : Mi := (yX7_odds, cX7_odds, 8, (some .long))
abbrev m_X7_lowest : Mi := (yX7_lowest, cX7_lowest, 5, (some .long))
abbrev m_X7_mean : Mi := (yX7_mean, cX7_mean, 3, (some .long))
abbrev m_X7_plan : Mi := (yX7_plan, cX7_plan, 3, (some .int))
abbrev m_X7_isInPlan : Mi := (yX7_isInPlan, cX7_isInPlan, 3, (some .boolean))
abbrev m_X7_ends : Mi := (yX7_ends, cX7_ends, 2, (some .int))
abbrev m_X6_goByPlan : Mi := (yX6_goByPlan, cX6_goByPlan, 3, none)
abbrev m_X7_book : Mi := (yX7_book, cX7_book, 3, (some .int))
abbrev m_X7_looked : Mi := (yX7_looked, cX7_looked, 3, (some .int))
abbrev m_X7_judge : Mi := (yX7_judge, cX7_judge, 5, (some .int))
abbrev m_X5_hasPlace : Mi := (yX5_hasPlace, cX5_hasPlace, 2, (some .boolean))
abbrev m_X7_image : Mi := (yX7_image, cX7_image, 1, (some .int))
abbrev m_X7_undo : Mi := (yX7_undo, cX7_undo, 1, (some .int))
abbrev m_X7_act : Mi := (yX7_act, cX7_act, 5, (some .int))
abbrev m_X7_walks : Mi := (yX7_walks, cX7_walks, 5, (some .int))
abbrev m_X7_startBody : Mi := (yX7_startBody, cX7_startBody, 2, none)
abbrev m_X7_knocks : Mi := (yX7_knocks, cX7_knocks, 6, (some .int))
abbrev m_X7_tells : Mi := (yX7_tells, cX7_tells, 6, (some .int))
abbrev m_X7_trace : Mi := (yX7_trace, cX7_trace, 2, (some .int))
abbrev m_X7_taken : Mi := (yX7_taken, cX7_taken, 6, (some .int))
abbrev m_X7_kindAbove : Mi := (yX7_kindAbove, cX7_kindAbove, 1, (some .int))
abbrev m_X7_count : Mi := (yX7_count, cX7_count, 2, (some .int))
abbrev m_X7_tape : Mi := (yX7_tape, cX7_tape, 4, (some .int))
abbrev m_X5_become : Mi := (yX5_become, cX5_become, 4, none)
abbrev m_X7_item : Mi := (yX7_item, cX7_item, 5, (some .int))
abbrev m_X5_put : Mi := (yX5_put, cX5_put, 4, none)
abbrev m_X5_cut : Mi := (yX5_cut, cX5_cut, 3, (some .long))
abbrev m_X7_read : Mi := (yX7_read, cX7_read, 3, (some .long))
abbrev m_X7_shift : Mi := (yX7_shift, cX7_shift, 8, (some .int))
abbrev m_X5_hasPlaces : Mi := (yX5_hasPlaces, cX5_hasPlaces, 3, (some .boolean))
abbrev m_X8_init : Mi := (yX8_init, cX8_init, 1, none)
abbrev m_X8_image : Mi := (yX8_image, cX8_image, 2, (some .int))
abbrev m_X8_undo : Mi := (yX8_undo, cX8_undo, 2, (some .int))
abbrev m_X8_comer : Mi := (yX8_comer, cX8_comer, 7, (some .int))
abbrev m_X8_isIn : Mi := (yX8_isIn, cX8_isIn, 3, (some .boolean))
abbrev m_X8_isGate : Mi := (yX8_isGate, cX8_isGate, 1, (some .boolean))
abbrev m_X8_change : Mi := (yX8_change, cX8_change, 5, (some .int))
abbrev m_X8_one : Mi := (yX8_one, cX8_one, 3, (some .int))
abbrev m_X8_of : Mi := (yX8_of, cX8_of, 3, (some .int))
abbrev m_X8_isComer : Mi := (yX8_isComer, cX8_isComer, 2, (some .boolean))
abbrev m_X8_out : Mi := (yX8_out, cX8_out, 4, (some .int))
abbrev m_X8_keep : Mi := (yX8_keep, cX8_keep, 3, none)
abbrev m_X8_isBy : Mi := (yX8_isBy, cX8_isBy, 2, (some .boolean))
abbrev m_X8_lets : Mi := (yX8_lets, cX8_lets, 6, (some .boolean))
abbrev m_X8_helps : Mi := (yX8_helps, cX8_helps, 3, (some .int))
abbrev m_X8_readFor : Mi := (yX8_readFor, cX8_readFor, 5, none)
abbrev m_X8_readAll : Mi := (yX8_readAll, cX8_readAll, 2, (some .boolean))
abbrev m_X8_clause : Mi := (yX8_clause, cX8_clause, 4, none)
abbrev m_X8_isAt : Mi := (yX8_isAt, cX8_isAt, 2, (some .boolean))
abbrev m_X8_takes : Mi := (yX8_takes, cX8_takes, 2, none)
abbrev m_X8_number : Mi := (yX8_number, cX8_number, 2, (some .int))
abbrev m_X8_isDigit : Mi := (yX8_isDigit, cX8_isDigit, 1, (some .boolean))
abbrev m_X8_any : Mi := (yX8_any, cX8_any, 3, (some .boolean))
abbrev m_X8_both : Mi := (yX8_both, cX8_both, 3, (some .boolean))
abbrev m_X8_factor : Mi := (yX8_factor, cX8_factor, 2, (some .boolean))
abbrev m_X8_test : Mi := (yX8_test, cX8_test, 4, (some .boolean))
abbrev m_X8_known : Mi := (yX8_known, cX8_known, 2, (some .int))
abbrev m_X8_walkAt : Mi := (yX8_walkAt, cX8_walkAt, 3, (some .int))
abbrev m_X8_likeTo : Mi := (yX8_likeTo, cX8_likeTo, 7, (some .int))
abbrev m_X8_many : Mi := (yX8_many, cX8_many, 3, (some .int))
abbrev m_X8_day : Mi := (yX8_day, cX8_day, 3, none)
abbrev m_X8_ageNow : Mi := (yX8_ageNow, cX8_ageNow, 1, (some .int))
abbrev m_X8_lay : Mi := (yX8_lay, cX8_lay, 3, none)
abbrev m_X8_nearest : Mi := (yX8_nearest, cX8_nearest, 8, (some .int))
abbrev m_X8_set : Mi := (yX8_set, cX8_set, 4, (some .int))
abbrev m_X8_like : Mi := (yX8_like, cX8_like, 4, (some .int))
abbrev m_X8_forget : Mi := (yX8_forget, cX8_forget, 3, (some .int))
abbrev m_X8_row : Mi := (yX8_row, cX8_row, 4, (some .int))
abbrev m_X8_feed : Mi := (yX8_feed, cX8_feed, 2, (some .int))
abbrev m_X8_house : Mi := (yX8_house, cX8_house, 2, (some .int))
abbrev m_X8_teach : Mi := (yX8_teach, cX8_teach, 3, (some .int))
abbrev m_X8_taught : Mi := (yX8_taught, cX8_taught, 6, (some .int))
abbrev m_X8_told : Mi := (yX8_told, cX8_told, 4, (some .int))
abbrev m_X8_needNow : Mi := (yX8_needNow, cX8_needNow, 1, (some .int))
abbrev m_X8_bys : Mi := (yX8_bys, cX8_bys, 3, (some .int))
abbrev m_X8_passes : Mi := (yX8_passes, cX8_passes, 3, (some .int))
abbrev m_X8_master : Mi := (yX8_master, cX8_master, 9, (some .int))
abbrev m_X8_pass : Mi := (yX8_pass, cX8_pass, 2, (some .int))
abbrev m_X8_days : Mi := (yX8_days, cX8_days, 3, none)
abbrev m_X8_on : Mi := (yX8_on, cX8_on, 4, (some .int))
abbrev m_X8_lessons : Mi := (yX8_lessons, cX8_lessons, 4, (some .int))
abbrev m_X8_learn : Mi := (yX8_learn, cX8_learn, 6, none)
abbrev m_X8_letsAll : Mi := (yX8_letsAll, cX8_letsAll, 4, (some .int))
abbrev m_X8_feign : Mi := (yX8_feign, cX8_feign, 12, (some .int))
abbrev m_X8_see : Mi := (yX8_see, cX8_see, 5, (some .int))
abbrev m_X8_wrong : Mi := (yX8_wrong, cX8_wrong, 2, (some .int))
abbrev m_X8_isSo : Mi := (yX8_isSo, cX8_isSo, 3, (some .boolean))
abbrev m_X8_can : Mi := (yX8_can, cX8_can, 10, (some .int))
abbrev m_X8_isAllSo : Mi := (yX8_isAllSo, cX8_isAllSo, 3, (some .boolean))
abbrev m_X8_odds : Mi := (yX8_odds, cX8_odds, 7, (some .long))
abbrev m_X8_fraction : Mi := (yX8_fraction, cX8_fraction, 11, (some .long))
abbrev m_X8_mean : Mi := (yX8_mean, cX8_mean, 4, (some .long))
abbrev m_X8_plan : Mi := (yX8_plan, cX8_plan, 4, (some .int))
abbrev m_X8_ends : Mi := (yX8_ends, cX8_ends, 5, (some .int))
abbrev m_X8_book : Mi := (yX8_book, cX8_book, 3, (some .int))
abbrev m_X8_looked : Mi := (yX8_looked, cX8_looked, 2, (some .int))
abbrev m_X8_act : Mi := (yX8_act, cX8_act, 4, (some .int))
abbrev m_X8_all : Mi := (yX8_all, cX8_all, 4, (some .int))
abbrev m_X8_byKind : Mi := (yX8_byKind, cX8_byKind, 7, (some .int))
abbrev m_X8_body : Mi := (yX8_body, cX8_body, 2, (some .int))
abbrev m_X8_trace : Mi := (yX8_trace, cX8_trace, 2, (some .int))
abbrev m_X8_taken : Mi := (yX8_taken, cX8_taken, 4, (some .int))
abbrev m_X8_count : Mi := (yX8_count, cX8_count, 2, (some .int))
abbrev m_X8_tape : Mi := (yX8_tape, cX8_tape, 5, (some .int))
abbrev m_X8_isTape : Mi := (yX8_isTape, cX8_isTape, 1, (some .boolean))
abbrev m_X8_item : Mi := (yX8_item, cX8_item, 6, (some .int))
abbrev m_X8_read : Mi := (yX8_read, cX8_read, 3, (some .long))
abbrev m_X8_shift : Mi := (yX8_shift, cX8_shift, 7, (some .int))
abbrev m_X8_judge : Mi := (yX8_judge, cX8_judge, 6, (some .int))
theorem lk_L_13 : LkV "GatesBentLaw" 13 m_X7_comer "GatesBent" 4 := ⟨kw_350, kw_351, kw_352, kw_72, kw_353, rfl, ⟨by decide +kernel, by decide +kernel⟩, by decide +kernel, rfl⟩
theorem lk_X7_83 : LkS "GatesBent" 83 m_X7_isIn 2 := ⟨kw_354, kw_355, kw_72, kw_356, ⟨by decide +kernel, by decide +kernel⟩, by decide +kernel, rfl⟩
theorem lk_X7_98 : LkV "GatesBent" 98 m_X0_begin "GatesBent$Comer" 4 := ⟨kw_357, kw_358, kw_359, kw_75, kw_360, rfl, ⟨by decide +kernel, by decide +kernel⟩, by decide +kernel, rfl⟩
theorem lk_L_18 : LkV "GatesBentLaw" 18 m_X7_of "GatesBent" 2 := ⟨kw_361, kw_362, kw_363, kw_72, kw_364, rfl, ⟨by decide +kernel, by decide +kernel⟩, by decide +kernel, rfl⟩
theorem lk_X7_102 : LkV "GatesBent" 102 m_X7_isComer "GatesBent" 1 := ⟨kw_365, kw_367, kw_0, kw_72, kw_368, rfl, ⟨by decide +kernel, by decide +kernel⟩, by decide +kernel, rfl⟩
theorem lk_X7_106 : LkV "GatesBent" 106 m_X6_letsBy "GatesBent$Town" 2 := ⟨kw_369, kw_370, kw_371, kw_77, kw_372, rfl, ⟨by decide +kernel, by decide +kernel⟩, by decide +kernel, rfl⟩
theorem lk_X6_101 : LkV "GatesBent$Town" 101 m_X6_marksNeeded "GatesBent$Town" 2 := ⟨kw_373, kw_374, kw_375, kw_77, kw_376, rfl, ⟨by decide +kernel, by decide +kernel⟩, by decide +kernel, rfl⟩
theorem lk_X6_68 : LkV "GatesBent$Town" 68 m_X2_bonus "GatesBent$House" 3 := ⟨kw_377, kw_378, kw_379, kw_76, kw_380, rfl, ⟨by decide +kernel, by decide +kernel⟩, by decide +kernel, rfl⟩
theorem lk_X2_28 : LkS "GatesBent$House" 28 m_X2_valueOf 4 := ⟨kw_381, kw_382, kw_76, kw_383, ⟨by decide +kernel, by decide +kernel⟩, by decide +kernel, rfl⟩
theorem lk_X2_32 : LkS "GatesBent$House" 32 m_X2_isSo 3 := ⟨kw_384, kw_385, kw_76, kw_386, ⟨by decide +kernel, by decide +kernel⟩, by decide +kernel, rfl⟩
theorem lk_X6_74 : LkV "GatesBent$Town" 74 m_X6_likeBySum "GatesBent$Town" 3 := ⟨kw_387, kw_389, kw_1, kw_77, kw_390, rfl, ⟨by decide +kernel, by decide +kernel⟩, by decide +kernel, rfl⟩
theorem lk_X6_86 : LkS "GatesBent$Town" 86 m_J9_min_7cf53 2 := ⟨kw_391, kw_392, kw_81, kw_393, ⟨by decide +kernel, by decide +kernel⟩, by decide +kernel, rfl⟩
theorem lk_X6_105 : LkV "GatesBent$Town" 105 m_X1_knowsAlike "GatesBent$Gate" 2 := ⟨kw_394, kw_395, kw_396, kw_74, kw_397, rfl, ⟨by decide +kernel, by decide +kernel⟩, by decide +kernel, rfl⟩
theorem lk_X7_73 : LkS "GatesBent" 73 m_J6_bitCount_0f7a4 1 := ⟨kw_401, kw_402, kw_82, kw_403, ⟨by decide +kernel, by decide +kernel⟩, by decide +kernel, rfl⟩
theorem lk_X7_110 : LkV "GatesBent" 110 m_X7_nearest "GatesBent" 2 := ⟨kw_407, kw_409, kw_2, kw_72, kw_410, rfl, ⟨by decide +kernel, by decide +kernel⟩, by decide +kernel, rfl⟩
theorem lk_X7_145 : LkV "GatesBent" 145 m_X6_likeToWalk "GatesBent$Town" 3 := ⟨kw_411, kw_412, kw_413, kw_77, kw_414, rfl, ⟨by decide +kernel, by decide +kernel⟩, by decide +kernel, rfl⟩
theorem lk_X7_132 : LkV "GatesBent" 132 m_X7_daysUntilOut "GatesBent" 1 := ⟨kw_416, kw_418, kw_3, kw_72, kw_419, rfl, ⟨by decide +kernel, by decide +kernel⟩, by decide +kernel, rfl⟩
theorem lk_X7_87 : LkV "GatesBent" 87 m_X6_become "GatesBent$Town" 1 := ⟨kw_420, kw_421, kw_422, kw_77, kw_423, rfl, ⟨by decide +kernel, by decide +kernel⟩, by decide +kernel, rfl⟩
theorem lk_X6_44 : LkV "GatesBent$Town" 44 m_X1_become "GatesBent$Gate" 1 := ⟨kw_424, kw_425, kw_426, kw_74, kw_427, rfl, ⟨by decide +kernel, by decide +kernel⟩, by decide +kernel, rfl⟩
theorem lk_X6_48 : LkV "GatesBent$Town" 48 m_X0_become "GatesBent$Comer" 1 := ⟨kw_431, kw_432, kw_433, kw_75, kw_434, rfl, ⟨by decide +kernel, by decide +kernel⟩, by decide +kernel, rfl⟩
theorem lk_X6_51 : LkV "GatesBent$Town" 51 m_X4_become "GatesBent$Rows" 1 := ⟨kw_436, kw_437, kw_438, kw_78, kw_439, rfl, ⟨by decide +kernel, by decide +kernel⟩, by decide +kernel, rfl⟩
theorem lk_X7_149 : LkV "GatesBent" 149 m_X6_spendDay "GatesBent$Town" 1 := ⟨kw_441, kw_442, kw_443, kw_77, kw_444, rfl, ⟨by decide +kernel, by decide +kernel⟩, by decide +kernel, rfl⟩
theorem lk_X6_109 : LkV "GatesBent$Town" 109 m_X6_letsBy "GatesBent$Town" 2 := ⟨kw_445, kw_370, kw_371, kw_77, kw_372, rfl, ⟨by decide +kernel, by decide +kernel⟩, by decide +kernel, rfl⟩
theorem lk_L_23 : LkV "GatesBentLaw" 23 m_X7_set "GatesBent" 3 := ⟨kw_446, kw_447, kw_448, kw_72, kw_449, rfl, ⟨by decide +kernel, by decide +kernel⟩, by decide +kernel, rfl⟩
theorem lk_L_28 : LkV "GatesBentLaw" 28 m_X7_like "GatesBent" 3 := ⟨kw_450, kw_451, kw_452, kw_72, kw_453, rfl, ⟨by decide +kernel, by decide +kernel⟩, by decide +kernel, rfl⟩
theorem lk_L_32 : LkV "GatesBentLaw" 32 m_X7_teach "GatesBent" 2 := ⟨kw_454, kw_455, kw_456, kw_72, kw_457, rfl, ⟨by decide +kernel, by decide +kernel⟩, by decide +kernel, rfl⟩
theorem lk_X7_156 : LkV "GatesBent" 156 m_X1_learn "GatesBent$Gate" 1 := ⟨kw_458, kw_459, kw_460, kw_74, kw_461, rfl, ⟨by decide +kernel, by decide +kernel⟩, by decide +kernel, rfl⟩
theorem lk_X1_25 : LkV "GatesBent$Gate" 25 m_X1_leastAlike "GatesBent$Gate" 1 := ⟨kw_462, kw_464, kw_4, kw_74, kw_465, rfl, ⟨by decide +kernel, by decide +kernel⟩, by decide +kernel, rfl⟩
theorem lk_L_36 : LkV "GatesBentLaw" 36 m_X7_forget "GatesBent" 1 := ⟨kw_466, kw_467, kw_468, kw_72, kw_469, rfl, ⟨by decide +kernel, by decide +kernel⟩, by decide +kernel, rfl⟩
theorem lk_L_41 : LkV "GatesBentLaw" 41 m_X7_row "GatesBent" 3 := ⟨kw_470, kw_471, kw_472, kw_72, kw_473, rfl, ⟨by decide +kernel, by decide +kernel⟩, by decide +kernel, rfl⟩
theorem lk_L_45 : LkV "GatesBentLaw" 45 m_X7_feed "GatesBent" 1 := ⟨kw_474, kw_475, kw_476, kw_72, kw_477, rfl, ⟨by decide +kernel, by decide +kernel⟩, by decide +kernel, rfl⟩
theorem lk_L_49 : LkV "GatesBentLaw" 49 m_X7_house "GatesBent" 0 := ⟨kw_478, kw_479, kw_480, kw_72, kw_481, rfl, ⟨by decide +kernel, by decide +kernel⟩, by decide +kernel, rfl⟩
theorem lk_X7_172 : LkV "GatesBent" 172 m_X3_readHouse "GatesBent$Reader" 1 := ⟨kw_482, kw_483, kw_484, kw_73, kw_485, rfl, ⟨by decide +kernel, by decide +kernel⟩, by decide +kernel, rfl⟩
theorem lk_X3_19 : LkV "GatesBent$Reader" 19 m_X2_clear "GatesBent$House" 0 := ⟨kw_486, kw_487, kw_488, kw_76, kw_489, rfl, ⟨by decide +kernel, by decide +kernel⟩, by decide +kernel, rfl⟩
theorem lk_X3_28 : LkV "GatesBent$Reader" 28 m_X3_readClause "GatesBent$Reader" 0 := ⟨kw_490, kw_492, kw_5, kw_73, kw_493, rfl, ⟨by decide +kernel, by decide +kernel⟩, by decide +kernel, rfl⟩
theorem lk_X3_39 : LkV "GatesBent$Reader" 39 m_X3_readWord "GatesBent$Reader" 0 := ⟨kw_494, kw_496, kw_6, kw_73, kw_497, rfl, ⟨by decide +kernel, by decide +kernel⟩, by decide +kernel, rfl⟩
theorem lk_X3_59 : LkS "GatesBent$Reader" 59 m_X3_wordOf 1 := ⟨kw_498, kw_499, kw_73, kw_500, ⟨by decide +kernel, by decide +kernel⟩, by decide +kernel, rfl⟩
theorem lk_X3_63 : LkV "GatesBent$Reader" 63 m_X3_sameSigns "GatesBent$Reader" 1 := ⟨kw_505, kw_507, kw_7, kw_73, kw_508, rfl, ⟨by decide +kernel, by decide +kernel⟩, by decide +kernel, rfl⟩
theorem lk_X3_67 : LkV "GatesBent$Reader" 67 m_J0_length_8abf5 "java/lang/String" 0 := ⟨kw_509, kw_510, kw_511, kw_84, kw_512, rfl, ⟨by decide +kernel, by decide +kernel⟩, by decide +kernel, rfl⟩
theorem lk_J0_335 : LkV "java/lang/String" 335 m_J0_coder_7d493 "java/lang/String" 0 := ⟨kw_513, kw_514, kw_515, kw_84, kw_516, rfl, ⟨by decide +kernel, by decide +kernel⟩, by decide +kernel, rfl⟩
theorem lk_X3_83 : LkV "GatesBent$Reader" 83 m_J0_charAt_5068e "java/lang/String" 1 := ⟨kw_519, kw_520, kw_521, kw_84, kw_522, rfl, ⟨by decide +kernel, by decide +kernel⟩, by decide +kernel, rfl⟩
theorem lk_J0_492 : LkV "java/lang/String" 492 m_J0_isLatin1_aae02 "java/lang/String" 0 := ⟨kw_523, kw_524, kw_525, kw_84, kw_526, rfl, ⟨by decide +kernel, by decide +kernel⟩, by decide +kernel, rfl⟩
theorem lk_J0_495 : LkS "java/lang/String" 495 m_J1_charAt_3b067 2 := ⟨kw_527, kw_528, kw_85, kw_529, ⟨by decide +kernel, by decide +kernel⟩, by decide +kernel, rfl⟩
theorem lk_J1_9 : LkS "java/lang/StringLatin1" 9 m_J0_checkIndex_df160 2 := ⟨kw_530, kw_531, kw_84, kw_532, ⟨by decide +kernel, by decide +kernel⟩, by decide +kernel, rfl⟩
theorem lk_J0_1059 : LkS "java/lang/String" 1059 m_J3_checkIndex_8e157 3 := ⟨kw_535, kw_536, kw_86, kw_537, ⟨by decide +kernel, by decide +kernel⟩, by decide +kernel, rfl⟩
theorem lk_J0_498 : LkS "java/lang/String" 498 m_J2_charAt_3b067 2 := ⟨kw_538, kw_539, kw_87, kw_540, ⟨by decide +kernel, by decide +kernel⟩, by decide +kernel, rfl⟩
theorem lk_J2_67 : LkS "java/lang/StringUTF16" 67 m_J2_checkIndex_2214a 2 := ⟨kw_541, kw_542, kw_87, kw_543, ⟨by decide +kernel, by decide +kernel⟩, by decide +kernel, rfl⟩
theorem lk_J2_48 : LkS "java/lang/StringUTF16" 48 m_J2_length_9d52b 1 := ⟨kw_544, kw_545, kw_87, kw_546, ⟨by decide +kernel, by decide +kernel⟩, by decide +kernel, rfl⟩
theorem lk_J2_414 : LkS "java/lang/StringUTF16" 414 m_J0_checkIndex_df160 2 := ⟨kw_547, kw_531, kw_84, kw_532, ⟨by decide +kernel, by decide +kernel⟩, by decide +kernel, rfl⟩
theorem lk_J2_71 : LkS "java/lang/StringUTF16" 71 m_J2_getChar_3b067 2 := ⟨kw_548, kw_549, kw_87, kw_550, ⟨by decide +kernel, by decide +kernel⟩, by decide +kernel, rfl⟩
theorem lk_X3_71 : LkS "GatesBent$Reader" 71 m_J9_max_7cf53 2 := ⟨kw_557, kw_558, kw_81, kw_559, ⟨by decide +kernel, by decide +kernel⟩, by decide +kernel, rfl⟩
theorem lk_X3_35 : LkV "GatesBent$Reader" 35 m_X3_readSign "GatesBent$Reader" 1 := ⟨kw_560, kw_562, kw_8, kw_73, kw_563, rfl, ⟨by decide +kernel, by decide +kernel⟩, by decide +kernel, rfl⟩
theorem lk_X3_90 : LkV "GatesBent$Reader" 90 m_X3_signAt "GatesBent$Reader" 0 := ⟨kw_564, kw_566, kw_9, kw_73, kw_567, rfl, ⟨by decide +kernel, by decide +kernel⟩, by decide +kernel, rfl⟩
theorem lk_X3_43 : LkV "GatesBent$Reader" 43 m_X3_readNumber "GatesBent$Reader" 0 := ⟨kw_568, kw_570, kw_10, kw_73, kw_571, rfl, ⟨by decide +kernel, by decide +kernel⟩, by decide +kernel, rfl⟩
theorem lk_X3_52 : LkV "GatesBent$Reader" 52 m_X3_readEither "GatesBent$Reader" 1 := ⟨kw_572, kw_574, kw_11, kw_73, kw_575, rfl, ⟨by decide +kernel, by decide +kernel⟩, by decide +kernel, rfl⟩
theorem lk_X3_87 : LkV "GatesBent$Reader" 87 m_X3_readFactor "GatesBent$Reader" 1 := ⟨kw_576, kw_578, kw_12, kw_73, kw_579, rfl, ⟨by decide +kernel, by decide +kernel⟩, by decide +kernel, rfl⟩
theorem lk_X3_93 : LkV "GatesBent$Reader" 93 m_X3_readTest "GatesBent$Reader" 0 := ⟨kw_580, kw_582, kw_13, kw_73, kw_583, rfl, ⟨by decide +kernel, by decide +kernel⟩, by decide +kernel, rfl⟩
theorem lk_X3_98 : LkV "GatesBent$Reader" 98 m_X3_readOneOf "GatesBent$Reader" 1 := ⟨kw_585, kw_587, kw_14, kw_73, kw_588, rfl, ⟨by decide +kernel, by decide +kernel⟩, by decide +kernel, rfl⟩
theorem lk_X3_55 : LkV "GatesBent$Reader" 55 m_X2_put "GatesBent$House" 2 := ⟨kw_590, kw_591, kw_592, kw_76, kw_593, rfl, ⟨by decide +kernel, by decide +kernel⟩, by decide +kernel, rfl⟩
theorem lk_L_54 : LkV "GatesBentLaw" 54 m_X7_told "GatesBent" 1 := ⟨kw_594, kw_595, kw_596, kw_72, kw_597, rfl, ⟨by decide +kernel, by decide +kernel⟩, by decide +kernel, rfl⟩
theorem lk_X7_183 : LkV "GatesBent" 183 m_X7_master "GatesBent" 1 := ⟨kw_598, kw_600, kw_15, kw_72, kw_601, rfl, ⟨by decide +kernel, by decide +kernel⟩, by decide +kernel, rfl⟩
theorem lk_X7_205 : LkV "GatesBent" 205 m_X7_askNeededByComer "GatesBent" 1 := ⟨kw_602, kw_604, kw_16, kw_72, kw_605, rfl, ⟨by decide +kernel, by decide +kernel⟩, by decide +kernel, rfl⟩
theorem lk_X7_202 : LkV "GatesBent" 202 m_X6_marksNeeded "GatesBent$Town" 2 := ⟨kw_606, kw_374, kw_375, kw_77, kw_376, rfl, ⟨by decide +kernel, by decide +kernel⟩, by decide +kernel, rfl⟩
theorem lk_X7_186 : LkV "GatesBent" 186 m_X7_letByWalkAlone "GatesBent" 1 := ⟨kw_607, kw_609, kw_17, kw_72, kw_610, rfl, ⟨by decide +kernel, by decide +kernel⟩, by decide +kernel, rfl⟩
theorem lk_X7_208 : LkS "GatesBent" 208 m_X7_alike 2 := ⟨kw_611, kw_399, kw_72, kw_400, ⟨by decide +kernel, by decide +kernel⟩, by decide +kernel, rfl⟩
theorem lk_X7_195 : LkV "GatesBent" 195 m_X6_whoIsLet "GatesBent$Town" 0 := ⟨kw_612, kw_613, kw_614, kw_77, kw_615, rfl, ⟨by decide +kernel, by decide +kernel⟩, by decide +kernel, rfl⟩
theorem lk_X7_199 : LkV "GatesBent" 199 m_X6_passedTogether "GatesBent$Town" 0 := ⟨kw_616, kw_617, kw_618, kw_77, kw_619, rfl, ⟨by decide +kernel, by decide +kernel⟩, by decide +kernel, rfl⟩
theorem lk_L_58 : LkV "GatesBentLaw" 58 m_X7_pass "GatesBent" 1 := ⟨kw_620, kw_621, kw_622, kw_72, kw_623, rfl, ⟨by decide +kernel, by decide +kernel⟩, by decide +kernel, rfl⟩
theorem lk_X7_91 : LkV "GatesBent" 91 m_X6_goDays "GatesBent$Town" 1 := ⟨kw_624, kw_625, kw_626, kw_77, kw_627, rfl, ⟨by decide +kernel, by decide +kernel⟩, by decide +kernel, rfl⟩
theorem lk_X6_116 : LkV "GatesBent$Town" 116 m_X6_spendDay "GatesBent$Town" 1 := ⟨kw_628, kw_442, kw_443, kw_77, kw_444, rfl, ⟨by decide +kernel, by decide +kernel⟩, by decide +kernel, rfl⟩
theorem lk_L_62 : LkV "GatesBentLaw" 62 m_X7_on "GatesBent" 2 := ⟨kw_629, kw_630, kw_631, kw_72, kw_632, rfl, ⟨by decide +kernel, by decide +kernel⟩, by decide +kernel, rfl⟩
theorem lk_X7_212 : LkV "GatesBent" 212 m_X7_aheadBy "GatesBent" 1 := ⟨kw_633, kw_635, kw_18, kw_72, kw_636, rfl, ⟨by decide +kernel, by decide +kernel⟩, by decide +kernel, rfl⟩
theorem lk_L_66 : LkV "GatesBentLaw" 66 m_X7_lessons "GatesBent" 3 := ⟨kw_637, kw_638, kw_639, kw_72, kw_640, rfl, ⟨by decide +kernel, by decide +kernel⟩, by decide +kernel, rfl⟩
theorem lk_X7_216 : LkV "GatesBent" 216 m_X7_bestLessons "GatesBent" 2 := ⟨kw_641, kw_643, kw_19, kw_72, kw_644, rfl, ⟨by decide +kernel, by decide +kernel⟩, by decide +kernel, rfl⟩
theorem lk_X7_219 : LkV "GatesBent" 219 m_X7_letByLessons "GatesBent" 3 := ⟨kw_645, kw_647, kw_20, kw_72, kw_648, rfl, ⟨by decide +kernel, by decide +kernel⟩, by decide +kernel, rfl⟩
theorem lk_X7_226 : LkV "GatesBent" 226 m_X1_become "GatesBent$Gate" 1 := ⟨kw_649, kw_425, kw_426, kw_74, kw_427, rfl, ⟨by decide +kernel, by decide +kernel⟩, by decide +kernel, rfl⟩
theorem lk_X7_223 : LkV "GatesBent" 223 m_X7_pupil "GatesBent" 3 := ⟨kw_650, kw_652, kw_21, kw_72, kw_653, rfl, ⟨by decide +kernel, by decide +kernel⟩, by decide +kernel, rfl⟩
theorem lk_X7_229 : LkV "GatesBent" 229 m_X1_knowsAlike "GatesBent$Gate" 2 := ⟨kw_654, kw_395, kw_396, kw_74, kw_397, rfl, ⟨by decide +kernel, by decide +kernel⟩, by decide +kernel, rfl⟩
theorem lk_L_70 : LkV "GatesBentLaw" 70 m_X7_feign "GatesBent" 3 := ⟨kw_655, kw_656, kw_657, kw_72, kw_658, rfl, ⟨by decide +kernel, by decide +kernel⟩, by decide +kernel, rfl⟩
theorem lk_L_74 : LkV "GatesBentLaw" 74 m_X7_see "GatesBent" 3 := ⟨kw_659, kw_660, kw_661, kw_72, kw_662, rfl, ⟨by decide +kernel, by decide +kernel⟩, by decide +kernel, rfl⟩
theorem lk_X7_236 : LkV "GatesBent" 236 m_X4_clear "GatesBent$Rows" 0 := ⟨kw_663, kw_664, kw_665, kw_78, kw_666, rfl, ⟨by decide +kernel, by decide +kernel⟩, by decide +kernel, rfl⟩
theorem lk_X7_241 : LkV "GatesBent" 241 m_X4_add "GatesBent$Rows" 3 := ⟨kw_667, kw_668, kw_669, kw_78, kw_670, rfl, ⟨by decide +kernel, by decide +kernel⟩, by decide +kernel, rfl⟩
theorem lk_L_79 : LkV "GatesBentLaw" 79 m_X7_wrong "GatesBent" 0 := ⟨kw_671, kw_672, kw_673, kw_72, kw_674, rfl, ⟨by decide +kernel, by decide +kernel⟩, by decide +kernel, rfl⟩
theorem lk_L_83 : LkV "GatesBentLaw" 83 m_X7_can "GatesBent" 3 := ⟨kw_675, kw_676, kw_677, kw_72, kw_678, rfl, ⟨by decide +kernel, by decide +kernel⟩, by decide +kernel, rfl⟩
theorem lk_X7_254 : LkV "GatesBent" 254 m_X7_walksBySeen "GatesBent" 2 := ⟨kw_679, kw_681, kw_22, kw_72, kw_682, rfl, ⟨by decide +kernel, by decide +kernel⟩, by decide +kernel, rfl⟩
theorem lk_X7_260 : LkV "GatesBent" 260 m_X0_become "GatesBent$Comer" 1 := ⟨kw_683, kw_432, kw_433, kw_75, kw_434, rfl, ⟨by decide +kernel, by decide +kernel⟩, by decide +kernel, rfl⟩
theorem lk_X7_262 : LkV "GatesBent" 262 m_X7_askNeededByGate "GatesBent" 0 := ⟨kw_684, kw_686, kw_23, kw_72, kw_687, rfl, ⟨by decide +kernel, by decide +kernel⟩, by decide +kernel, rfl⟩
theorem lk_X7_265 : LkV "GatesBent" 265 m_X7_isAllSeenSo "GatesBent" 0 := ⟨kw_688, kw_690, kw_24, kw_72, kw_691, rfl, ⟨by decide +kernel, by decide +kernel⟩, by decide +kernel, rfl⟩
theorem lk_X7_257 : LkV "GatesBent" 257 m_X7_numbersBySeen "GatesBent" 2 := ⟨kw_692, kw_694, kw_25, kw_72, kw_695, rfl, ⟨by decide +kernel, by decide +kernel⟩, by decide +kernel, rfl⟩
theorem lk_L_87 : LkV "GatesBentLaw" 87 m_X7_odds "GatesBent" 3 := ⟨kw_696, kw_697, kw_698, kw_72, kw_699, rfl, ⟨by decide +kernel, by decide +kernel⟩, by decide +kernel, rfl⟩
theorem lk_X7_274 : LkS "GatesBent" 274 m_X7_lowest 3 := ⟨kw_701, kw_702, kw_72, kw_703, ⟨by decide +kernel, by decide +kernel⟩, by decide +kernel, rfl⟩
theorem lk_L_92 : LkV "GatesBentLaw" 92 m_X7_mean "GatesBent" 2 := ⟨kw_704, kw_705, kw_706, kw_72, kw_707, rfl, ⟨by decide +kernel, by decide +kernel⟩, by decide +kernel, rfl⟩
theorem lk_L_97 : LkV "GatesBentLaw" 97 m_X7_plan "GatesBent" 2 := ⟨kw_708, kw_709, kw_710, kw_72, kw_711, rfl, ⟨by decide +kernel, by decide +kernel⟩, by decide +kernel, rfl⟩
theorem lk_X7_281 : LkV "GatesBent" 281 m_X7_isInPlan "GatesBent" 2 := ⟨kw_712, kw_714, kw_26, kw_72, kw_715, rfl, ⟨by decide +kernel, by decide +kernel⟩, by decide +kernel, rfl⟩
theorem lk_L_101 : LkV "GatesBentLaw" 101 m_X7_ends "GatesBent" 1 := ⟨kw_716, kw_717, kw_718, kw_72, kw_719, rfl, ⟨by decide +kernel, by decide +kernel⟩, by decide +kernel, rfl⟩
theorem lk_X7_284 : LkV "GatesBent" 284 m_X6_goByPlan "GatesBent$Town" 0 := ⟨kw_720, kw_721, kw_722, kw_77, kw_723, rfl, ⟨by decide +kernel, by decide +kernel⟩, by decide +kernel, rfl⟩
theorem lk_X6_132 : LkV "GatesBent$Town" 132 m_X6_goDays "GatesBent$Town" 1 := ⟨kw_724, kw_625, kw_626, kw_77, kw_627, rfl, ⟨by decide +kernel, by decide +kernel⟩, by decide +kernel, rfl⟩
theorem lk_X6_135 : LkV "GatesBent$Town" 135 m_X1_learn "GatesBent$Gate" 1 := ⟨kw_725, kw_459, kw_460, kw_74, kw_461, rfl, ⟨by decide +kernel, by decide +kernel⟩, by decide +kernel, rfl⟩
theorem lk_L_105 : LkV "GatesBentLaw" 105 m_X7_book "GatesBent" 2 := ⟨kw_726, kw_727, kw_728, kw_72, kw_729, rfl, ⟨by decide +kernel, by decide +kernel⟩, by decide +kernel, rfl⟩
theorem lk_L_109 : LkV "GatesBentLaw" 109 m_X7_looked "GatesBent" 0 := ⟨kw_730, kw_731, kw_732, kw_72, kw_733, rfl, ⟨by decide +kernel, by decide +kernel⟩, by decide +kernel, rfl⟩
theorem lk_L_113 : LkV "GatesBentLaw" 113 m_X7_judge "GatesBent" 2 := ⟨kw_734, kw_735, kw_736, kw_72, kw_737, rfl, ⟨by decide +kernel, by decide +kernel⟩, by decide +kernel, rfl⟩
theorem lk_X7_293 : LkV "GatesBent" 293 m_X5_hasPlace "GatesBent$Tape" 1 := ⟨kw_738, kw_739, kw_740, kw_79, kw_741, rfl, ⟨by decide +kernel, by decide +kernel⟩, by decide +kernel, rfl⟩
theorem lk_L_117 : LkV "GatesBentLaw" 117 m_X7_image "GatesBent" 0 := ⟨kw_742, kw_743, kw_744, kw_72, kw_745, rfl, ⟨by decide +kernel, by decide +kernel⟩, by decide +kernel, rfl⟩
theorem lk_L_121 : LkV "GatesBentLaw" 121 m_X7_undo "GatesBent" 0 := ⟨kw_746, kw_747, kw_748, kw_72, kw_749, rfl, ⟨by decide +kernel, by decide +kernel⟩, by decide +kernel, rfl⟩
theorem lk_L_125 : LkV "GatesBentLaw" 125 m_X7_act "GatesBent" 3 := ⟨kw_750, kw_751, kw_752, kw_72, kw_753, rfl, ⟨by decide +kernel, by decide +kernel⟩, by decide +kernel, rfl⟩
theorem lk_X7_307 : LkV "GatesBent" 307 m_X7_walks "GatesBent" 4 := ⟨kw_754, kw_756, kw_27, kw_72, kw_757, rfl, ⟨by decide +kernel, by decide +kernel⟩, by decide +kernel, rfl⟩
theorem lk_X7_316 : LkV "GatesBent" 316 m_X7_startBody "GatesBent" 1 := ⟨kw_758, kw_760, kw_28, kw_72, kw_761, rfl, ⟨by decide +kernel, by decide +kernel⟩, by decide +kernel, rfl⟩
theorem lk_X7_310 : LkV "GatesBent" 310 m_X7_knocks "GatesBent" 4 := ⟨kw_762, kw_764, kw_29, kw_72, kw_765, rfl, ⟨by decide +kernel, by decide +kernel⟩, by decide +kernel, rfl⟩
theorem lk_X7_313 : LkV "GatesBent" 313 m_X7_tells "GatesBent" 4 := ⟨kw_766, kw_768, kw_30, kw_72, kw_769, rfl, ⟨by decide +kernel, by decide +kernel⟩, by decide +kernel, rfl⟩
theorem lk_L_129 : LkV "GatesBentLaw" 129 m_X7_trace "GatesBent" 1 := ⟨kw_770, kw_771, kw_772, kw_72, kw_773, rfl, ⟨by decide +kernel, by decide +kernel⟩, by decide +kernel, rfl⟩
theorem lk_X7_319 : LkS "GatesBent" 319 m_J9_min_7cf53 2 := ⟨kw_774, kw_392, kw_81, kw_393, ⟨by decide +kernel, by decide +kernel⟩, by decide +kernel, rfl⟩
theorem lk_L_133 : LkV "GatesBentLaw" 133 m_X7_taken "GatesBent" 2 := ⟨kw_775, kw_776, kw_777, kw_72, kw_778, rfl, ⟨by decide +kernel, by decide +kernel⟩, by decide +kernel, rfl⟩
theorem lk_X7_324 : LkS "GatesBent" 324 m_X7_kindAbove 1 := ⟨kw_779, kw_780, kw_72, kw_781, ⟨by decide +kernel, by decide +kernel⟩, by decide +kernel, rfl⟩
theorem lk_L_137 : LkV "GatesBentLaw" 137 m_X7_count "GatesBent" 1 := ⟨kw_782, kw_783, kw_784, kw_72, kw_785, rfl, ⟨by decide +kernel, by decide +kernel⟩, by decide +kernel, rfl⟩
theorem lk_L_141 : LkV "GatesBentLaw" 141 m_X7_tape "GatesBent" 3 := ⟨kw_786, kw_787, kw_788, kw_72, kw_789, rfl, ⟨by decide +kernel, by decide +kernel⟩, by decide +kernel, rfl⟩
theorem lk_X7_327 : LkV "GatesBent" 327 m_X5_become "GatesBent$Tape" 2 := ⟨kw_790, kw_791, kw_792, kw_79, kw_793, rfl, ⟨by decide +kernel, by decide +kernel⟩, by decide +kernel, rfl⟩
theorem lk_L_147 : LkV "GatesBentLaw" 147 m_X7_item "GatesBent" 3 := ⟨kw_794, kw_795, kw_796, kw_72, kw_797, rfl, ⟨by decide +kernel, by decide +kernel⟩, by decide +kernel, rfl⟩
theorem lk_X7_330 : LkV "GatesBent" 330 m_X5_put "GatesBent$Tape" 2 := ⟨kw_798, kw_799, kw_800, kw_79, kw_801, rfl, ⟨by decide +kernel, by decide +kernel⟩, by decide +kernel, rfl⟩
theorem lk_X5_22 : LkV "GatesBent$Tape" 22 m_X5_hasPlace "GatesBent$Tape" 1 := ⟨kw_802, kw_739, kw_740, kw_79, kw_741, rfl, ⟨by decide +kernel, by decide +kernel⟩, by decide +kernel, rfl⟩
theorem lk_X5_26 : LkV "GatesBent$Tape" 26 m_X5_cut "GatesBent$Tape" 1 := ⟨kw_803, kw_805, kw_31, kw_79, kw_806, rfl, ⟨by decide +kernel, by decide +kernel⟩, by decide +kernel, rfl⟩
theorem lk_L_152 : LkV "GatesBentLaw" 152 m_X7_read "GatesBent" 2 := ⟨kw_807, kw_808, kw_809, kw_72, kw_810, rfl, ⟨by decide +kernel, by decide +kernel⟩, by decide +kernel, rfl⟩
theorem lk_L_156 : LkV "GatesBentLaw" 156 m_X7_shift "GatesBent" 5 := ⟨kw_811, kw_812, kw_813, kw_72, kw_814, rfl, ⟨by decide +kernel, by decide +kernel⟩, by decide +kernel, rfl⟩
theorem lk_X7_334 : LkV "GatesBent" 334 m_X5_hasPlaces "GatesBent$Tape" 2 := ⟨kw_815, kw_816, kw_817, kw_79, kw_818, rfl, ⟨by decide +kernel, by decide +kernel⟩, by decide +kernel, rfl⟩
theorem lk_L_120 : LkV "GatesBentLaw" 120 m_X8_image "GatesBentModel" 0 := ⟨kw_924, kw_925, kw_926, kw_80, kw_927, rfl, ⟨by decide +kernel, by decide +kernel⟩, by decide +kernel, rfl⟩
theorem lk_L_124 : LkV "GatesBentLaw" 124 m_X8_undo "GatesBentModel" 0 := ⟨kw_928, kw_929, kw_930, kw_80, kw_931, rfl, ⟨by decide +kernel, by decide +kernel⟩, by decide +kernel, rfl⟩
theorem lk_L_17 : LkV "GatesBentLaw" 17 m_X8_comer "GatesBentModel" 4 := ⟨kw_932, kw_933, kw_934, kw_80, kw_935, rfl, ⟨by decide +kernel, by decide +kernel⟩, by decide +kernel, rfl⟩
theorem lk_X8_78 : LkS "GatesBentModel" 78 m_X8_isIn 3 := ⟨kw_936, kw_937, kw_80, kw_938, ⟨by decide +kernel, by decide +kernel⟩, by decide +kernel, rfl⟩
theorem lk_X8_86 : LkS "GatesBentModel" 86 m_X8_isGate 1 := ⟨kw_939, kw_940, kw_80, kw_941, ⟨by decide +kernel, by decide +kernel⟩, by decide +kernel, rfl⟩
theorem lk_X8_90 : LkV "GatesBentModel" 90 m_X8_change "GatesBentModel" 3 := ⟨kw_942, kw_944, kw_32, kw_80, kw_945, rfl, ⟨by decide +kernel, by decide +kernel⟩, by decide +kernel, rfl⟩
theorem lk_X8_82 : LkV "GatesBentModel" 82 m_X8_one "GatesBentModel" 2 := ⟨kw_946, kw_948, kw_33, kw_80, kw_949, rfl, ⟨by decide +kernel, by decide +kernel⟩, by decide +kernel, rfl⟩
theorem lk_L_22 : LkV "GatesBentLaw" 22 m_X8_of "GatesBentModel" 2 := ⟨kw_950, kw_951, kw_952, kw_80, kw_953, rfl, ⟨by decide +kernel, by decide +kernel⟩, by decide +kernel, rfl⟩
theorem lk_X8_94 : LkV "GatesBentModel" 94 m_X8_isComer "GatesBentModel" 1 := ⟨kw_954, kw_956, kw_34, kw_80, kw_957, rfl, ⟨by decide +kernel, by decide +kernel⟩, by decide +kernel, rfl⟩
theorem lk_X8_97 : LkV "GatesBentModel" 97 m_X8_out "GatesBentModel" 1 := ⟨kw_958, kw_960, kw_35, kw_80, kw_961, rfl, ⟨by decide +kernel, by decide +kernel⟩, by decide +kernel, rfl⟩
theorem lk_X8_206 : LkV "GatesBentModel" 206 m_X8_keep "GatesBentModel" 1 := ⟨kw_962, kw_964, kw_36, kw_80, kw_965, rfl, ⟨by decide +kernel, by decide +kernel⟩, by decide +kernel, rfl⟩
theorem lk_X8_194 : LkV "GatesBentModel" 194 m_X8_isBy "GatesBentModel" 1 := ⟨kw_966, kw_968, kw_37, kw_80, kw_969, rfl, ⟨by decide +kernel, by decide +kernel⟩, by decide +kernel, rfl⟩
theorem lk_X8_101 : LkV "GatesBentModel" 101 m_X8_lets "GatesBentModel" 2 := ⟨kw_970, kw_972, kw_38, kw_80, kw_973, rfl, ⟨by decide +kernel, by decide +kernel⟩, by decide +kernel, rfl⟩
theorem lk_X8_114 : LkV "GatesBentModel" 114 m_X8_helps "GatesBentModel" 2 := ⟨kw_974, kw_976, kw_39, kw_80, kw_977, rfl, ⟨by decide +kernel, by decide +kernel⟩, by decide +kernel, rfl⟩
theorem lk_X8_182 : LkV "GatesBentModel" 182 m_X8_readFor "GatesBentModel" 2 := ⟨kw_978, kw_980, kw_40, kw_80, kw_981, rfl, ⟨by decide +kernel, by decide +kernel⟩, by decide +kernel, rfl⟩
theorem lk_X8_176 : LkV "GatesBentModel" 176 m_X8_readAll "GatesBentModel" 0 := ⟨kw_982, kw_984, kw_41, kw_80, kw_985, rfl, ⟨by decide +kernel, by decide +kernel⟩, by decide +kernel, rfl⟩
theorem lk_X8_173 : LkV "GatesBentModel" 173 m_X8_clause "GatesBentModel" 0 := ⟨kw_986, kw_988, kw_42, kw_80, kw_989, rfl, ⟨by decide +kernel, by decide +kernel⟩, by decide +kernel, rfl⟩
theorem lk_X8_134 : LkV "GatesBentModel" 134 m_X8_isAt "GatesBentModel" 1 := ⟨kw_990, kw_992, kw_43, kw_80, kw_993, rfl, ⟨by decide +kernel, by decide +kernel⟩, by decide +kernel, rfl⟩
theorem lk_X8_141 : LkV "GatesBentModel" 141 m_X8_takes "GatesBentModel" 1 := ⟨kw_994, kw_996, kw_44, kw_80, kw_997, rfl, ⟨by decide +kernel, by decide +kernel⟩, by decide +kernel, rfl⟩
theorem lk_X8_145 : LkV "GatesBentModel" 145 m_X8_number "GatesBentModel" 0 := ⟨kw_998, kw_1000, kw_45, kw_80, kw_1001, rfl, ⟨by decide +kernel, by decide +kernel⟩, by decide +kernel, rfl⟩
theorem lk_X8_137 : LkV "GatesBentModel" 137 m_X8_isDigit "GatesBentModel" 0 := ⟨kw_1002, kw_1004, kw_46, kw_80, kw_1005, rfl, ⟨by decide +kernel, by decide +kernel⟩, by decide +kernel, rfl⟩
theorem lk_X8_155 : LkV "GatesBentModel" 155 m_X8_any "GatesBentModel" 0 := ⟨kw_1006, kw_1008, kw_47, kw_80, kw_1009, rfl, ⟨by decide +kernel, by decide +kernel⟩, by decide +kernel, rfl⟩
theorem lk_X8_161 : LkV "GatesBentModel" 161 m_X8_both "GatesBentModel" 0 := ⟨kw_1010, kw_1012, kw_48, kw_80, kw_1013, rfl, ⟨by decide +kernel, by decide +kernel⟩, by decide +kernel, rfl⟩
theorem lk_X8_152 : LkV "GatesBentModel" 152 m_X8_factor "GatesBentModel" 0 := ⟨kw_1014, kw_1016, kw_49, kw_80, kw_1017, rfl, ⟨by decide +kernel, by decide +kernel⟩, by decide +kernel, rfl⟩
theorem lk_X8_158 : LkV "GatesBentModel" 158 m_X8_test "GatesBentModel" 0 := ⟨kw_1018, kw_1020, kw_50, kw_80, kw_1021, rfl, ⟨by decide +kernel, by decide +kernel⟩, by decide +kernel, rfl⟩
theorem lk_X8_108 : LkV "GatesBentModel" 108 m_X8_known "GatesBentModel" 1 := ⟨kw_1022, kw_1024, kw_51, kw_80, kw_1025, rfl, ⟨by decide +kernel, by decide +kernel⟩, by decide +kernel, rfl⟩
theorem lk_X8_111 : LkV "GatesBentModel" 111 m_X8_walkAt "GatesBentModel" 2 := ⟨kw_1026, kw_1028, kw_52, kw_80, kw_1029, rfl, ⟨by decide +kernel, by decide +kernel⟩, by decide +kernel, rfl⟩
theorem lk_X8_117 : LkV "GatesBentModel" 117 m_X8_likeTo "GatesBentModel" 4 := ⟨kw_1030, kw_1032, kw_53, kw_80, kw_1033, rfl, ⟨by decide +kernel, by decide +kernel⟩, by decide +kernel, rfl⟩
theorem lk_X8_186 : LkS "GatesBentModel" 186 m_X8_many 1 := ⟨kw_1034, kw_1035, kw_80, kw_1036, ⟨by decide +kernel, by decide +kernel⟩, by decide +kernel, rfl⟩
theorem lk_X8_189 : LkS "GatesBentModel" 189 m_J9_min_7cf53 2 := ⟨kw_1037, kw_392, kw_81, kw_393, ⟨by decide +kernel, by decide +kernel⟩, by decide +kernel, rfl⟩
theorem lk_X8_203 : LkV "GatesBentModel" 203 m_X8_day "GatesBentModel" 0 := ⟨kw_1038, kw_1040, kw_54, kw_80, kw_1041, rfl, ⟨by decide +kernel, by decide +kernel⟩, by decide +kernel, rfl⟩
theorem lk_X8_200 : LkV "GatesBentModel" 200 m_X8_ageNow "GatesBentModel" 0 := ⟨kw_1042, kw_1044, kw_55, kw_80, kw_1045, rfl, ⟨by decide +kernel, by decide +kernel⟩, by decide +kernel, rfl⟩
theorem lk_X8_209 : LkV "GatesBentModel" 209 m_X8_lay "GatesBentModel" 1 := ⟨kw_1046, kw_1048, kw_56, kw_80, kw_1049, rfl, ⟨by decide +kernel, by decide +kernel⟩, by decide +kernel, rfl⟩
theorem lk_X8_105 : LkV "GatesBentModel" 105 m_X8_nearest "GatesBentModel" 2 := ⟨kw_1050, kw_1052, kw_57, kw_80, kw_1053, rfl, ⟨by decide +kernel, by decide +kernel⟩, by decide +kernel, rfl⟩
theorem lk_L_27 : LkV "GatesBentLaw" 27 m_X8_set "GatesBentModel" 3 := ⟨kw_1054, kw_1055, kw_1056, kw_80, kw_1057, rfl, ⟨by decide +kernel, by decide +kernel⟩, by decide +kernel, rfl⟩
theorem lk_L_31 : LkV "GatesBentLaw" 31 m_X8_like "GatesBentModel" 3 := ⟨kw_1058, kw_1059, kw_1060, kw_80, kw_1061, rfl, ⟨by decide +kernel, by decide +kernel⟩, by decide +kernel, rfl⟩
theorem lk_L_40 : LkV "GatesBentLaw" 40 m_X8_forget "GatesBentModel" 1 := ⟨kw_1062, kw_1063, kw_1064, kw_80, kw_1065, rfl, ⟨by decide +kernel, by decide +kernel⟩, by decide +kernel, rfl⟩
theorem lk_L_44 : LkV "GatesBentLaw" 44 m_X8_row "GatesBentModel" 3 := ⟨kw_1066, kw_1067, kw_1068, kw_80, kw_1069, rfl, ⟨by decide +kernel, by decide +kernel⟩, by decide +kernel, rfl⟩
theorem lk_L_48 : LkV "GatesBentLaw" 48 m_X8_feed "GatesBentModel" 1 := ⟨kw_1070, kw_1071, kw_1072, kw_80, kw_1073, rfl, ⟨by decide +kernel, by decide +kernel⟩, by decide +kernel, rfl⟩
theorem lk_L_53 : LkV "GatesBentLaw" 53 m_X8_house "GatesBentModel" 0 := ⟨kw_1074, kw_1075, kw_1076, kw_80, kw_1077, rfl, ⟨by decide +kernel, by decide +kernel⟩, by decide +kernel, rfl⟩
theorem lk_L_35 : LkV "GatesBentLaw" 35 m_X8_teach "GatesBentModel" 2 := ⟨kw_1078, kw_1079, kw_1080, kw_80, kw_1081, rfl, ⟨by decide +kernel, by decide +kernel⟩, by decide +kernel, rfl⟩
theorem lk_X8_197 : LkV "GatesBentModel" 197 m_X8_taught "GatesBentModel" 2 := ⟨kw_1082, kw_1084, kw_58, kw_80, kw_1085, rfl, ⟨by decide +kernel, by decide +kernel⟩, by decide +kernel, rfl⟩
theorem lk_L_57 : LkV "GatesBentLaw" 57 m_X8_told "GatesBentModel" 1 := ⟨kw_1086, kw_1087, kw_1088, kw_80, kw_1089, rfl, ⟨by decide +kernel, by decide +kernel⟩, by decide +kernel, rfl⟩
theorem lk_X8_212 : LkV "GatesBentModel" 212 m_X8_needNow "GatesBentModel" 0 := ⟨kw_1090, kw_1092, kw_59, kw_80, kw_1093, rfl, ⟨by decide +kernel, by decide +kernel⟩, by decide +kernel, rfl⟩
theorem lk_X8_215 : LkV "GatesBentModel" 215 m_X8_bys "GatesBentModel" 0 := ⟨kw_1094, kw_1096, kw_60, kw_80, kw_1097, rfl, ⟨by decide +kernel, by decide +kernel⟩, by decide +kernel, rfl⟩
theorem lk_X8_218 : LkV "GatesBentModel" 218 m_X8_passes "GatesBentModel" 0 := ⟨kw_1098, kw_1100, kw_61, kw_80, kw_1101, rfl, ⟨by decide +kernel, by decide +kernel⟩, by decide +kernel, rfl⟩
theorem lk_X8_221 : LkV "GatesBentModel" 221 m_X8_master "GatesBentModel" 2 := ⟨kw_1102, kw_1104, kw_62, kw_80, kw_1105, rfl, ⟨by decide +kernel, by decide +kernel⟩, by decide +kernel, rfl⟩
theorem lk_X8_238 : LkS "GatesBentModel" 238 m_J9_max_7cf53 2 := ⟨kw_1106, kw_558, kw_81, kw_559, ⟨by decide +kernel, by decide +kernel⟩, by decide +kernel, rfl⟩
theorem lk_L_61 : LkV "GatesBentLaw" 61 m_X8_pass "GatesBentModel" 1 := ⟨kw_1107, kw_1108, kw_1109, kw_80, kw_1110, rfl, ⟨by decide +kernel, by decide +kernel⟩, by decide +kernel, rfl⟩
theorem lk_X8_225 : LkV "GatesBentModel" 225 m_X8_days "GatesBentModel" 1 := ⟨kw_1111, kw_1113, kw_63, kw_80, kw_1114, rfl, ⟨by decide +kernel, by decide +kernel⟩, by decide +kernel, rfl⟩
theorem lk_L_65 : LkV "GatesBentLaw" 65 m_X8_on "GatesBentModel" 2 := ⟨kw_1115, kw_1116, kw_1117, kw_80, kw_1118, rfl, ⟨by decide +kernel, by decide +kernel⟩, by decide +kernel, rfl⟩
theorem lk_L_69 : LkV "GatesBentLaw" 69 m_X8_lessons "GatesBentModel" 3 := ⟨kw_1119, kw_1120, kw_1121, kw_80, kw_1122, rfl, ⟨by decide +kernel, by decide +kernel⟩, by decide +kernel, rfl⟩
theorem lk_X8_234 : LkV "GatesBentModel" 234 m_X8_learn "GatesBentModel" 3 := ⟨kw_1123, kw_1125, kw_64, kw_80, kw_1126, rfl, ⟨by decide +kernel, by decide +kernel⟩, by decide +kernel, rfl⟩
theorem lk_X8_228 : LkV "GatesBentModel" 228 m_X8_letsAll "GatesBentModel" 1 := ⟨kw_1127, kw_1129, kw_65, kw_80, kw_1130, rfl, ⟨by decide +kernel, by decide +kernel⟩, by decide +kernel, rfl⟩
theorem lk_L_73 : LkV "GatesBentLaw" 73 m_X8_feign "GatesBentModel" 3 := ⟨kw_1131, kw_1132, kw_1133, kw_80, kw_1134, rfl, ⟨by decide +kernel, by decide +kernel⟩, by decide +kernel, rfl⟩
theorem lk_L_78 : LkV "GatesBentLaw" 78 m_X8_see "GatesBentModel" 3 := ⟨kw_1135, kw_1136, kw_1137, kw_80, kw_1138, rfl, ⟨by decide +kernel, by decide +kernel⟩, by decide +kernel, rfl⟩
theorem lk_L_82 : LkV "GatesBentLaw" 82 m_X8_wrong "GatesBentModel" 0 := ⟨kw_1139, kw_1140, kw_1141, kw_80, kw_1142, rfl, ⟨by decide +kernel, by decide +kernel⟩, by decide +kernel, rfl⟩
theorem lk_X8_241 : LkV "GatesBentModel" 241 m_X8_isSo "GatesBentModel" 1 := ⟨kw_1143, kw_1145, kw_66, kw_80, kw_1146, rfl, ⟨by decide +kernel, by decide +kernel⟩, by decide +kernel, rfl⟩
theorem lk_L_86 : LkV "GatesBentLaw" 86 m_X8_can "GatesBentModel" 3 := ⟨kw_1147, kw_1148, kw_1149, kw_80, kw_1150, rfl, ⟨by decide +kernel, by decide +kernel⟩, by decide +kernel, rfl⟩
theorem lk_X8_244 : LkV "GatesBentModel" 244 m_X8_isAllSo "GatesBentModel" 1 := ⟨kw_1151, kw_1153, kw_67, kw_80, kw_1154, rfl, ⟨by decide +kernel, by decide +kernel⟩, by decide +kernel, rfl⟩
theorem lk_L_91 : LkV "GatesBentLaw" 91 m_X8_odds "GatesBentModel" 3 := ⟨kw_1155, kw_1156, kw_1157, kw_80, kw_1158, rfl, ⟨by decide +kernel, by decide +kernel⟩, by decide +kernel, rfl⟩
theorem lk_X8_251 : LkS "GatesBentModel" 251 m_X8_fraction 3 := ⟨kw_1161, kw_1162, kw_80, kw_1163, ⟨by decide +kernel, by decide +kernel⟩, by decide +kernel, rfl⟩
theorem lk_L_96 : LkV "GatesBentLaw" 96 m_X8_mean "GatesBentModel" 2 := ⟨kw_1164, kw_1165, kw_1166, kw_80, kw_1167, rfl, ⟨by decide +kernel, by decide +kernel⟩, by decide +kernel, rfl⟩
theorem lk_L_100 : LkV "GatesBentLaw" 100 m_X8_plan "GatesBentModel" 2 := ⟨kw_1168, kw_1169, kw_1170, kw_80, kw_1171, rfl, ⟨by decide +kernel, by decide +kernel⟩, by decide +kernel, rfl⟩
theorem lk_L_104 : LkV "GatesBentLaw" 104 m_X8_ends "GatesBentModel" 1 := ⟨kw_1172, kw_1173, kw_1174, kw_80, kw_1175, rfl, ⟨by decide +kernel, by decide +kernel⟩, by decide +kernel, rfl⟩
theorem lk_L_108 : LkV "GatesBentLaw" 108 m_X8_book "GatesBentModel" 2 := ⟨kw_1176, kw_1177, kw_1178, kw_80, kw_1179, rfl, ⟨by decide +kernel, by decide +kernel⟩, by decide +kernel, rfl⟩
theorem lk_L_112 : LkV "GatesBentLaw" 112 m_X8_looked "GatesBentModel" 0 := ⟨kw_1180, kw_1181, kw_1182, kw_80, kw_1183, rfl, ⟨by decide +kernel, by decide +kernel⟩, by decide +kernel, rfl⟩
theorem lk_L_128 : LkV "GatesBentLaw" 128 m_X8_act "GatesBentModel" 3 := ⟨kw_1184, kw_1185, kw_1186, kw_80, kw_1187, rfl, ⟨by decide +kernel, by decide +kernel⟩, by decide +kernel, rfl⟩
theorem lk_X8_264 : LkV "GatesBentModel" 264 m_X8_all "GatesBentModel" 3 := ⟨kw_1188, kw_1190, kw_68, kw_80, kw_1191, rfl, ⟨by decide +kernel, by decide +kernel⟩, by decide +kernel, rfl⟩
theorem lk_X8_258 : LkV "GatesBentModel" 258 m_X8_byKind "GatesBentModel" 4 := ⟨kw_1192, kw_1194, kw_69, kw_80, kw_1195, rfl, ⟨by decide +kernel, by decide +kernel⟩, by decide +kernel, rfl⟩
theorem lk_X8_261 : LkV "GatesBentModel" 261 m_X8_body "GatesBentModel" 1 := ⟨kw_1196, kw_1198, kw_70, kw_80, kw_1199, rfl, ⟨by decide +kernel, by decide +kernel⟩, by decide +kernel, rfl⟩
theorem lk_L_132 : LkV "GatesBentLaw" 132 m_X8_trace "GatesBentModel" 1 := ⟨kw_1200, kw_1201, kw_1202, kw_80, kw_1203, rfl, ⟨by decide +kernel, by decide +kernel⟩, by decide +kernel, rfl⟩
theorem lk_L_136 : LkV "GatesBentLaw" 136 m_X8_taken "GatesBentModel" 2 := ⟨kw_1204, kw_1205, kw_1206, kw_80, kw_1207, rfl, ⟨by decide +kernel, by decide +kernel⟩, by decide +kernel, rfl⟩
theorem lk_L_140 : LkV "GatesBentLaw" 140 m_X8_count "GatesBentModel" 1 := ⟨kw_1208, kw_1209, kw_1210, kw_80, kw_1211, rfl, ⟨by decide +kernel, by decide +kernel⟩, by decide +kernel, rfl⟩
theorem lk_L_144 : LkV "GatesBentLaw" 144 m_X8_tape "GatesBentModel" 3 := ⟨kw_1212, kw_1213, kw_1214, kw_80, kw_1215, rfl, ⟨by decide +kernel, by decide +kernel⟩, by decide +kernel, rfl⟩
theorem lk_X8_267 : LkS "GatesBentModel" 267 m_X8_isTape 1 := ⟨kw_1216, kw_1217, kw_80, kw_1218, ⟨by decide +kernel, by decide +kernel⟩, by decide +kernel, rfl⟩
theorem lk_L_151 : LkV "GatesBentLaw" 151 m_X8_item "GatesBentModel" 3 := ⟨kw_1219, kw_1220, kw_1221, kw_80, kw_1222, rfl, ⟨by decide +kernel, by decide +kernel⟩, by decide +kernel, rfl⟩
theorem lk_L_155 : LkV "GatesBentLaw" 155 m_X8_read "GatesBentModel" 2 := ⟨kw_1223, kw_1224, kw_1225, kw_80, kw_1226, rfl, ⟨by decide +kernel, by decide +kernel⟩, by decide +kernel, rfl⟩
theorem lk_L_160 : LkV "GatesBentLaw" 160 m_X8_shift "GatesBentModel" 5 := ⟨kw_1227, kw_1228, kw_1229, kw_80, kw_1230, rfl, ⟨by decide +kernel, by decide +kernel⟩, by decide +kernel, rfl⟩
theorem lk_L_116 : LkV "GatesBentLaw" 116 m_X8_judge "GatesBentModel" 2 := ⟨kw_1231, kw_1232, kw_1233, kw_80, kw_1234, rfl, ⟨by decide +kernel, by decide +kernel⟩, by decide +kernel, rfl⟩
theorem lk_X1_29 : LkSN "GatesBent$Gate" 29 m_X7_alike "GatesBent" 2 := ⟨by decide +kernel, kw_399, kw_72, kw_400, ⟨by decide +kernel, by decide +kernel⟩, by decide +kernel, rfl⟩
theorem lk_X6_64 : LkSN "GatesBent$Town" 64 m_X7_alike "GatesBent" 2 := ⟨by decide +kernel, kw_399, kw_72, kw_400, ⟨by decide +kernel, by decide +kernel⟩, by decide +kernel, rfl⟩
theorem inx0 : ∀ w ∈ u_ws RX0 TX0 8, w ∈ lw_tbl ∧ goodWord w = true := by decide +kernel
theorem inx1 : ∀ w ∈ u_ws RX1 TX1 2, w ∈ lw_tbl ∧ goodWord w = true := by decide +kernel
theorem inx2 : ∀ w ∈ u_ws RX2 TX2 5, w ∈ lw_tbl ∧ goodWord w = true := by decide +kernel
theorem inx3 : ∀ w ∈ u_ws RX3 TX3 4, w ∈ lw_tbl ∧ goodWord w = true := by decide +kernel
theorem inx4 : ∀ w ∈ u_ws RX4 TX4 4, w ∈ lw_tbl ∧ goodWord w = true := by decide +kernel
theorem inx5 : ∀ w ∈ u_ws RX5 TX5 3, w ∈ lw_tbl ∧ goodWord w = true := by decide +kernel
theorem inx6 : ∀ w ∈ u_ws RX6 TX6 8, w ∈ lw_tbl ∧ goodWord w = true := by decide +kernel
theorem inx7 : ∀ w ∈ u_ws RX7 TX7 14, w ∈ lw_tbl ∧ goodWord w = true := by decide +kernel
theorem inx8 : ∀ w ∈ u_ws RX8 TX8 32, w ∈ lw_tbl ∧ goodWord w = true := by decide +kernel
section FIELDS
variable {Γ : Ct} {cc : ByteArray} {nL : Nat} {ret : Option FieldType} {P : Pq} {d mc ms : Nat} {V : Ob → Prop} {ad : Ob → Nat} {μ : Me} {cs sl pc : Nat} {L : List (Nat × Value)} {st : List Value} {t j z : Int}
theorem put_kk {o : Ob} {k : Nat} {v : Value} (h : vof ad (sk ad o k) z = v) (kk : XX Γ nL V ad (vl ad (upM μ o k z)) cs sl pc L st) : XX Γ nL V ad (upV (vl ad μ) o k v) cs sl pc L st := by
  rw [upV_vl h]
  exact kk
theorem gf_X3_9 (F : Fx Γ cc "GatesBent$Reader" nL ret P d mc ms) (dd : decode cc pc = .ok (.getfield 9, 3)) (ho : V (15, t, j)) (kk : XX Γ nL V ad (vl ad μ) cs sl (pc + 3) L (.ref (ad (16, 0, 0)) :: st)) : XX Γ nL V ad (vl ad μ) cs sl pc L (.ref (ad (15, t, j)) :: st) := x_get (C := RX3) (T := TX3) F dd rfl inx3 0 (by decide) kw_102 rfl ho rfl (vl_st rfl) kk
theorem gf_X7_165 (F : Fx Γ cc "GatesBent" nL ret P d mc ms) (dd : decode cc pc = .ok (.getfield 165, 3)) (ho : V (15, t, j)) (kk : XX Γ nL V ad (vl ad μ) cs sl (pc + 3) L (.ref (ad (16, 0, 0)) :: st)) : XX Γ nL V ad (vl ad μ) cs sl pc L (.ref (ad (15, t, j)) :: st) := x_get (C := RX3) (T := TX3) F dd rfl inx3 0 (by decide) kw_103 rfl ho rfl (vl_st rfl) kk
theorem gf_X3_32 (F : Fx Γ cc "GatesBent$Reader" nL ret P d mc ms) (dd : decode cc pc = .ok (.getfield 32, 3)) (ho : V (15, t, j)) (kk : XX Γ nL V ad (vl ad μ) cs sl (pc + 3) L (.int (I (μ (15, t, j) 1)) :: st)) : XX Γ nL V ad (vl ad μ) cs sl pc L (.ref (ad (15, t, j)) :: st) := x_get (C := RX3) (T := TX3) F dd rfl inx3 1 (by decide) kw_104 rfl ho rfl (vl_i rfl) kk
theorem pf_X3_32 (F : Fx Γ cc "GatesBent$Reader" nL ret P d mc ms) (dd : decode cc pc = .ok (.putfield 32, 3)) (ho : V (15, t, j)) (kk : XX Γ nL V ad (vl ad (upM μ (15, t, j) 1 z)) cs sl (pc + 3) L st) : XX Γ nL V ad (vl ad μ) cs sl pc L (.int (I z) :: .ref (ad (15, t, j)) :: st) := x_put (C := RX3) (T := TX3) F dd rfl inx3 tyX3 tyX3_ok nmX3 1 (by decide) kw_104 rfl rfl ho rfl rfl rfl (put_kk (z := z) rfl kk)
theorem gf_X7_162 (F : Fx Γ cc "GatesBent" nL ret P d mc ms) (dd : decode cc pc = .ok (.getfield 162, 3)) (ho : V (15, t, j)) (kk : XX Γ nL V ad (vl ad μ) cs sl (pc + 3) L (.int (I (μ (15, t, j) 1)) :: st)) : XX Γ nL V ad (vl ad μ) cs sl pc L (.ref (ad (15, t, j)) :: st) := x_get (C := RX3) (T := TX3) F dd rfl inx3 1 (by decide) kw_105 rfl ho rfl (vl_i rfl) kk
theorem pf_X7_162 (F : Fx Γ cc "GatesBent" nL ret P d mc ms) (dd : decode cc pc = .ok (.putfield 162, 3)) (ho : V (15, t, j)) (kk : XX Γ nL V ad (vl ad (upM μ (15, t, j) 1 z)) cs sl (pc + 3) L st) : XX Γ nL V ad (vl ad μ) cs sl pc L (.int (I z) :: .ref (ad (15, t, j)) :: st) := x_put (C := RX3) (T := TX3) F dd rfl inx3 tyX3 tyX3_ok nmX3 1 (by decide) kw_105 rfl rfl ho rfl rfl rfl (put_kk (z := z) rfl kk)
theorem gf_X3_24 (F : Fx Γ cc "GatesBent$Reader" nL ret P d mc ms) (dd : decode cc pc = .ok (.getfield 24, 3)) (ho : V (15, t, j)) (kk : XX Γ nL V ad (vl ad μ) cs sl (pc + 3) L (.int (I (μ (15, t, j) 2)) :: st)) : XX Γ nL V ad (vl ad μ) cs sl pc L (.ref (ad (15, t, j)) :: st) := x_get (C := RX3) (T := TX3) F dd rfl inx3 2 (by decide) kw_106 rfl ho rfl (vl_i rfl) kk
theorem pf_X3_24 (F : Fx Γ cc "GatesBent$Reader" nL ret P d mc ms) (dd : decode cc pc = .ok (.putfield 24, 3)) (ho : V (15, t, j)) (kk : XX Γ nL V ad (vl ad (upM μ (15, t, j) 2 z)) cs sl (pc + 3) L st) : XX Γ nL V ad (vl ad μ) cs sl pc L (.int (I z) :: .ref (ad (15, t, j)) :: st) := x_put (C := RX3) (T := TX3) F dd rfl inx3 tyX3 tyX3_ok nmX3 2 (by decide) kw_106 rfl rfl ho rfl rfl rfl (put_kk (z := z) rfl kk)
theorem gf_X7_176 (F : Fx Γ cc "GatesBent" nL ret P d mc ms) (dd : decode cc pc = .ok (.getfield 176, 3)) (ho : V (15, t, j)) (kk : XX Γ nL V ad (vl ad μ) cs sl (pc + 3) L (.int (I (μ (15, t, j) 2)) :: st)) : XX Γ nL V ad (vl ad μ) cs sl pc L (.ref (ad (15, t, j)) :: st) := x_get (C := RX3) (T := TX3) F dd rfl inx3 2 (by decide) kw_107 rfl ho rfl (vl_i rfl) kk
theorem pf_X7_176 (F : Fx Γ cc "GatesBent" nL ret P d mc ms) (dd : decode cc pc = .ok (.putfield 176, 3)) (ho : V (15, t, j)) (kk : XX Γ nL V ad (vl ad (upM μ (15, t, j) 2 z)) cs sl (pc + 3) L st) : XX Γ nL V ad (vl ad μ) cs sl pc L (.int (I z) :: .ref (ad (15, t, j)) :: st) := x_put (C := RX3) (T := TX3) F dd rfl inx3 tyX3 tyX3_ok nmX3 2 (by decide) kw_107 rfl rfl ho rfl rfl rfl (put_kk (z := z) rfl kk)
theorem gf_X3_15 (F : Fx Γ cc "GatesBent$Reader" nL ret P d mc ms) (dd : decode cc pc = .ok (.getfield 15, 3)) (ho : V (15, t, j)) (kk : XX Γ nL V ad (vl ad μ) cs sl (pc + 3) L (hvl ad (μ (15, t, j) 3) :: st)) : XX Γ nL V ad (vl ad μ) cs sl pc L (.ref (ad (15, t, j)) :: st) := x_get (C := RX3) (T := TX3) F dd rfl inx3 3 (by decide) kw_108 rfl ho rfl (vl_h rfl) kk
theorem pf_X3_15 (F : Fx Γ cc "GatesBent$Reader" nL ret P d mc ms) {v : Value} (dd : decode cc pc = .ok (.putfield 15, 3)) (ho : V (15, t, j)) (hv : v = hvl ad z) (hf : fits (tyX3 3) v = true) (kk : XX Γ nL V ad (vl ad (upM μ (15, t, j) 3 z)) cs sl (pc + 3) L st) : XX Γ nL V ad (vl ad μ) cs sl pc L (v :: .ref (ad (15, t, j)) :: st) := x_put (C := RX3) (T := TX3) F dd rfl inx3 tyX3 tyX3_ok nmX3 3 (by decide) kw_108 rfl rfl ho rfl (by cases v <;> rfl) hf (put_kk (z := z) hv.symm kk)
theorem gf_X1_9 (F : Fx Γ cc "GatesBent$Gate" nL ret P d mc ms) (dd : decode cc pc = .ok (.getfield 9, 3)) (ho : V (2, t, j)) (kk : XX Γ nL V ad (vl ad μ) cs sl (pc + 3) L (.ref (ad (3, t, j)) :: st)) : XX Γ nL V ad (vl ad μ) cs sl pc L (.ref (ad (2, t, j)) :: st) := x_get (C := RX1) (T := TX1) F dd rfl inx1 0 (by decide) kw_129 rfl ho rfl (vl_st rfl) kk
theorem gf_X7_142 (F : Fx Γ cc "GatesBent" nL ret P d mc ms) (dd : decode cc pc = .ok (.getfield 142, 3)) (ho : V (2, t, j)) (kk : XX Γ nL V ad (vl ad μ) cs sl (pc + 3) L (.ref (ad (3, t, j)) :: st)) : XX Γ nL V ad (vl ad μ) cs sl pc L (.ref (ad (2, t, j)) :: st) := x_get (C := RX1) (T := TX1) F dd rfl inx1 0 (by decide) kw_130 rfl ho rfl (vl_st rfl) kk
theorem gf_X1_15 (F : Fx Γ cc "GatesBent$Gate" nL ret P d mc ms) (dd : decode cc pc = .ok (.getfield 15, 3)) (ho : V (2, t, j)) (kk : XX Γ nL V ad (vl ad μ) cs sl (pc + 3) L (.int (I (μ (2, t, j) 1)) :: st)) : XX Γ nL V ad (vl ad μ) cs sl pc L (.ref (ad (2, t, j)) :: st) := x_get (C := RX1) (T := TX1) F dd rfl inx1 1 (by decide) kw_131 rfl ho rfl (vl_i rfl) kk
theorem pf_X1_15 (F : Fx Γ cc "GatesBent$Gate" nL ret P d mc ms) (dd : decode cc pc = .ok (.putfield 15, 3)) (ho : V (2, t, j)) (kk : XX Γ nL V ad (vl ad (upM μ (2, t, j) 1 z)) cs sl (pc + 3) L st) : XX Γ nL V ad (vl ad μ) cs sl pc L (.int (I z) :: .ref (ad (2, t, j)) :: st) := x_put (C := RX1) (T := TX1) F dd rfl inx1 tyX1 tyX1_ok nmX1 1 (by decide) kw_131 rfl rfl ho rfl rfl rfl (put_kk (z := z) rfl kk)
theorem gf_X7_139 (F : Fx Γ cc "GatesBent" nL ret P d mc ms) (dd : decode cc pc = .ok (.getfield 139, 3)) (ho : V (2, t, j)) (kk : XX Γ nL V ad (vl ad μ) cs sl (pc + 3) L (.int (I (μ (2, t, j) 1)) :: st)) : XX Γ nL V ad (vl ad μ) cs sl pc L (.ref (ad (2, t, j)) :: st) := x_get (C := RX1) (T := TX1) F dd rfl inx1 1 (by decide) kw_132 rfl ho rfl (vl_i rfl) kk
theorem pf_X7_139 (F : Fx Γ cc "GatesBent" nL ret P d mc ms) (dd : decode cc pc = .ok (.putfield 139, 3)) (ho : V (2, t, j)) (kk : XX Γ nL V ad (vl ad (upM μ (2, t, j) 1 z)) cs sl (pc + 3) L st) : XX Γ nL V ad (vl ad μ) cs sl pc L (.int (I z) :: .ref (ad (2, t, j)) :: st) := x_put (C := RX1) (T := TX1) F dd rfl inx1 tyX1 tyX1_ok nmX1 1 (by decide) kw_132 rfl rfl ho rfl rfl rfl (put_kk (z := z) rfl kk)
theorem gf_X6_139 (F : Fx Γ cc "GatesBent$Town" nL ret P d mc ms) (dd : decode cc pc = .ok (.getfield 139, 3)) (ho : V (2, t, j)) (kk : XX Γ nL V ad (vl ad μ) cs sl (pc + 3) L (.int (I (μ (2, t, j) 1)) :: st)) : XX Γ nL V ad (vl ad μ) cs sl pc L (.ref (ad (2, t, j)) :: st) := x_get (C := RX1) (T := TX1) F dd rfl inx1 1 (by decide) kw_133 rfl ho rfl (vl_i rfl) kk
theorem pf_X6_139 (F : Fx Γ cc "GatesBent$Town" nL ret P d mc ms) (dd : decode cc pc = .ok (.putfield 139, 3)) (ho : V (2, t, j)) (kk : XX Γ nL V ad (vl ad (upM μ (2, t, j) 1 z)) cs sl (pc + 3) L st) : XX Γ nL V ad (vl ad μ) cs sl pc L (.int (I z) :: .ref (ad (2, t, j)) :: st) := x_put (C := RX1) (T := TX1) F dd rfl inx1 tyX1 tyX1_ok nmX1 1 (by decide) kw_133 rfl rfl ho rfl rfl rfl (put_kk (z := z) rfl kk)
theorem gf_X0_15 (F : Fx Γ cc "GatesBent$Comer" nL ret P d mc ms) (dd : decode cc pc = .ok (.getfield 15, 3)) (ho : V (4, t, j)) (kk : XX Γ nL V ad (vl ad μ) cs sl (pc + 3) L (.int (I (μ (4, t, j) 0)) :: st)) : XX Γ nL V ad (vl ad μ) cs sl pc L (.ref (ad (4, t, j)) :: st) := x_get (C := RX0) (T := TX0) F dd rfl inx0 0 (by decide) kw_146 rfl ho rfl (vl_i rfl) kk
theorem pf_X0_15 (F : Fx Γ cc "GatesBent$Comer" nL ret P d mc ms) (dd : decode cc pc = .ok (.putfield 15, 3)) (ho : V (4, t, j)) (kk : XX Γ nL V ad (vl ad (upM μ (4, t, j) 0 z)) cs sl (pc + 3) L st) : XX Γ nL V ad (vl ad μ) cs sl pc L (.int (I z) :: .ref (ad (4, t, j)) :: st) := x_put (C := RX0) (T := TX0) F dd rfl inx0 tyX0 tyX0_ok nmX0 0 (by decide) kw_146 rfl rfl ho rfl rfl rfl (put_kk (z := z) rfl kk)
theorem gf_X2_36 (F : Fx Γ cc "GatesBent$House" nL ret P d mc ms) (dd : decode cc pc = .ok (.getfield 36, 3)) (ho : V (4, t, j)) (kk : XX Γ nL V ad (vl ad μ) cs sl (pc + 3) L (.int (I (μ (4, t, j) 0)) :: st)) : XX Γ nL V ad (vl ad μ) cs sl pc L (.ref (ad (4, t, j)) :: st) := x_get (C := RX0) (T := TX0) F dd rfl inx0 0 (by decide) kw_147 rfl ho rfl (vl_i rfl) kk
theorem pf_X2_36 (F : Fx Γ cc "GatesBent$House" nL ret P d mc ms) (dd : decode cc pc = .ok (.putfield 36, 3)) (ho : V (4, t, j)) (kk : XX Γ nL V ad (vl ad (upM μ (4, t, j) 0 z)) cs sl (pc + 3) L st) : XX Γ nL V ad (vl ad μ) cs sl pc L (.int (I z) :: .ref (ad (4, t, j)) :: st) := x_put (C := RX0) (T := TX0) F dd rfl inx0 tyX0 tyX0_ok nmX0 0 (by decide) kw_147 rfl rfl ho rfl rfl rfl (put_kk (z := z) rfl kk)
theorem gf_X6_122 (F : Fx Γ cc "GatesBent$Town" nL ret P d mc ms) (dd : decode cc pc = .ok (.getfield 122, 3)) (ho : V (4, t, j)) (kk : XX Γ nL V ad (vl ad μ) cs sl (pc + 3) L (.int (I (μ (4, t, j) 0)) :: st)) : XX Γ nL V ad (vl ad μ) cs sl pc L (.ref (ad (4, t, j)) :: st) := x_get (C := RX0) (T := TX0) F dd rfl inx0 0 (by decide) kw_148 rfl ho rfl (vl_i rfl) kk
theorem pf_X6_122 (F : Fx Γ cc "GatesBent$Town" nL ret P d mc ms) (dd : decode cc pc = .ok (.putfield 122, 3)) (ho : V (4, t, j)) (kk : XX Γ nL V ad (vl ad (upM μ (4, t, j) 0 z)) cs sl (pc + 3) L st) : XX Γ nL V ad (vl ad μ) cs sl pc L (.int (I z) :: .ref (ad (4, t, j)) :: st) := x_put (C := RX0) (T := TX0) F dd rfl inx0 tyX0 tyX0_ok nmX0 0 (by decide) kw_148 rfl rfl ho rfl rfl rfl (put_kk (z := z) rfl kk)
theorem gf_X7_269 (F : Fx Γ cc "GatesBent" nL ret P d mc ms) (dd : decode cc pc = .ok (.getfield 269, 3)) (ho : V (4, t, j)) (kk : XX Γ nL V ad (vl ad μ) cs sl (pc + 3) L (.int (I (μ (4, t, j) 0)) :: st)) : XX Γ nL V ad (vl ad μ) cs sl pc L (.ref (ad (4, t, j)) :: st) := x_get (C := RX0) (T := TX0) F dd rfl inx0 0 (by decide) kw_149 rfl ho rfl (vl_i rfl) kk
theorem pf_X7_269 (F : Fx Γ cc "GatesBent" nL ret P d mc ms) (dd : decode cc pc = .ok (.putfield 269, 3)) (ho : V (4, t, j)) (kk : XX Γ nL V ad (vl ad (upM μ (4, t, j) 0 z)) cs sl (pc + 3) L st) : XX Γ nL V ad (vl ad μ) cs sl pc L (.int (I z) :: .ref (ad (4, t, j)) :: st) := x_put (C := RX0) (T := TX0) F dd rfl inx0 tyX0 tyX0_ok nmX0 0 (by decide) kw_149 rfl rfl ho rfl rfl rfl (put_kk (z := z) rfl kk)
theorem gf_X0_19 (F : Fx Γ cc "GatesBent$Comer" nL ret P d mc ms) (dd : decode cc pc = .ok (.getfield 19, 3)) (ho : V (4, t, j)) (kk : XX Γ nL V ad (vl ad μ) cs sl (pc + 3) L (.int (I (μ (4, t, j) 1)) :: st)) : XX Γ nL V ad (vl ad μ) cs sl pc L (.ref (ad (4, t, j)) :: st) := x_get (C := RX0) (T := TX0) F dd rfl inx0 1 (by decide) kw_150 rfl ho rfl (vl_i rfl) kk
theorem pf_X0_19 (F : Fx Γ cc "GatesBent$Comer" nL ret P d mc ms) (dd : decode cc pc = .ok (.putfield 19, 3)) (ho : V (4, t, j)) (kk : XX Γ nL V ad (vl ad (upM μ (4, t, j) 1 z)) cs sl (pc + 3) L st) : XX Γ nL V ad (vl ad μ) cs sl pc L (.int (I z) :: .ref (ad (4, t, j)) :: st) := x_put (C := RX0) (T := TX0) F dd rfl inx0 tyX0 tyX0_ok nmX0 1 (by decide) kw_150 rfl rfl ho rfl rfl rfl (put_kk (z := z) rfl kk)
theorem gf_X6_77 (F : Fx Γ cc "GatesBent$Town" nL ret P d mc ms) (dd : decode cc pc = .ok (.getfield 77, 3)) (ho : V (4, t, j)) (kk : XX Γ nL V ad (vl ad μ) cs sl (pc + 3) L (.int (I (μ (4, t, j) 1)) :: st)) : XX Γ nL V ad (vl ad μ) cs sl pc L (.ref (ad (4, t, j)) :: st) := x_get (C := RX0) (T := TX0) F dd rfl inx0 1 (by decide) kw_151 rfl ho rfl (vl_i rfl) kk
theorem pf_X6_77 (F : Fx Γ cc "GatesBent$Town" nL ret P d mc ms) (dd : decode cc pc = .ok (.putfield 77, 3)) (ho : V (4, t, j)) (kk : XX Γ nL V ad (vl ad (upM μ (4, t, j) 1 z)) cs sl (pc + 3) L st) : XX Γ nL V ad (vl ad μ) cs sl pc L (.int (I z) :: .ref (ad (4, t, j)) :: st) := x_put (C := RX0) (T := TX0) F dd rfl inx0 tyX0 tyX0_ok nmX0 1 (by decide) kw_151 rfl rfl ho rfl rfl rfl (put_kk (z := z) rfl kk)
theorem gf_X2_41 (F : Fx Γ cc "GatesBent$House" nL ret P d mc ms) (dd : decode cc pc = .ok (.getfield 41, 3)) (ho : V (4, t, j)) (kk : XX Γ nL V ad (vl ad μ) cs sl (pc + 3) L (.int (I (μ (4, t, j) 1)) :: st)) : XX Γ nL V ad (vl ad μ) cs sl pc L (.ref (ad (4, t, j)) :: st) := x_get (C := RX0) (T := TX0) F dd rfl inx0 1 (by decide) kw_152 rfl ho rfl (vl_i rfl) kk
theorem pf_X2_41 (F : Fx Γ cc "GatesBent$House" nL ret P d mc ms) (dd : decode cc pc = .ok (.putfield 41, 3)) (ho : V (4, t, j)) (kk : XX Γ nL V ad (vl ad (upM μ (4, t, j) 1 z)) cs sl (pc + 3) L st) : XX Γ nL V ad (vl ad μ) cs sl pc L (.int (I z) :: .ref (ad (4, t, j)) :: st) := x_put (C := RX0) (T := TX0) F dd rfl inx0 tyX0 tyX0_ok nmX0 1 (by decide) kw_152 rfl rfl ho rfl rfl rfl (put_kk (z := z) rfl kk)
theorem gf_X7_114 (F : Fx Γ cc "GatesBent" nL ret P d mc ms) (dd : decode cc pc = .ok (.getfield 114, 3)) (ho : V (4, t, j)) (kk : XX Γ nL V ad (vl ad μ) cs sl (pc + 3) L (.int (I (μ (4, t, j) 1)) :: st)) : XX Γ nL V ad (vl ad μ) cs sl pc L (.ref (ad (4, t, j)) :: st) := x_get (C := RX0) (T := TX0) F dd rfl inx0 1 (by decide) kw_153 rfl ho rfl (vl_i rfl) kk
theorem pf_X7_114 (F : Fx Γ cc "GatesBent" nL ret P d mc ms) (dd : decode cc pc = .ok (.putfield 114, 3)) (ho : V (4, t, j)) (kk : XX Γ nL V ad (vl ad (upM μ (4, t, j) 1 z)) cs sl (pc + 3) L st) : XX Γ nL V ad (vl ad μ) cs sl pc L (.int (I z) :: .ref (ad (4, t, j)) :: st) := x_put (C := RX0) (T := TX0) F dd rfl inx0 tyX0 tyX0_ok nmX0 1 (by decide) kw_153 rfl rfl ho rfl rfl rfl (put_kk (z := z) rfl kk)
theorem gf_X0_22 (F : Fx Γ cc "GatesBent$Comer" nL ret P d mc ms) (dd : decode cc pc = .ok (.getfield 22, 3)) (ho : V (4, t, j)) (kk : XX Γ nL V ad (vl ad μ) cs sl (pc + 3) L (.int (I (μ (4, t, j) 2)) :: st)) : XX Γ nL V ad (vl ad μ) cs sl pc L (.ref (ad (4, t, j)) :: st) := x_get (C := RX0) (T := TX0) F dd rfl inx0 2 (by decide) kw_154 rfl ho rfl (vl_i rfl) kk
theorem pf_X0_22 (F : Fx Γ cc "GatesBent$Comer" nL ret P d mc ms) (dd : decode cc pc = .ok (.putfield 22, 3)) (ho : V (4, t, j)) (kk : XX Γ nL V ad (vl ad (upM μ (4, t, j) 2 z)) cs sl (pc + 3) L st) : XX Γ nL V ad (vl ad μ) cs sl pc L (.int (I z) :: .ref (ad (4, t, j)) :: st) := x_put (C := RX0) (T := TX0) F dd rfl inx0 tyX0 tyX0_ok nmX0 2 (by decide) kw_154 rfl rfl ho rfl rfl rfl (put_kk (z := z) rfl kk)
theorem gf_X6_80 (F : Fx Γ cc "GatesBent$Town" nL ret P d mc ms) (dd : decode cc pc = .ok (.getfield 80, 3)) (ho : V (4, t, j)) (kk : XX Γ nL V ad (vl ad μ) cs sl (pc + 3) L (.int (I (μ (4, t, j) 2)) :: st)) : XX Γ nL V ad (vl ad μ) cs sl pc L (.ref (ad (4, t, j)) :: st) := x_get (C := RX0) (T := TX0) F dd rfl inx0 2 (by decide) kw_155 rfl ho rfl (vl_i rfl) kk
theorem pf_X6_80 (F : Fx Γ cc "GatesBent$Town" nL ret P d mc ms) (dd : decode cc pc = .ok (.putfield 80, 3)) (ho : V (4, t, j)) (kk : XX Γ nL V ad (vl ad (upM μ (4, t, j) 2 z)) cs sl (pc + 3) L st) : XX Γ nL V ad (vl ad μ) cs sl pc L (.int (I z) :: .ref (ad (4, t, j)) :: st) := x_put (C := RX0) (T := TX0) F dd rfl inx0 tyX0 tyX0_ok nmX0 2 (by decide) kw_155 rfl rfl ho rfl rfl rfl (put_kk (z := z) rfl kk)
theorem gf_X2_44 (F : Fx Γ cc "GatesBent$House" nL ret P d mc ms) (dd : decode cc pc = .ok (.getfield 44, 3)) (ho : V (4, t, j)) (kk : XX Γ nL V ad (vl ad μ) cs sl (pc + 3) L (.int (I (μ (4, t, j) 2)) :: st)) : XX Γ nL V ad (vl ad μ) cs sl pc L (.ref (ad (4, t, j)) :: st) := x_get (C := RX0) (T := TX0) F dd rfl inx0 2 (by decide) kw_156 rfl ho rfl (vl_i rfl) kk
theorem pf_X2_44 (F : Fx Γ cc "GatesBent$House" nL ret P d mc ms) (dd : decode cc pc = .ok (.putfield 44, 3)) (ho : V (4, t, j)) (kk : XX Γ nL V ad (vl ad (upM μ (4, t, j) 2 z)) cs sl (pc + 3) L st) : XX Γ nL V ad (vl ad μ) cs sl pc L (.int (I z) :: .ref (ad (4, t, j)) :: st) := x_put (C := RX0) (T := TX0) F dd rfl inx0 tyX0 tyX0_ok nmX0 2 (by decide) kw_156 rfl rfl ho rfl rfl rfl (put_kk (z := z) rfl kk)
theorem gf_X7_117 (F : Fx Γ cc "GatesBent" nL ret P d mc ms) (dd : decode cc pc = .ok (.getfield 117, 3)) (ho : V (4, t, j)) (kk : XX Γ nL V ad (vl ad μ) cs sl (pc + 3) L (.int (I (μ (4, t, j) 2)) :: st)) : XX Γ nL V ad (vl ad μ) cs sl pc L (.ref (ad (4, t, j)) :: st) := x_get (C := RX0) (T := TX0) F dd rfl inx0 2 (by decide) kw_157 rfl ho rfl (vl_i rfl) kk
theorem pf_X7_117 (F : Fx Γ cc "GatesBent" nL ret P d mc ms) (dd : decode cc pc = .ok (.putfield 117, 3)) (ho : V (4, t, j)) (kk : XX Γ nL V ad (vl ad (upM μ (4, t, j) 2 z)) cs sl (pc + 3) L st) : XX Γ nL V ad (vl ad μ) cs sl pc L (.int (I z) :: .ref (ad (4, t, j)) :: st) := x_put (C := RX0) (T := TX0) F dd rfl inx0 tyX0 tyX0_ok nmX0 2 (by decide) kw_157 rfl rfl ho rfl rfl rfl (put_kk (z := z) rfl kk)
theorem gf_X0_25 (F : Fx Γ cc "GatesBent$Comer" nL ret P d mc ms) (dd : decode cc pc = .ok (.getfield 25, 3)) (ho : V (4, t, j)) (kk : XX Γ nL V ad (vl ad μ) cs sl (pc + 3) L (.int (I (μ (4, t, j) 3)) :: st)) : XX Γ nL V ad (vl ad μ) cs sl pc L (.ref (ad (4, t, j)) :: st) := x_get (C := RX0) (T := TX0) F dd rfl inx0 3 (by decide) kw_158 rfl ho rfl (vl_i rfl) kk
theorem pf_X0_25 (F : Fx Γ cc "GatesBent$Comer" nL ret P d mc ms) (dd : decode cc pc = .ok (.putfield 25, 3)) (ho : V (4, t, j)) (kk : XX Γ nL V ad (vl ad (upM μ (4, t, j) 3 z)) cs sl (pc + 3) L st) : XX Γ nL V ad (vl ad μ) cs sl pc L (.int (I z) :: .ref (ad (4, t, j)) :: st) := x_put (C := RX0) (T := TX0) F dd rfl inx0 tyX0 tyX0_ok nmX0 3 (by decide) kw_158 rfl rfl ho rfl rfl rfl (put_kk (z := z) rfl kk)
theorem gf_X6_61 (F : Fx Γ cc "GatesBent$Town" nL ret P d mc ms) (dd : decode cc pc = .ok (.getfield 61, 3)) (ho : V (4, t, j)) (kk : XX Γ nL V ad (vl ad μ) cs sl (pc + 3) L (.int (I (μ (4, t, j) 3)) :: st)) : XX Γ nL V ad (vl ad μ) cs sl pc L (.ref (ad (4, t, j)) :: st) := x_get (C := RX0) (T := TX0) F dd rfl inx0 3 (by decide) kw_159 rfl ho rfl (vl_i rfl) kk
theorem pf_X6_61 (F : Fx Γ cc "GatesBent$Town" nL ret P d mc ms) (dd : decode cc pc = .ok (.putfield 61, 3)) (ho : V (4, t, j)) (kk : XX Γ nL V ad (vl ad (upM μ (4, t, j) 3 z)) cs sl (pc + 3) L st) : XX Γ nL V ad (vl ad μ) cs sl pc L (.int (I z) :: .ref (ad (4, t, j)) :: st) := x_put (C := RX0) (T := TX0) F dd rfl inx0 tyX0 tyX0_ok nmX0 3 (by decide) kw_159 rfl rfl ho rfl rfl rfl (put_kk (z := z) rfl kk)
theorem gf_X7_120 (F : Fx Γ cc "GatesBent" nL ret P d mc ms) (dd : decode cc pc = .ok (.getfield 120, 3)) (ho : V (4, t, j)) (kk : XX Γ nL V ad (vl ad μ) cs sl (pc + 3) L (.int (I (μ (4, t, j) 3)) :: st)) : XX Γ nL V ad (vl ad μ) cs sl pc L (.ref (ad (4, t, j)) :: st) := x_get (C := RX0) (T := TX0) F dd rfl inx0 3 (by decide) kw_160 rfl ho rfl (vl_i rfl) kk
theorem pf_X7_120 (F : Fx Γ cc "GatesBent" nL ret P d mc ms) (dd : decode cc pc = .ok (.putfield 120, 3)) (ho : V (4, t, j)) (kk : XX Γ nL V ad (vl ad (upM μ (4, t, j) 3 z)) cs sl (pc + 3) L st) : XX Γ nL V ad (vl ad μ) cs sl pc L (.int (I z) :: .ref (ad (4, t, j)) :: st) := x_put (C := RX0) (T := TX0) F dd rfl inx0 tyX0 tyX0_ok nmX0 3 (by decide) kw_160 rfl rfl ho rfl rfl rfl (put_kk (z := z) rfl kk)
theorem gf_X0_28 (F : Fx Γ cc "GatesBent$Comer" nL ret P d mc ms) (dd : decode cc pc = .ok (.getfield 28, 3)) (ho : V (4, t, j)) (kk : XX Γ nL V ad (vl ad μ) cs sl (pc + 3) L (.int (I (μ (4, t, j) 4)) :: st)) : XX Γ nL V ad (vl ad μ) cs sl pc L (.ref (ad (4, t, j)) :: st) := x_get (C := RX0) (T := TX0) F dd rfl inx0 4 (by decide) kw_161 rfl ho rfl (vl_i rfl) kk
theorem pf_X0_28 (F : Fx Γ cc "GatesBent$Comer" nL ret P d mc ms) (dd : decode cc pc = .ok (.putfield 28, 3)) (ho : V (4, t, j)) (kk : XX Γ nL V ad (vl ad (upM μ (4, t, j) 4 z)) cs sl (pc + 3) L st) : XX Γ nL V ad (vl ad μ) cs sl pc L (.int (I z) :: .ref (ad (4, t, j)) :: st) := x_put (C := RX0) (T := TX0) F dd rfl inx0 tyX0 tyX0_ok nmX0 4 (by decide) kw_161 rfl rfl ho rfl rfl rfl (put_kk (z := z) rfl kk)
theorem gf_X6_83 (F : Fx Γ cc "GatesBent$Town" nL ret P d mc ms) (dd : decode cc pc = .ok (.getfield 83, 3)) (ho : V (4, t, j)) (kk : XX Γ nL V ad (vl ad μ) cs sl (pc + 3) L (.int (I (μ (4, t, j) 4)) :: st)) : XX Γ nL V ad (vl ad μ) cs sl pc L (.ref (ad (4, t, j)) :: st) := x_get (C := RX0) (T := TX0) F dd rfl inx0 4 (by decide) kw_162 rfl ho rfl (vl_i rfl) kk
theorem pf_X6_83 (F : Fx Γ cc "GatesBent$Town" nL ret P d mc ms) (dd : decode cc pc = .ok (.putfield 83, 3)) (ho : V (4, t, j)) (kk : XX Γ nL V ad (vl ad (upM μ (4, t, j) 4 z)) cs sl (pc + 3) L st) : XX Γ nL V ad (vl ad μ) cs sl pc L (.int (I z) :: .ref (ad (4, t, j)) :: st) := x_put (C := RX0) (T := TX0) F dd rfl inx0 tyX0 tyX0_ok nmX0 4 (by decide) kw_162 rfl rfl ho rfl rfl rfl (put_kk (z := z) rfl kk)
theorem gf_X7_123 (F : Fx Γ cc "GatesBent" nL ret P d mc ms) (dd : decode cc pc = .ok (.getfield 123, 3)) (ho : V (4, t, j)) (kk : XX Γ nL V ad (vl ad μ) cs sl (pc + 3) L (.int (I (μ (4, t, j) 4)) :: st)) : XX Γ nL V ad (vl ad μ) cs sl pc L (.ref (ad (4, t, j)) :: st) := x_get (C := RX0) (T := TX0) F dd rfl inx0 4 (by decide) kw_163 rfl ho rfl (vl_i rfl) kk
theorem pf_X7_123 (F : Fx Γ cc "GatesBent" nL ret P d mc ms) (dd : decode cc pc = .ok (.putfield 123, 3)) (ho : V (4, t, j)) (kk : XX Γ nL V ad (vl ad (upM μ (4, t, j) 4 z)) cs sl (pc + 3) L st) : XX Γ nL V ad (vl ad μ) cs sl pc L (.int (I z) :: .ref (ad (4, t, j)) :: st) := x_put (C := RX0) (T := TX0) F dd rfl inx0 tyX0 tyX0_ok nmX0 4 (by decide) kw_163 rfl rfl ho rfl rfl rfl (put_kk (z := z) rfl kk)
theorem gf_X0_31 (F : Fx Γ cc "GatesBent$Comer" nL ret P d mc ms) (dd : decode cc pc = .ok (.getfield 31, 3)) (ho : V (4, t, j)) (kk : XX Γ nL V ad (vl ad μ) cs sl (pc + 3) L (.int (I (μ (4, t, j) 5)) :: st)) : XX Γ nL V ad (vl ad μ) cs sl pc L (.ref (ad (4, t, j)) :: st) := x_get (C := RX0) (T := TX0) F dd rfl inx0 5 (by decide) kw_164 rfl ho rfl (vl_i rfl) kk
theorem pf_X0_31 (F : Fx Γ cc "GatesBent$Comer" nL ret P d mc ms) (dd : decode cc pc = .ok (.putfield 31, 3)) (ho : V (4, t, j)) (kk : XX Γ nL V ad (vl ad (upM μ (4, t, j) 5 z)) cs sl (pc + 3) L st) : XX Γ nL V ad (vl ad μ) cs sl pc L (.int (I z) :: .ref (ad (4, t, j)) :: st) := x_put (C := RX0) (T := TX0) F dd rfl inx0 tyX0 tyX0_ok nmX0 5 (by decide) kw_164 rfl rfl ho rfl rfl rfl (put_kk (z := z) rfl kk)
theorem gf_X6_91 (F : Fx Γ cc "GatesBent$Town" nL ret P d mc ms) (dd : decode cc pc = .ok (.getfield 91, 3)) (ho : V (4, t, j)) (kk : XX Γ nL V ad (vl ad μ) cs sl (pc + 3) L (.int (I (μ (4, t, j) 5)) :: st)) : XX Γ nL V ad (vl ad μ) cs sl pc L (.ref (ad (4, t, j)) :: st) := x_get (C := RX0) (T := TX0) F dd rfl inx0 5 (by decide) kw_165 rfl ho rfl (vl_i rfl) kk
theorem pf_X6_91 (F : Fx Γ cc "GatesBent$Town" nL ret P d mc ms) (dd : decode cc pc = .ok (.putfield 91, 3)) (ho : V (4, t, j)) (kk : XX Γ nL V ad (vl ad (upM μ (4, t, j) 5 z)) cs sl (pc + 3) L st) : XX Γ nL V ad (vl ad μ) cs sl pc L (.int (I z) :: .ref (ad (4, t, j)) :: st) := x_put (C := RX0) (T := TX0) F dd rfl inx0 tyX0 tyX0_ok nmX0 5 (by decide) kw_165 rfl rfl ho rfl rfl rfl (put_kk (z := z) rfl kk)
theorem gf_X2_47 (F : Fx Γ cc "GatesBent$House" nL ret P d mc ms) (dd : decode cc pc = .ok (.getfield 47, 3)) (ho : V (4, t, j)) (kk : XX Γ nL V ad (vl ad μ) cs sl (pc + 3) L (.int (I (μ (4, t, j) 5)) :: st)) : XX Γ nL V ad (vl ad μ) cs sl pc L (.ref (ad (4, t, j)) :: st) := x_get (C := RX0) (T := TX0) F dd rfl inx0 5 (by decide) kw_166 rfl ho rfl (vl_i rfl) kk
theorem pf_X2_47 (F : Fx Γ cc "GatesBent$House" nL ret P d mc ms) (dd : decode cc pc = .ok (.putfield 47, 3)) (ho : V (4, t, j)) (kk : XX Γ nL V ad (vl ad (upM μ (4, t, j) 5 z)) cs sl (pc + 3) L st) : XX Γ nL V ad (vl ad μ) cs sl pc L (.int (I z) :: .ref (ad (4, t, j)) :: st) := x_put (C := RX0) (T := TX0) F dd rfl inx0 tyX0 tyX0_ok nmX0 5 (by decide) kw_166 rfl rfl ho rfl rfl rfl (put_kk (z := z) rfl kk)
theorem gf_X7_126 (F : Fx Γ cc "GatesBent" nL ret P d mc ms) (dd : decode cc pc = .ok (.getfield 126, 3)) (ho : V (4, t, j)) (kk : XX Γ nL V ad (vl ad μ) cs sl (pc + 3) L (.int (I (μ (4, t, j) 5)) :: st)) : XX Γ nL V ad (vl ad μ) cs sl pc L (.ref (ad (4, t, j)) :: st) := x_get (C := RX0) (T := TX0) F dd rfl inx0 5 (by decide) kw_167 rfl ho rfl (vl_i rfl) kk
theorem pf_X7_126 (F : Fx Γ cc "GatesBent" nL ret P d mc ms) (dd : decode cc pc = .ok (.putfield 126, 3)) (ho : V (4, t, j)) (kk : XX Γ nL V ad (vl ad (upM μ (4, t, j) 5 z)) cs sl (pc + 3) L st) : XX Γ nL V ad (vl ad μ) cs sl pc L (.int (I z) :: .ref (ad (4, t, j)) :: st) := x_put (C := RX0) (T := TX0) F dd rfl inx0 tyX0 tyX0_ok nmX0 5 (by decide) kw_167 rfl rfl ho rfl rfl rfl (put_kk (z := z) rfl kk)
theorem gf_X0_34 (F : Fx Γ cc "GatesBent$Comer" nL ret P d mc ms) (dd : decode cc pc = .ok (.getfield 34, 3)) (ho : V (4, t, j)) (kk : XX Γ nL V ad (vl ad μ) cs sl (pc + 3) L (.int (I (μ (4, t, j) 6)) :: st)) : XX Γ nL V ad (vl ad μ) cs sl pc L (.ref (ad (4, t, j)) :: st) := x_get (C := RX0) (T := TX0) F dd rfl inx0 6 (by decide) kw_168 rfl ho rfl (vl_i rfl) kk
theorem pf_X0_34 (F : Fx Γ cc "GatesBent$Comer" nL ret P d mc ms) (dd : decode cc pc = .ok (.putfield 34, 3)) (ho : V (4, t, j)) (kk : XX Γ nL V ad (vl ad (upM μ (4, t, j) 6 z)) cs sl (pc + 3) L st) : XX Γ nL V ad (vl ad μ) cs sl pc L (.int (I z) :: .ref (ad (4, t, j)) :: st) := x_put (C := RX0) (T := TX0) F dd rfl inx0 tyX0 tyX0_ok nmX0 6 (by decide) kw_168 rfl rfl ho rfl rfl rfl (put_kk (z := z) rfl kk)
theorem gf_X6_113 (F : Fx Γ cc "GatesBent$Town" nL ret P d mc ms) (dd : decode cc pc = .ok (.getfield 113, 3)) (ho : V (4, t, j)) (kk : XX Γ nL V ad (vl ad μ) cs sl (pc + 3) L (.int (I (μ (4, t, j) 6)) :: st)) : XX Γ nL V ad (vl ad μ) cs sl pc L (.ref (ad (4, t, j)) :: st) := x_get (C := RX0) (T := TX0) F dd rfl inx0 6 (by decide) kw_169 rfl ho rfl (vl_i rfl) kk
theorem pf_X6_113 (F : Fx Γ cc "GatesBent$Town" nL ret P d mc ms) (dd : decode cc pc = .ok (.putfield 113, 3)) (ho : V (4, t, j)) (kk : XX Γ nL V ad (vl ad (upM μ (4, t, j) 6 z)) cs sl (pc + 3) L st) : XX Γ nL V ad (vl ad μ) cs sl pc L (.int (I z) :: .ref (ad (4, t, j)) :: st) := x_put (C := RX0) (T := TX0) F dd rfl inx0 tyX0 tyX0_ok nmX0 6 (by decide) kw_169 rfl rfl ho rfl rfl rfl (put_kk (z := z) rfl kk)
theorem gf_X7_129 (F : Fx Γ cc "GatesBent" nL ret P d mc ms) (dd : decode cc pc = .ok (.getfield 129, 3)) (ho : V (4, t, j)) (kk : XX Γ nL V ad (vl ad μ) cs sl (pc + 3) L (.int (I (μ (4, t, j) 6)) :: st)) : XX Γ nL V ad (vl ad μ) cs sl pc L (.ref (ad (4, t, j)) :: st) := x_get (C := RX0) (T := TX0) F dd rfl inx0 6 (by decide) kw_170 rfl ho rfl (vl_i rfl) kk
theorem pf_X7_129 (F : Fx Γ cc "GatesBent" nL ret P d mc ms) (dd : decode cc pc = .ok (.putfield 129, 3)) (ho : V (4, t, j)) (kk : XX Γ nL V ad (vl ad (upM μ (4, t, j) 6 z)) cs sl (pc + 3) L st) : XX Γ nL V ad (vl ad μ) cs sl pc L (.int (I z) :: .ref (ad (4, t, j)) :: st) := x_put (C := RX0) (T := TX0) F dd rfl inx0 tyX0 tyX0_ok nmX0 6 (by decide) kw_170 rfl rfl ho rfl rfl rfl (put_kk (z := z) rfl kk)
theorem gf_X0_9 (F : Fx Γ cc "GatesBent$Comer" nL ret P d mc ms) (dd : decode cc pc = .ok (.getfield 9, 3)) (ho : V (4, t, j)) (kk : XX Γ nL V ad (vl ad μ) cs sl (pc + 3) L (.ref (ad (5, t, j)) :: st)) : XX Γ nL V ad (vl ad μ) cs sl pc L (.ref (ad (4, t, j)) :: st) := x_get (C := RX0) (T := TX0) F dd rfl inx0 7 (by decide) kw_171 rfl ho rfl (vl_st rfl) kk
theorem gf_X6_94 (F : Fx Γ cc "GatesBent$Town" nL ret P d mc ms) (dd : decode cc pc = .ok (.getfield 94, 3)) (ho : V (4, t, j)) (kk : XX Γ nL V ad (vl ad μ) cs sl (pc + 3) L (.ref (ad (5, t, j)) :: st)) : XX Γ nL V ad (vl ad μ) cs sl pc L (.ref (ad (4, t, j)) :: st) := x_get (C := RX0) (T := TX0) F dd rfl inx0 7 (by decide) kw_172 rfl ho rfl (vl_st rfl) kk
theorem gf_X7_159 (F : Fx Γ cc "GatesBent" nL ret P d mc ms) (dd : decode cc pc = .ok (.getfield 159, 3)) (ho : V (4, t, j)) (kk : XX Γ nL V ad (vl ad μ) cs sl (pc + 3) L (.ref (ad (5, t, j)) :: st)) : XX Γ nL V ad (vl ad μ) cs sl pc L (.ref (ad (4, t, j)) :: st) := x_get (C := RX0) (T := TX0) F dd rfl inx0 7 (by decide) kw_173 rfl ho rfl (vl_st rfl) kk
theorem gf_X2_9 (F : Fx Γ cc "GatesBent$House" nL ret P d mc ms) (dd : decode cc pc = .ok (.getfield 9, 3)) (ho : V (12, t, j)) (kk : XX Γ nL V ad (vl ad μ) cs sl (pc + 3) L (.ref (ad (13, t, 0)) :: st)) : XX Γ nL V ad (vl ad μ) cs sl pc L (.ref (ad (12, t, j)) :: st) := x_get (C := RX2) (T := TX2) F dd rfl inx2 0 (by decide) kw_196 rfl ho rfl (vl_st rfl) kk
theorem gf_X2_15 (F : Fx Γ cc "GatesBent$House" nL ret P d mc ms) (dd : decode cc pc = .ok (.getfield 15, 3)) (ho : V (12, t, j)) (kk : XX Γ nL V ad (vl ad μ) cs sl (pc + 3) L (.ref (ad (14, t, 0)) :: st)) : XX Γ nL V ad (vl ad μ) cs sl pc L (.ref (ad (12, t, j)) :: st) := x_get (C := RX2) (T := TX2) F dd rfl inx2 1 (by decide) kw_197 rfl ho rfl (vl_st rfl) kk
theorem gf_X2_22 (F : Fx Γ cc "GatesBent$House" nL ret P d mc ms) (dd : decode cc pc = .ok (.getfield 22, 3)) (ho : V (12, t, j)) (kk : XX Γ nL V ad (vl ad μ) cs sl (pc + 3) L (.int (I (μ (12, t, j) 2)) :: st)) : XX Γ nL V ad (vl ad μ) cs sl pc L (.ref (ad (12, t, j)) :: st) := x_get (C := RX2) (T := TX2) F dd rfl inx2 2 (by decide) kw_198 rfl ho rfl (vl_i rfl) kk
theorem pf_X2_22 (F : Fx Γ cc "GatesBent$House" nL ret P d mc ms) (dd : decode cc pc = .ok (.putfield 22, 3)) (ho : V (12, t, j)) (kk : XX Γ nL V ad (vl ad (upM μ (12, t, j) 2 z)) cs sl (pc + 3) L st) : XX Γ nL V ad (vl ad μ) cs sl pc L (.int (I z) :: .ref (ad (12, t, j)) :: st) := x_put (C := RX2) (T := TX2) F dd rfl inx2 tyX2 tyX2_ok nmX2 2 (by decide) kw_198 rfl rfl ho rfl rfl rfl (put_kk (z := z) rfl kk)
theorem gf_X2_18 (F : Fx Γ cc "GatesBent$House" nL ret P d mc ms) (dd : decode cc pc = .ok (.getfield 18, 3)) (ho : V (12, t, j)) (kk : XX Γ nL V ad (vl ad μ) cs sl (pc + 3) L (.int (I (μ (12, t, j) 3)) :: st)) : XX Γ nL V ad (vl ad μ) cs sl pc L (.ref (ad (12, t, j)) :: st) := x_get (C := RX2) (T := TX2) F dd rfl inx2 3 (by decide) kw_199 rfl ho rfl (vl_i rfl) kk
theorem pf_X2_18 (F : Fx Γ cc "GatesBent$House" nL ret P d mc ms) (dd : decode cc pc = .ok (.putfield 18, 3)) (ho : V (12, t, j)) (kk : XX Γ nL V ad (vl ad (upM μ (12, t, j) 3 z)) cs sl (pc + 3) L st) : XX Γ nL V ad (vl ad μ) cs sl pc L (.int (I z) :: .ref (ad (12, t, j)) :: st) := x_put (C := RX2) (T := TX2) F dd rfl inx2 tyX2 tyX2_ok nmX2 3 (by decide) kw_199 rfl rfl ho rfl rfl rfl (put_kk (z := z) rfl kk)
theorem gf_X3_46 (F : Fx Γ cc "GatesBent$Reader" nL ret P d mc ms) (dd : decode cc pc = .ok (.getfield 46, 3)) (ho : V (12, t, j)) (kk : XX Γ nL V ad (vl ad μ) cs sl (pc + 3) L (.int (I (μ (12, t, j) 3)) :: st)) : XX Γ nL V ad (vl ad μ) cs sl pc L (.ref (ad (12, t, j)) :: st) := x_get (C := RX2) (T := TX2) F dd rfl inx2 3 (by decide) kw_200 rfl ho rfl (vl_i rfl) kk
theorem pf_X3_46 (F : Fx Γ cc "GatesBent$Reader" nL ret P d mc ms) (dd : decode cc pc = .ok (.putfield 46, 3)) (ho : V (12, t, j)) (kk : XX Γ nL V ad (vl ad (upM μ (12, t, j) 3 z)) cs sl (pc + 3) L st) : XX Γ nL V ad (vl ad μ) cs sl pc L (.int (I z) :: .ref (ad (12, t, j)) :: st) := x_put (C := RX2) (T := TX2) F dd rfl inx2 tyX2 tyX2_ok nmX2 3 (by decide) kw_200 rfl rfl ho rfl rfl rfl (put_kk (z := z) rfl kk)
theorem gf_X6_98 (F : Fx Γ cc "GatesBent$Town" nL ret P d mc ms) (dd : decode cc pc = .ok (.getfield 98, 3)) (ho : V (12, t, j)) (kk : XX Γ nL V ad (vl ad μ) cs sl (pc + 3) L (.int (I (μ (12, t, j) 3)) :: st)) : XX Γ nL V ad (vl ad μ) cs sl pc L (.ref (ad (12, t, j)) :: st) := x_get (C := RX2) (T := TX2) F dd rfl inx2 3 (by decide) kw_201 rfl ho rfl (vl_i rfl) kk
theorem pf_X6_98 (F : Fx Γ cc "GatesBent$Town" nL ret P d mc ms) (dd : decode cc pc = .ok (.putfield 98, 3)) (ho : V (12, t, j)) (kk : XX Γ nL V ad (vl ad (upM μ (12, t, j) 3 z)) cs sl (pc + 3) L st) : XX Γ nL V ad (vl ad μ) cs sl pc L (.int (I z) :: .ref (ad (12, t, j)) :: st) := x_put (C := RX2) (T := TX2) F dd rfl inx2 tyX2 tyX2_ok nmX2 3 (by decide) kw_201 rfl rfl ho rfl rfl rfl (put_kk (z := z) rfl kk)
theorem gf_X7_189 (F : Fx Γ cc "GatesBent" nL ret P d mc ms) (dd : decode cc pc = .ok (.getfield 189, 3)) (ho : V (12, t, j)) (kk : XX Γ nL V ad (vl ad μ) cs sl (pc + 3) L (.int (I (μ (12, t, j) 3)) :: st)) : XX Γ nL V ad (vl ad μ) cs sl pc L (.ref (ad (12, t, j)) :: st) := x_get (C := RX2) (T := TX2) F dd rfl inx2 3 (by decide) kw_202 rfl ho rfl (vl_i rfl) kk
theorem pf_X7_189 (F : Fx Γ cc "GatesBent" nL ret P d mc ms) (dd : decode cc pc = .ok (.putfield 189, 3)) (ho : V (12, t, j)) (kk : XX Γ nL V ad (vl ad (upM μ (12, t, j) 3 z)) cs sl (pc + 3) L st) : XX Γ nL V ad (vl ad μ) cs sl pc L (.int (I z) :: .ref (ad (12, t, j)) :: st) := x_put (C := RX2) (T := TX2) F dd rfl inx2 tyX2 tyX2_ok nmX2 3 (by decide) kw_202 rfl rfl ho rfl rfl rfl (put_kk (z := z) rfl kk)
theorem gf_X2_25 (F : Fx Γ cc "GatesBent$House" nL ret P d mc ms) (dd : decode cc pc = .ok (.getfield 25, 3)) (ho : V (12, t, j)) (kk : XX Γ nL V ad (vl ad μ) cs sl (pc + 3) L (.int (I (μ (12, t, j) 4)) :: st)) : XX Γ nL V ad (vl ad μ) cs sl pc L (.ref (ad (12, t, j)) :: st) := x_get (C := RX2) (T := TX2) F dd rfl inx2 4 (by decide) kw_203 rfl ho rfl (vl_i rfl) kk
theorem pf_X2_25 (F : Fx Γ cc "GatesBent$House" nL ret P d mc ms) (dd : decode cc pc = .ok (.putfield 25, 3)) (ho : V (12, t, j)) (kk : XX Γ nL V ad (vl ad (upM μ (12, t, j) 4 z)) cs sl (pc + 3) L st) : XX Γ nL V ad (vl ad μ) cs sl pc L (.int (I z) :: .ref (ad (12, t, j)) :: st) := x_put (C := RX2) (T := TX2) F dd rfl inx2 tyX2 tyX2_ok nmX2 4 (by decide) kw_203 rfl rfl ho rfl rfl rfl (put_kk (z := z) rfl kk)
theorem gf_X3_49 (F : Fx Γ cc "GatesBent$Reader" nL ret P d mc ms) (dd : decode cc pc = .ok (.getfield 49, 3)) (ho : V (12, t, j)) (kk : XX Γ nL V ad (vl ad μ) cs sl (pc + 3) L (.int (I (μ (12, t, j) 4)) :: st)) : XX Γ nL V ad (vl ad μ) cs sl pc L (.ref (ad (12, t, j)) :: st) := x_get (C := RX2) (T := TX2) F dd rfl inx2 4 (by decide) kw_204 rfl ho rfl (vl_i rfl) kk
theorem pf_X3_49 (F : Fx Γ cc "GatesBent$Reader" nL ret P d mc ms) (dd : decode cc pc = .ok (.putfield 49, 3)) (ho : V (12, t, j)) (kk : XX Γ nL V ad (vl ad (upM μ (12, t, j) 4 z)) cs sl (pc + 3) L st) : XX Γ nL V ad (vl ad μ) cs sl pc L (.int (I z) :: .ref (ad (12, t, j)) :: st) := x_put (C := RX2) (T := TX2) F dd rfl inx2 tyX2 tyX2_ok nmX2 4 (by decide) kw_204 rfl rfl ho rfl rfl rfl (put_kk (z := z) rfl kk)
theorem gf_X6_119 (F : Fx Γ cc "GatesBent$Town" nL ret P d mc ms) (dd : decode cc pc = .ok (.getfield 119, 3)) (ho : V (12, t, j)) (kk : XX Γ nL V ad (vl ad μ) cs sl (pc + 3) L (.int (I (μ (12, t, j) 4)) :: st)) : XX Γ nL V ad (vl ad μ) cs sl pc L (.ref (ad (12, t, j)) :: st) := x_get (C := RX2) (T := TX2) F dd rfl inx2 4 (by decide) kw_205 rfl ho rfl (vl_i rfl) kk
theorem pf_X6_119 (F : Fx Γ cc "GatesBent$Town" nL ret P d mc ms) (dd : decode cc pc = .ok (.putfield 119, 3)) (ho : V (12, t, j)) (kk : XX Γ nL V ad (vl ad (upM μ (12, t, j) 4 z)) cs sl (pc + 3) L st) : XX Γ nL V ad (vl ad μ) cs sl pc L (.int (I z) :: .ref (ad (12, t, j)) :: st) := x_put (C := RX2) (T := TX2) F dd rfl inx2 tyX2 tyX2_ok nmX2 4 (by decide) kw_205 rfl rfl ho rfl rfl rfl (put_kk (z := z) rfl kk)
theorem gf_X7_192 (F : Fx Γ cc "GatesBent" nL ret P d mc ms) (dd : decode cc pc = .ok (.getfield 192, 3)) (ho : V (12, t, j)) (kk : XX Γ nL V ad (vl ad μ) cs sl (pc + 3) L (.int (I (μ (12, t, j) 4)) :: st)) : XX Γ nL V ad (vl ad μ) cs sl pc L (.ref (ad (12, t, j)) :: st) := x_get (C := RX2) (T := TX2) F dd rfl inx2 4 (by decide) kw_206 rfl ho rfl (vl_i rfl) kk
theorem pf_X7_192 (F : Fx Γ cc "GatesBent" nL ret P d mc ms) (dd : decode cc pc = .ok (.putfield 192, 3)) (ho : V (12, t, j)) (kk : XX Γ nL V ad (vl ad (upM μ (12, t, j) 4 z)) cs sl (pc + 3) L st) : XX Γ nL V ad (vl ad μ) cs sl pc L (.int (I z) :: .ref (ad (12, t, j)) :: st) := x_put (C := RX2) (T := TX2) F dd rfl inx2 tyX2 tyX2_ok nmX2 4 (by decide) kw_206 rfl rfl ho rfl rfl rfl (put_kk (z := z) rfl kk)
theorem gf_X4_9 (F : Fx Γ cc "GatesBent$Rows" nL ret P d mc ms) (dd : decode cc pc = .ok (.getfield 9, 3)) (ho : V (6, t, j)) (kk : XX Γ nL V ad (vl ad μ) cs sl (pc + 3) L (.ref (ad (7, t, j)) :: st)) : XX Γ nL V ad (vl ad μ) cs sl pc L (.ref (ad (6, t, j)) :: st) := x_get (C := RX4) (T := TX4) F dd rfl inx4 0 (by decide) kw_234 rfl ho rfl (vl_st rfl) kk
theorem gf_X6_129 (F : Fx Γ cc "GatesBent$Town" nL ret P d mc ms) (dd : decode cc pc = .ok (.getfield 129, 3)) (ho : V (6, t, j)) (kk : XX Γ nL V ad (vl ad μ) cs sl (pc + 3) L (.ref (ad (7, t, j)) :: st)) : XX Γ nL V ad (vl ad μ) cs sl pc L (.ref (ad (6, t, j)) :: st) := x_get (C := RX4) (T := TX4) F dd rfl inx4 0 (by decide) kw_235 rfl ho rfl (vl_st rfl) kk
theorem gf_X7_245 (F : Fx Γ cc "GatesBent" nL ret P d mc ms) (dd : decode cc pc = .ok (.getfield 245, 3)) (ho : V (6, t, j)) (kk : XX Γ nL V ad (vl ad μ) cs sl (pc + 3) L (.ref (ad (7, t, j)) :: st)) : XX Γ nL V ad (vl ad μ) cs sl pc L (.ref (ad (6, t, j)) :: st) := x_get (C := RX4) (T := TX4) F dd rfl inx4 0 (by decide) kw_236 rfl ho rfl (vl_st rfl) kk
theorem gf_X4_15 (F : Fx Γ cc "GatesBent$Rows" nL ret P d mc ms) (dd : decode cc pc = .ok (.getfield 15, 3)) (ho : V (6, t, j)) (kk : XX Γ nL V ad (vl ad μ) cs sl (pc + 3) L (.ref (ad (8, t, j)) :: st)) : XX Γ nL V ad (vl ad μ) cs sl pc L (.ref (ad (6, t, j)) :: st) := x_get (C := RX4) (T := TX4) F dd rfl inx4 1 (by decide) kw_237 rfl ho rfl (vl_st rfl) kk
theorem gf_X6_126 (F : Fx Γ cc "GatesBent$Town" nL ret P d mc ms) (dd : decode cc pc = .ok (.getfield 126, 3)) (ho : V (6, t, j)) (kk : XX Γ nL V ad (vl ad μ) cs sl (pc + 3) L (.ref (ad (8, t, j)) :: st)) : XX Γ nL V ad (vl ad μ) cs sl pc L (.ref (ad (6, t, j)) :: st) := x_get (C := RX4) (T := TX4) F dd rfl inx4 1 (by decide) kw_238 rfl ho rfl (vl_st rfl) kk
theorem gf_X7_248 (F : Fx Γ cc "GatesBent" nL ret P d mc ms) (dd : decode cc pc = .ok (.getfield 248, 3)) (ho : V (6, t, j)) (kk : XX Γ nL V ad (vl ad μ) cs sl (pc + 3) L (.ref (ad (8, t, j)) :: st)) : XX Γ nL V ad (vl ad μ) cs sl pc L (.ref (ad (6, t, j)) :: st) := x_get (C := RX4) (T := TX4) F dd rfl inx4 1 (by decide) kw_239 rfl ho rfl (vl_st rfl) kk
theorem gf_X4_18 (F : Fx Γ cc "GatesBent$Rows" nL ret P d mc ms) (dd : decode cc pc = .ok (.getfield 18, 3)) (ho : V (6, t, j)) (kk : XX Γ nL V ad (vl ad μ) cs sl (pc + 3) L (.ref (ad (9, t, j)) :: st)) : XX Γ nL V ad (vl ad μ) cs sl pc L (.ref (ad (6, t, j)) :: st) := x_get (C := RX4) (T := TX4) F dd rfl inx4 2 (by decide) kw_240 rfl ho rfl (vl_st rfl) kk
theorem gf_X7_251 (F : Fx Γ cc "GatesBent" nL ret P d mc ms) (dd : decode cc pc = .ok (.getfield 251, 3)) (ho : V (6, t, j)) (kk : XX Γ nL V ad (vl ad μ) cs sl (pc + 3) L (.ref (ad (9, t, j)) :: st)) : XX Γ nL V ad (vl ad μ) cs sl pc L (.ref (ad (6, t, j)) :: st) := x_get (C := RX4) (T := TX4) F dd rfl inx4 2 (by decide) kw_241 rfl ho rfl (vl_st rfl) kk
theorem gf_X4_21 (F : Fx Γ cc "GatesBent$Rows" nL ret P d mc ms) (dd : decode cc pc = .ok (.getfield 21, 3)) (ho : V (6, t, j)) (kk : XX Γ nL V ad (vl ad μ) cs sl (pc + 3) L (.int (I (μ (6, t, j) 3)) :: st)) : XX Γ nL V ad (vl ad μ) cs sl pc L (.ref (ad (6, t, j)) :: st) := x_get (C := RX4) (T := TX4) F dd rfl inx4 3 (by decide) kw_242 rfl ho rfl (vl_i rfl) kk
theorem pf_X4_21 (F : Fx Γ cc "GatesBent$Rows" nL ret P d mc ms) (dd : decode cc pc = .ok (.putfield 21, 3)) (ho : V (6, t, j)) (kk : XX Γ nL V ad (vl ad (upM μ (6, t, j) 3 z)) cs sl (pc + 3) L st) : XX Γ nL V ad (vl ad μ) cs sl pc L (.int (I z) :: .ref (ad (6, t, j)) :: st) := x_put (C := RX4) (T := TX4) F dd rfl inx4 tyX4 tyX4_ok nmX4 3 (by decide) kw_242 rfl rfl ho rfl rfl rfl (put_kk (z := z) rfl kk)
theorem gf_X6_125 (F : Fx Γ cc "GatesBent$Town" nL ret P d mc ms) (dd : decode cc pc = .ok (.getfield 125, 3)) (ho : V (6, t, j)) (kk : XX Γ nL V ad (vl ad μ) cs sl (pc + 3) L (.int (I (μ (6, t, j) 3)) :: st)) : XX Γ nL V ad (vl ad μ) cs sl pc L (.ref (ad (6, t, j)) :: st) := x_get (C := RX4) (T := TX4) F dd rfl inx4 3 (by decide) kw_243 rfl ho rfl (vl_i rfl) kk
theorem pf_X6_125 (F : Fx Γ cc "GatesBent$Town" nL ret P d mc ms) (dd : decode cc pc = .ok (.putfield 125, 3)) (ho : V (6, t, j)) (kk : XX Γ nL V ad (vl ad (upM μ (6, t, j) 3 z)) cs sl (pc + 3) L st) : XX Γ nL V ad (vl ad μ) cs sl pc L (.int (I z) :: .ref (ad (6, t, j)) :: st) := x_put (C := RX4) (T := TX4) F dd rfl inx4 tyX4 tyX4_ok nmX4 3 (by decide) kw_243 rfl rfl ho rfl rfl rfl (put_kk (z := z) rfl kk)
theorem gf_X7_244 (F : Fx Γ cc "GatesBent" nL ret P d mc ms) (dd : decode cc pc = .ok (.getfield 244, 3)) (ho : V (6, t, j)) (kk : XX Γ nL V ad (vl ad μ) cs sl (pc + 3) L (.int (I (μ (6, t, j) 3)) :: st)) : XX Γ nL V ad (vl ad μ) cs sl pc L (.ref (ad (6, t, j)) :: st) := x_get (C := RX4) (T := TX4) F dd rfl inx4 3 (by decide) kw_244 rfl ho rfl (vl_i rfl) kk
theorem pf_X7_244 (F : Fx Γ cc "GatesBent" nL ret P d mc ms) (dd : decode cc pc = .ok (.putfield 244, 3)) (ho : V (6, t, j)) (kk : XX Γ nL V ad (vl ad (upM μ (6, t, j) 3 z)) cs sl (pc + 3) L st) : XX Γ nL V ad (vl ad μ) cs sl pc L (.int (I z) :: .ref (ad (6, t, j)) :: st) := x_put (C := RX4) (T := TX4) F dd rfl inx4 tyX4 tyX4_ok nmX4 3 (by decide) kw_244 rfl rfl ho rfl rfl rfl (put_kk (z := z) rfl kk)
theorem gf_X6_11 (F : Fx Γ cc "GatesBent$Town" nL ret P d mc ms) (dd : decode cc pc = .ok (.getfield 11, 3)) (ho : V (1, t, j)) (kk : XX Γ nL V ad (vl ad μ) cs sl (pc + 3) L (.ref (ad (10, t, 0)) :: st)) : XX Γ nL V ad (vl ad μ) cs sl pc L (.ref (ad (1, t, j)) :: st) := x_get (C := RX6) (T := TX6) F dd rfl inx6 0 (by decide) kw_256 rfl ho rfl (vl_st rfl) kk
theorem gf_X7_135 (F : Fx Γ cc "GatesBent" nL ret P d mc ms) (dd : decode cc pc = .ok (.getfield 135, 3)) (ho : V (1, t, j)) (kk : XX Γ nL V ad (vl ad μ) cs sl (pc + 3) L (.ref (ad (10, t, 0)) :: st)) : XX Γ nL V ad (vl ad μ) cs sl pc L (.ref (ad (1, t, j)) :: st) := x_get (C := RX6) (T := TX6) F dd rfl inx6 0 (by decide) kw_257 rfl ho rfl (vl_st rfl) kk
theorem gf_X6_19 (F : Fx Γ cc "GatesBent$Town" nL ret P d mc ms) (dd : decode cc pc = .ok (.getfield 19, 3)) (ho : V (1, t, j)) (kk : XX Γ nL V ad (vl ad μ) cs sl (pc + 3) L (.ref (ad (11, t, 0)) :: st)) : XX Γ nL V ad (vl ad μ) cs sl pc L (.ref (ad (1, t, j)) :: st) := x_get (C := RX6) (T := TX6) F dd rfl inx6 1 (by decide) kw_258 rfl ho rfl (vl_st rfl) kk
theorem gf_X7_94 (F : Fx Γ cc "GatesBent" nL ret P d mc ms) (dd : decode cc pc = .ok (.getfield 94, 3)) (ho : V (1, t, j)) (kk : XX Γ nL V ad (vl ad μ) cs sl (pc + 3) L (.ref (ad (11, t, 0)) :: st)) : XX Γ nL V ad (vl ad μ) cs sl pc L (.ref (ad (1, t, j)) :: st) := x_get (C := RX6) (T := TX6) F dd rfl inx6 1 (by decide) kw_259 rfl ho rfl (vl_st rfl) kk
theorem gf_X6_28 (F : Fx Γ cc "GatesBent$Town" nL ret P d mc ms) (dd : decode cc pc = .ok (.getfield 28, 3)) (ho : V (1, t, j)) (kk : XX Γ nL V ad (vl ad μ) cs sl (pc + 3) L (.ref (ad (6, t, 0)) :: st)) : XX Γ nL V ad (vl ad μ) cs sl pc L (.ref (ad (1, t, j)) :: st) := x_get (C := RX6) (T := TX6) F dd rfl inx6 2 (by decide) kw_260 rfl ho rfl (vl_st rfl) kk
theorem gf_X7_232 (F : Fx Γ cc "GatesBent" nL ret P d mc ms) (dd : decode cc pc = .ok (.getfield 232, 3)) (ho : V (1, t, j)) (kk : XX Γ nL V ad (vl ad μ) cs sl (pc + 3) L (.ref (ad (6, t, 0)) :: st)) : XX Γ nL V ad (vl ad μ) cs sl pc L (.ref (ad (1, t, j)) :: st) := x_get (C := RX6) (T := TX6) F dd rfl inx6 2 (by decide) kw_261 rfl ho rfl (vl_st rfl) kk
theorem gf_X6_32 (F : Fx Γ cc "GatesBent$Town" nL ret P d mc ms) (dd : decode cc pc = .ok (.getfield 32, 3)) (ho : V (1, t, j)) (kk : XX Γ nL V ad (vl ad μ) cs sl (pc + 3) L (.ref (ad (6, t, 1)) :: st)) : XX Γ nL V ad (vl ad μ) cs sl pc L (.ref (ad (1, t, j)) :: st) := x_get (C := RX6) (T := TX6) F dd rfl inx6 3 (by decide) kw_262 rfl ho rfl (vl_st rfl) kk
theorem gf_X7_278 (F : Fx Γ cc "GatesBent" nL ret P d mc ms) (dd : decode cc pc = .ok (.getfield 278, 3)) (ho : V (1, t, j)) (kk : XX Γ nL V ad (vl ad μ) cs sl (pc + 3) L (.ref (ad (6, t, 1)) :: st)) : XX Γ nL V ad (vl ad μ) cs sl pc L (.ref (ad (1, t, j)) :: st) := x_get (C := RX6) (T := TX6) F dd rfl inx6 3 (by decide) kw_263 rfl ho rfl (vl_st rfl) kk
theorem gf_X6_35 (F : Fx Γ cc "GatesBent$Town" nL ret P d mc ms) (dd : decode cc pc = .ok (.getfield 35, 3)) (ho : V (1, t, j)) (kk : XX Γ nL V ad (vl ad μ) cs sl (pc + 3) L (.ref (ad (6, t, 2)) :: st)) : XX Γ nL V ad (vl ad μ) cs sl pc L (.ref (ad (1, t, j)) :: st) := x_get (C := RX6) (T := TX6) F dd rfl inx6 4 (by decide) kw_264 rfl ho rfl (vl_st rfl) kk
theorem gf_X7_287 (F : Fx Γ cc "GatesBent" nL ret P d mc ms) (dd : decode cc pc = .ok (.getfield 287, 3)) (ho : V (1, t, j)) (kk : XX Γ nL V ad (vl ad μ) cs sl (pc + 3) L (.ref (ad (6, t, 2)) :: st)) : XX Γ nL V ad (vl ad μ) cs sl pc L (.ref (ad (1, t, j)) :: st) := x_get (C := RX6) (T := TX6) F dd rfl inx6 4 (by decide) kw_265 rfl ho rfl (vl_st rfl) kk
theorem gf_X6_54 (F : Fx Γ cc "GatesBent$Town" nL ret P d mc ms) (dd : decode cc pc = .ok (.getfield 54, 3)) (ho : V (1, t, j)) (kk : XX Γ nL V ad (vl ad μ) cs sl (pc + 3) L (.int (I (μ (1, t, j) 5)) :: st)) : XX Γ nL V ad (vl ad μ) cs sl pc L (.ref (ad (1, t, j)) :: st) := x_get (C := RX6) (T := TX6) F dd rfl inx6 5 (by decide) kw_266 rfl ho rfl (vl_i rfl) kk
theorem pf_X6_54 (F : Fx Γ cc "GatesBent$Town" nL ret P d mc ms) (dd : decode cc pc = .ok (.putfield 54, 3)) (ho : V (1, t, j)) (kk : XX Γ nL V ad (vl ad (upM μ (1, t, j) 5 z)) cs sl (pc + 3) L st) : XX Γ nL V ad (vl ad μ) cs sl pc L (.int (I z) :: .ref (ad (1, t, j)) :: st) := x_put (C := RX6) (T := TX6) F dd rfl inx6 tyX6 tyX6_ok nmX6 5 (by decide) kw_266 rfl rfl ho rfl rfl rfl (put_kk (z := z) rfl kk)
theorem gf_X7_79 (F : Fx Γ cc "GatesBent" nL ret P d mc ms) (dd : decode cc pc = .ok (.getfield 79, 3)) (ho : V (1, t, j)) (kk : XX Γ nL V ad (vl ad μ) cs sl (pc + 3) L (.int (I (μ (1, t, j) 5)) :: st)) : XX Γ nL V ad (vl ad μ) cs sl pc L (.ref (ad (1, t, j)) :: st) := x_get (C := RX6) (T := TX6) F dd rfl inx6 5 (by decide) kw_267 rfl ho rfl (vl_i rfl) kk
theorem pf_X7_79 (F : Fx Γ cc "GatesBent" nL ret P d mc ms) (dd : decode cc pc = .ok (.putfield 79, 3)) (ho : V (1, t, j)) (kk : XX Γ nL V ad (vl ad (upM μ (1, t, j) 5 z)) cs sl (pc + 3) L st) : XX Γ nL V ad (vl ad μ) cs sl pc L (.int (I z) :: .ref (ad (1, t, j)) :: st) := x_put (C := RX6) (T := TX6) F dd rfl inx6 tyX6 tyX6_ok nmX6 5 (by decide) kw_267 rfl rfl ho rfl rfl rfl (put_kk (z := z) rfl kk)
theorem gf_X6_58 (F : Fx Γ cc "GatesBent$Town" nL ret P d mc ms) (dd : decode cc pc = .ok (.getfield 58, 3)) (ho : V (1, t, j)) (kk : XX Γ nL V ad (vl ad μ) cs sl (pc + 3) L (.int (I (μ (1, t, j) 6)) :: st)) : XX Γ nL V ad (vl ad μ) cs sl pc L (.ref (ad (1, t, j)) :: st) := x_get (C := RX6) (T := TX6) F dd rfl inx6 6 (by decide) kw_268 rfl ho rfl (vl_i rfl) kk
theorem pf_X6_58 (F : Fx Γ cc "GatesBent$Town" nL ret P d mc ms) (dd : decode cc pc = .ok (.putfield 58, 3)) (ho : V (1, t, j)) (kk : XX Γ nL V ad (vl ad (upM μ (1, t, j) 6 z)) cs sl (pc + 3) L st) : XX Γ nL V ad (vl ad μ) cs sl pc L (.int (I z) :: .ref (ad (1, t, j)) :: st) := x_put (C := RX6) (T := TX6) F dd rfl inx6 tyX6 tyX6_ok nmX6 6 (by decide) kw_268 rfl rfl ho rfl rfl rfl (put_kk (z := z) rfl kk)
theorem gf_X7_153 (F : Fx Γ cc "GatesBent" nL ret P d mc ms) (dd : decode cc pc = .ok (.getfield 153, 3)) (ho : V (1, t, j)) (kk : XX Γ nL V ad (vl ad μ) cs sl (pc + 3) L (.int (I (μ (1, t, j) 6)) :: st)) : XX Γ nL V ad (vl ad μ) cs sl pc L (.ref (ad (1, t, j)) :: st) := x_get (C := RX6) (T := TX6) F dd rfl inx6 6 (by decide) kw_269 rfl ho rfl (vl_i rfl) kk
theorem pf_X7_153 (F : Fx Γ cc "GatesBent" nL ret P d mc ms) (dd : decode cc pc = .ok (.putfield 153, 3)) (ho : V (1, t, j)) (kk : XX Γ nL V ad (vl ad (upM μ (1, t, j) 6 z)) cs sl (pc + 3) L st) : XX Γ nL V ad (vl ad μ) cs sl pc L (.int (I z) :: .ref (ad (1, t, j)) :: st) := x_put (C := RX6) (T := TX6) F dd rfl inx6 tyX6 tyX6_ok nmX6 6 (by decide) kw_269 rfl rfl ho rfl rfl rfl (put_kk (z := z) rfl kk)
theorem gf_X6_38 (F : Fx Γ cc "GatesBent$Town" nL ret P d mc ms) (dd : decode cc pc = .ok (.getfield 38, 3)) (ho : V (1, t, j)) (kk : XX Γ nL V ad (vl ad μ) cs sl (pc + 3) L (hvl ad (μ (1, t, j) 7) :: st)) : XX Γ nL V ad (vl ad μ) cs sl pc L (.ref (ad (1, t, j)) :: st) := x_get (C := RX6) (T := TX6) F dd rfl inx6 7 (by decide) kw_270 rfl ho rfl (vl_h rfl) kk
theorem pf_X6_38 (F : Fx Γ cc "GatesBent$Town" nL ret P d mc ms) {v : Value} (dd : decode cc pc = .ok (.putfield 38, 3)) (ho : V (1, t, j)) (hv : v = hvl ad z) (hf : fits (tyX6 7) v = true) (kk : XX Γ nL V ad (vl ad (upM μ (1, t, j) 7 z)) cs sl (pc + 3) L st) : XX Γ nL V ad (vl ad μ) cs sl pc L (v :: .ref (ad (1, t, j)) :: st) := x_put (C := RX6) (T := TX6) F dd rfl inx6 tyX6 tyX6_ok nmX6 7 (by decide) kw_270 rfl rfl ho rfl (by cases v <;> rfl) hf (put_kk (z := z) hv.symm kk)
theorem gf_X7_179 (F : Fx Γ cc "GatesBent" nL ret P d mc ms) (dd : decode cc pc = .ok (.getfield 179, 3)) (ho : V (1, t, j)) (kk : XX Γ nL V ad (vl ad μ) cs sl (pc + 3) L (hvl ad (μ (1, t, j) 7) :: st)) : XX Γ nL V ad (vl ad μ) cs sl pc L (.ref (ad (1, t, j)) :: st) := x_get (C := RX6) (T := TX6) F dd rfl inx6 7 (by decide) kw_271 rfl ho rfl (vl_h rfl) kk
theorem pf_X7_179 (F : Fx Γ cc "GatesBent" nL ret P d mc ms) {v : Value} (dd : decode cc pc = .ok (.putfield 179, 3)) (ho : V (1, t, j)) (hv : v = hvl ad z) (hf : fits (tyX6 7) v = true) (kk : XX Γ nL V ad (vl ad (upM μ (1, t, j) 7 z)) cs sl (pc + 3) L st) : XX Γ nL V ad (vl ad μ) cs sl pc L (v :: .ref (ad (1, t, j)) :: st) := x_put (C := RX6) (T := TX6) F dd rfl inx6 tyX6 tyX6_ok nmX6 7 (by decide) kw_271 rfl rfl ho rfl (by cases v <;> rfl) hf (put_kk (z := z) hv.symm kk)
theorem gf_X5_9 (F : Fx Γ cc "GatesBent$Tape" nL ret P d mc ms) (dd : decode cc pc = .ok (.getfield 9, 3)) (ho : V (20, t, j)) (kk : XX Γ nL V ad (vl ad μ) cs sl (pc + 3) L (.ref (ad (21, t, 0)) :: st)) : XX Γ nL V ad (vl ad μ) cs sl pc L (.ref (ad (20, t, j)) :: st) := x_get (C := RX5) (T := TX5) F dd rfl inx5 0 (by decide) kw_294 rfl ho rfl (vl_st rfl) kk
theorem gf_X7_296 (F : Fx Γ cc "GatesBent" nL ret P d mc ms) (dd : decode cc pc = .ok (.getfield 296, 3)) (ho : V (20, t, j)) (kk : XX Γ nL V ad (vl ad μ) cs sl (pc + 3) L (.ref (ad (21, t, 0)) :: st)) : XX Γ nL V ad (vl ad μ) cs sl pc L (.ref (ad (20, t, j)) :: st) := x_get (C := RX5) (T := TX5) F dd rfl inx5 0 (by decide) kw_295 rfl ho rfl (vl_st rfl) kk
theorem gf_X5_15 (F : Fx Γ cc "GatesBent$Tape" nL ret P d mc ms) (dd : decode cc pc = .ok (.getfield 15, 3)) (ho : V (20, t, j)) (kk : XX Γ nL V ad (vl ad μ) cs sl (pc + 3) L (.int (I (μ (20, t, j) 1)) :: st)) : XX Γ nL V ad (vl ad μ) cs sl pc L (.ref (ad (20, t, j)) :: st) := x_get (C := RX5) (T := TX5) F dd rfl inx5 1 (by decide) kw_296 rfl ho rfl (vl_i rfl) kk
theorem pf_X5_15 (F : Fx Γ cc "GatesBent$Tape" nL ret P d mc ms) (dd : decode cc pc = .ok (.putfield 15, 3)) (ho : V (20, t, j)) (kk : XX Γ nL V ad (vl ad (upM μ (20, t, j) 1 z)) cs sl (pc + 3) L st) : XX Γ nL V ad (vl ad μ) cs sl pc L (.int (I z) :: .ref (ad (20, t, j)) :: st) := x_put (C := RX5) (T := TX5) F dd rfl inx5 tyX5 tyX5_ok nmX5 1 (by decide) kw_296 rfl rfl ho rfl rfl rfl (put_kk (z := z) rfl kk)
theorem gf_X7_290 (F : Fx Γ cc "GatesBent" nL ret P d mc ms) (dd : decode cc pc = .ok (.getfield 290, 3)) (ho : V (20, t, j)) (kk : XX Γ nL V ad (vl ad μ) cs sl (pc + 3) L (.int (I (μ (20, t, j) 1)) :: st)) : XX Γ nL V ad (vl ad μ) cs sl pc L (.ref (ad (20, t, j)) :: st) := x_get (C := RX5) (T := TX5) F dd rfl inx5 1 (by decide) kw_297 rfl ho rfl (vl_i rfl) kk
theorem pf_X7_290 (F : Fx Γ cc "GatesBent" nL ret P d mc ms) (dd : decode cc pc = .ok (.putfield 290, 3)) (ho : V (20, t, j)) (kk : XX Γ nL V ad (vl ad (upM μ (20, t, j) 1 z)) cs sl (pc + 3) L st) : XX Γ nL V ad (vl ad μ) cs sl pc L (.int (I z) :: .ref (ad (20, t, j)) :: st) := x_put (C := RX5) (T := TX5) F dd rfl inx5 tyX5 tyX5_ok nmX5 1 (by decide) kw_297 rfl rfl ho rfl rfl rfl (put_kk (z := z) rfl kk)
theorem gf_X5_19 (F : Fx Γ cc "GatesBent$Tape" nL ret P d mc ms) (dd : decode cc pc = .ok (.getfield 19, 3)) (ho : V (20, t, j)) (kk : XX Γ nL V ad (vl ad μ) cs sl (pc + 3) L (.int (I (μ (20, t, j) 2)) :: st)) : XX Γ nL V ad (vl ad μ) cs sl pc L (.ref (ad (20, t, j)) :: st) := x_get (C := RX5) (T := TX5) F dd rfl inx5 2 (by decide) kw_298 rfl ho rfl (vl_i rfl) kk
theorem pf_X5_19 (F : Fx Γ cc "GatesBent$Tape" nL ret P d mc ms) (dd : decode cc pc = .ok (.putfield 19, 3)) (ho : V (20, t, j)) (kk : XX Γ nL V ad (vl ad (upM μ (20, t, j) 2 z)) cs sl (pc + 3) L st) : XX Γ nL V ad (vl ad μ) cs sl pc L (.int (I z) :: .ref (ad (20, t, j)) :: st) := x_put (C := RX5) (T := TX5) F dd rfl inx5 tyX5 tyX5_ok nmX5 2 (by decide) kw_298 rfl rfl ho rfl rfl rfl (put_kk (z := z) rfl kk)
theorem gf_X7_62 (F : Fx Γ cc "GatesBent" nL ret P d mc ms) (dd : decode cc pc = .ok (.getfield 62, 3)) (ho : V (0, t, j)) (kk : XX Γ nL V ad (vl ad μ) cs sl (pc + 3) L (.ref (ad (1, 0, 0)) :: st)) : XX Γ nL V ad (vl ad μ) cs sl pc L (.ref (ad (0, t, j)) :: st) := x_get (C := RX7) (T := TX7) F dd rfl inx7 0 (by decide) kw_307 rfl ho rfl (vl_st rfl) kk
theorem gf_X7_66 (F : Fx Γ cc "GatesBent" nL ret P d mc ms) (dd : decode cc pc = .ok (.getfield 66, 3)) (ho : V (0, t, j)) (kk : XX Γ nL V ad (vl ad μ) cs sl (pc + 3) L (.ref (ad (1, 1, 0)) :: st)) : XX Γ nL V ad (vl ad μ) cs sl pc L (.ref (ad (0, t, j)) :: st) := x_get (C := RX7) (T := TX7) F dd rfl inx7 1 (by decide) kw_308 rfl ho rfl (vl_st rfl) kk
theorem gf_X7_69 (F : Fx Γ cc "GatesBent" nL ret P d mc ms) (dd : decode cc pc = .ok (.getfield 69, 3)) (ho : V (0, t, j)) (kk : XX Γ nL V ad (vl ad μ) cs sl (pc + 3) L (.ref (ad (1, 2, 0)) :: st)) : XX Γ nL V ad (vl ad μ) cs sl pc L (.ref (ad (0, t, j)) :: st) := x_get (C := RX7) (T := TX7) F dd rfl inx7 2 (by decide) kw_309 rfl ho rfl (vl_st rfl) kk
theorem gf_X7_300 (F : Fx Γ cc "GatesBent" nL ret P d mc ms) (dd : decode cc pc = .ok (.getfield 300, 3)) (ho : V (0, t, j)) (kk : XX Γ nL V ad (vl ad μ) cs sl (pc + 3) L (.int (I (μ (0, t, j) 3)) :: st)) : XX Γ nL V ad (vl ad μ) cs sl pc L (.ref (ad (0, t, j)) :: st) := x_get (C := RX7) (T := TX7) F dd rfl inx7 3 (by decide) kw_310 rfl ho rfl (vl_i rfl) kk
theorem pf_X7_300 (F : Fx Γ cc "GatesBent" nL ret P d mc ms) (dd : decode cc pc = .ok (.putfield 300, 3)) (ho : V (0, t, j)) (hz : narrow .boolean (.int (I z)) = .int (I z)) (hf : fits .boolean (.int (I z)) = true) (kk : XX Γ nL V ad (vl ad (upM μ (0, t, j) 3 z)) cs sl (pc + 3) L st) : XX Γ nL V ad (vl ad μ) cs sl pc L (.int (I z) :: .ref (ad (0, t, j)) :: st) := x_put (C := RX7) (T := TX7) F dd rfl inx7 tyX7 tyX7_ok nmX7 3 (by decide) kw_310 rfl rfl ho rfl hz hf (put_kk (z := z) rfl kk)
theorem gf_X7_12 (F : Fx Γ cc "GatesBent" nL ret P d mc ms) (dd : decode cc pc = .ok (.getfield 12, 3)) (ho : V (0, t, j)) (kk : XX Γ nL V ad (vl ad μ) cs sl (pc + 3) L (.ref (ad (15, 0, 0)) :: st)) : XX Γ nL V ad (vl ad μ) cs sl pc L (.ref (ad (0, t, j)) :: st) := x_get (C := RX7) (T := TX7) F dd rfl inx7 4 (by decide) kw_311 rfl ho rfl (vl_st rfl) kk
theorem gf_X7_20 (F : Fx Γ cc "GatesBent" nL ret P d mc ms) (dd : decode cc pc = .ok (.getfield 20, 3)) (ho : V (0, t, j)) (kk : XX Γ nL V ad (vl ad μ) cs sl (pc + 3) L (.ref (ad (17, 0, 0)) :: st)) : XX Γ nL V ad (vl ad μ) cs sl pc L (.ref (ad (0, t, j)) :: st) := x_get (C := RX7) (T := TX7) F dd rfl inx7 5 (by decide) kw_312 rfl ho rfl (vl_st rfl) kk
theorem gf_X7_169 (F : Fx Γ cc "GatesBent" nL ret P d mc ms) (dd : decode cc pc = .ok (.getfield 169, 3)) (ho : V (0, t, j)) (kk : XX Γ nL V ad (vl ad μ) cs sl (pc + 3) L (.int (I (μ (0, t, j) 6)) :: st)) : XX Γ nL V ad (vl ad μ) cs sl pc L (.ref (ad (0, t, j)) :: st) := x_get (C := RX7) (T := TX7) F dd rfl inx7 6 (by decide) kw_313 rfl ho rfl (vl_i rfl) kk
theorem pf_X7_169 (F : Fx Γ cc "GatesBent" nL ret P d mc ms) (dd : decode cc pc = .ok (.putfield 169, 3)) (ho : V (0, t, j)) (kk : XX Γ nL V ad (vl ad (upM μ (0, t, j) 6 z)) cs sl (pc + 3) L st) : XX Γ nL V ad (vl ad μ) cs sl pc L (.int (I z) :: .ref (ad (0, t, j)) :: st) := x_put (C := RX7) (T := TX7) F dd rfl inx7 tyX7 tyX7_ok nmX7 6 (by decide) kw_313 rfl rfl ho rfl rfl rfl (put_kk (z := z) rfl kk)
theorem gf_X7_24 (F : Fx Γ cc "GatesBent" nL ret P d mc ms) (dd : decode cc pc = .ok (.getfield 24, 3)) (ho : V (0, t, j)) (kk : XX Γ nL V ad (vl ad μ) cs sl (pc + 3) L (.ref (ad (18, 0, 0)) :: st)) : XX Γ nL V ad (vl ad μ) cs sl pc L (.ref (ad (0, t, j)) :: st) := x_get (C := RX7) (T := TX7) F dd rfl inx7 7 (by decide) kw_314 rfl ho rfl (vl_st rfl) kk
theorem gf_X7_304 (F : Fx Γ cc "GatesBent" nL ret P d mc ms) (dd : decode cc pc = .ok (.getfield 304, 3)) (ho : V (0, t, j)) (kk : XX Γ nL V ad (vl ad μ) cs sl (pc + 3) L (.int (I (μ (0, t, j) 8)) :: st)) : XX Γ nL V ad (vl ad μ) cs sl pc L (.ref (ad (0, t, j)) :: st) := x_get (C := RX7) (T := TX7) F dd rfl inx7 8 (by decide) kw_315 rfl ho rfl (vl_i rfl) kk
theorem pf_X7_304 (F : Fx Γ cc "GatesBent" nL ret P d mc ms) (dd : decode cc pc = .ok (.putfield 304, 3)) (ho : V (0, t, j)) (kk : XX Γ nL V ad (vl ad (upM μ (0, t, j) 8 z)) cs sl (pc + 3) L st) : XX Γ nL V ad (vl ad μ) cs sl pc L (.int (I z) :: .ref (ad (0, t, j)) :: st) := x_put (C := RX7) (T := TX7) F dd rfl inx7 tyX7 tyX7_ok nmX7 8 (by decide) kw_315 rfl rfl ho rfl rfl rfl (put_kk (z := z) rfl kk)
theorem gf_X7_30 (F : Fx Γ cc "GatesBent" nL ret P d mc ms) (dd : decode cc pc = .ok (.getfield 30, 3)) (ho : V (0, t, j)) (kk : XX Γ nL V ad (vl ad μ) cs sl (pc + 3) L (.ref (ad (19, 0, 0)) :: st)) : XX Γ nL V ad (vl ad μ) cs sl pc L (.ref (ad (0, t, j)) :: st) := x_get (C := RX7) (T := TX7) F dd rfl inx7 9 (by decide) kw_316 rfl ho rfl (vl_st rfl) kk
theorem gf_X7_37 (F : Fx Γ cc "GatesBent" nL ret P d mc ms) (dd : decode cc pc = .ok (.getfield 37, 3)) (ho : V (0, t, j)) (kk : XX Γ nL V ad (vl ad μ) cs sl (pc + 3) L (.ref (ad (2, 3, 0)) :: st)) : XX Γ nL V ad (vl ad μ) cs sl pc L (.ref (ad (0, t, j)) :: st) := x_get (C := RX7) (T := TX7) F dd rfl inx7 10 (by decide) kw_317 rfl ho rfl (vl_st rfl) kk
theorem gf_X7_46 (F : Fx Γ cc "GatesBent" nL ret P d mc ms) (dd : decode cc pc = .ok (.getfield 46, 3)) (ho : V (0, t, j)) (kk : XX Γ nL V ad (vl ad μ) cs sl (pc + 3) L (.ref (ad (4, 3, 0)) :: st)) : XX Γ nL V ad (vl ad μ) cs sl pc L (.ref (ad (0, t, j)) :: st) := x_get (C := RX7) (T := TX7) F dd rfl inx7 11 (by decide) kw_318 rfl ho rfl (vl_st rfl) kk
theorem gf_X7_50 (F : Fx Γ cc "GatesBent" nL ret P d mc ms) (dd : decode cc pc = .ok (.getfield 50, 3)) (ho : V (0, t, j)) (kk : XX Γ nL V ad (vl ad μ) cs sl (pc + 3) L (.ref (ad (22, 0, 0)) :: st)) : XX Γ nL V ad (vl ad μ) cs sl pc L (.ref (ad (0, t, j)) :: st) := x_get (C := RX7) (T := TX7) F dd rfl inx7 12 (by decide) kw_319 rfl ho rfl (vl_st rfl) kk
theorem gf_X7_53 (F : Fx Γ cc "GatesBent" nL ret P d mc ms) (dd : decode cc pc = .ok (.getfield 53, 3)) (ho : V (0, t, j)) (kk : XX Γ nL V ad (vl ad μ) cs sl (pc + 3) L (.ref (ad (23, 0, 0)) :: st)) : XX Γ nL V ad (vl ad μ) cs sl pc L (.ref (ad (0, t, j)) :: st) := x_get (C := RX7) (T := TX7) F dd rfl inx7 13 (by decide) kw_320 rfl ho rfl (vl_st rfl) kk
theorem gf_X8_9 (F : Fx Γ cc "GatesBentModel" nL ret P d mc ms) (dd : decode cc pc = .ok (.getfield 9, 3)) (ho : V (30, t, j)) (kk : XX Γ nL V ad (vl ad μ) cs sl (pc + 3) L (.ref (ad (31, 0, 0)) :: st)) : XX Γ nL V ad (vl ad μ) cs sl pc L (.ref (ad (30, t, j)) :: st) := x_get (C := RX8) (T := TX8) F dd rfl inx8 0 (by decide) kw_826 rfl ho rfl (vl_st rfl) kk
theorem gf_X8_15 (F : Fx Γ cc "GatesBentModel" nL ret P d mc ms) (dd : decode cc pc = .ok (.getfield 15, 3)) (ho : V (30, t, j)) (kk : XX Γ nL V ad (vl ad μ) cs sl (pc + 3) L (.ref (ad (32, 0, 0)) :: st)) : XX Γ nL V ad (vl ad μ) cs sl pc L (.ref (ad (30, t, j)) :: st) := x_get (C := RX8) (T := TX8) F dd rfl inx8 1 (by decide) kw_827 rfl ho rfl (vl_st rfl) kk
theorem gf_X8_18 (F : Fx Γ cc "GatesBentModel" nL ret P d mc ms) (dd : decode cc pc = .ok (.getfield 18, 3)) (ho : V (30, t, j)) (kk : XX Γ nL V ad (vl ad μ) cs sl (pc + 3) L (.ref (ad (33, 0, 0)) :: st)) : XX Γ nL V ad (vl ad μ) cs sl pc L (.ref (ad (30, t, j)) :: st) := x_get (C := RX8) (T := TX8) F dd rfl inx8 2 (by decide) kw_828 rfl ho rfl (vl_st rfl) kk
theorem gf_X8_74 (F : Fx Γ cc "GatesBentModel" nL ret P d mc ms) (dd : decode cc pc = .ok (.getfield 74, 3)) (ho : V (30, t, j)) (kk : XX Γ nL V ad (vl ad μ) cs sl (pc + 3) L (.int (I (μ (30, t, j) 3)) :: st)) : XX Γ nL V ad (vl ad μ) cs sl pc L (.ref (ad (30, t, j)) :: st) := x_get (C := RX8) (T := TX8) F dd rfl inx8 3 (by decide) kw_829 rfl ho rfl (vl_i rfl) kk
theorem pf_X8_74 (F : Fx Γ cc "GatesBentModel" nL ret P d mc ms) (dd : decode cc pc = .ok (.putfield 74, 3)) (ho : V (30, t, j)) (hz : narrow .boolean (.int (I z)) = .int (I z)) (hf : fits .boolean (.int (I z)) = true) (kk : XX Γ nL V ad (vl ad (upM μ (30, t, j) 3 z)) cs sl (pc + 3) L st) : XX Γ nL V ad (vl ad μ) cs sl pc L (.int (I z) :: .ref (ad (30, t, j)) :: st) := x_put (C := RX8) (T := TX8) F dd rfl inx8 tyX8 tyX8_ok nmX8 3 (by decide) kw_829 rfl rfl ho rfl hz hf (put_kk (z := z) rfl kk)
theorem gf_X8_21 (F : Fx Γ cc "GatesBentModel" nL ret P d mc ms) (dd : decode cc pc = .ok (.getfield 21, 3)) (ho : V (30, t, j)) (kk : XX Γ nL V ad (vl ad μ) cs sl (pc + 3) L (.ref (ad (34, 0, 0)) :: st)) : XX Γ nL V ad (vl ad μ) cs sl pc L (.ref (ad (30, t, j)) :: st) := x_get (C := RX8) (T := TX8) F dd rfl inx8 4 (by decide) kw_830 rfl ho rfl (vl_st rfl) kk
theorem gf_X8_121 (F : Fx Γ cc "GatesBentModel" nL ret P d mc ms) (dd : decode cc pc = .ok (.getfield 121, 3)) (ho : V (30, t, j)) (kk : XX Γ nL V ad (vl ad μ) cs sl (pc + 3) L (.int (I (μ (30, t, j) 5)) :: st)) : XX Γ nL V ad (vl ad μ) cs sl pc L (.ref (ad (30, t, j)) :: st) := x_get (C := RX8) (T := TX8) F dd rfl inx8 5 (by decide) kw_831 rfl ho rfl (vl_i rfl) kk
theorem pf_X8_121 (F : Fx Γ cc "GatesBentModel" nL ret P d mc ms) (dd : decode cc pc = .ok (.putfield 121, 3)) (ho : V (30, t, j)) (kk : XX Γ nL V ad (vl ad (upM μ (30, t, j) 5 z)) cs sl (pc + 3) L st) : XX Γ nL V ad (vl ad μ) cs sl pc L (.int (I z) :: .ref (ad (30, t, j)) :: st) := x_put (C := RX8) (T := TX8) F dd rfl inx8 tyX8 tyX8_ok nmX8 5 (by decide) kw_831 rfl rfl ho rfl rfl rfl (put_kk (z := z) rfl kk)
theorem gf_X8_24 (F : Fx Γ cc "GatesBentModel" nL ret P d mc ms) (dd : decode cc pc = .ok (.getfield 24, 3)) (ho : V (30, t, j)) (kk : XX Γ nL V ad (vl ad μ) cs sl (pc + 3) L (.ref (ad (35, 0, 0)) :: st)) : XX Γ nL V ad (vl ad μ) cs sl pc L (.ref (ad (30, t, j)) :: st) := x_get (C := RX8) (T := TX8) F dd rfl inx8 6 (by decide) kw_832 rfl ho rfl (vl_st rfl) kk
theorem gf_X8_27 (F : Fx Γ cc "GatesBentModel" nL ret P d mc ms) (dd : decode cc pc = .ok (.getfield 27, 3)) (ho : V (30, t, j)) (kk : XX Γ nL V ad (vl ad μ) cs sl (pc + 3) L (.ref (ad (36, 0, 0)) :: st)) : XX Γ nL V ad (vl ad μ) cs sl pc L (.ref (ad (30, t, j)) :: st) := x_get (C := RX8) (T := TX8) F dd rfl inx8 7 (by decide) kw_833 rfl ho rfl (vl_st rfl) kk
theorem gf_X8_179 (F : Fx Γ cc "GatesBentModel" nL ret P d mc ms) (dd : decode cc pc = .ok (.getfield 179, 3)) (ho : V (30, t, j)) (kk : XX Γ nL V ad (vl ad μ) cs sl (pc + 3) L (.int (I (μ (30, t, j) 8)) :: st)) : XX Γ nL V ad (vl ad μ) cs sl pc L (.ref (ad (30, t, j)) :: st) := x_get (C := RX8) (T := TX8) F dd rfl inx8 8 (by decide) kw_834 rfl ho rfl (vl_i rfl) kk
theorem pf_X8_179 (F : Fx Γ cc "GatesBentModel" nL ret P d mc ms) (dd : decode cc pc = .ok (.putfield 179, 3)) (ho : V (30, t, j)) (kk : XX Γ nL V ad (vl ad (upM μ (30, t, j) 8 z)) cs sl (pc + 3) L st) : XX Γ nL V ad (vl ad μ) cs sl pc L (.int (I z) :: .ref (ad (30, t, j)) :: st) := x_put (C := RX8) (T := TX8) F dd rfl inx8 tyX8 tyX8_ok nmX8 8 (by decide) kw_834 rfl rfl ho rfl rfl rfl (put_kk (z := z) rfl kk)
theorem gf_X8_30 (F : Fx Γ cc "GatesBentModel" nL ret P d mc ms) (dd : decode cc pc = .ok (.getfield 30, 3)) (ho : V (30, t, j)) (kk : XX Γ nL V ad (vl ad μ) cs sl (pc + 3) L (.ref (ad (37, 0, 0)) :: st)) : XX Γ nL V ad (vl ad μ) cs sl pc L (.ref (ad (30, t, j)) :: st) := x_get (C := RX8) (T := TX8) F dd rfl inx8 9 (by decide) kw_835 rfl ho rfl (vl_st rfl) kk
theorem gf_X8_131 (F : Fx Γ cc "GatesBentModel" nL ret P d mc ms) (dd : decode cc pc = .ok (.getfield 131, 3)) (ho : V (30, t, j)) (kk : XX Γ nL V ad (vl ad μ) cs sl (pc + 3) L (.int (I (μ (30, t, j) 10)) :: st)) : XX Γ nL V ad (vl ad μ) cs sl pc L (.ref (ad (30, t, j)) :: st) := x_get (C := RX8) (T := TX8) F dd rfl inx8 10 (by decide) kw_836 rfl ho rfl (vl_i rfl) kk
theorem pf_X8_131 (F : Fx Γ cc "GatesBentModel" nL ret P d mc ms) (dd : decode cc pc = .ok (.putfield 131, 3)) (ho : V (30, t, j)) (kk : XX Γ nL V ad (vl ad (upM μ (30, t, j) 10 z)) cs sl (pc + 3) L st) : XX Γ nL V ad (vl ad μ) cs sl pc L (.int (I z) :: .ref (ad (30, t, j)) :: st) := x_put (C := RX8) (T := TX8) F dd rfl inx8 tyX8 tyX8_ok nmX8 10 (by decide) kw_836 rfl rfl ho rfl rfl rfl (put_kk (z := z) rfl kk)
theorem gf_X8_128 (F : Fx Γ cc "GatesBentModel" nL ret P d mc ms) (dd : decode cc pc = .ok (.getfield 128, 3)) (ho : V (30, t, j)) (kk : XX Γ nL V ad (vl ad μ) cs sl (pc + 3) L (.int (I (μ (30, t, j) 11)) :: st)) : XX Γ nL V ad (vl ad μ) cs sl pc L (.ref (ad (30, t, j)) :: st) := x_get (C := RX8) (T := TX8) F dd rfl inx8 11 (by decide) kw_837 rfl ho rfl (vl_i rfl) kk
theorem pf_X8_128 (F : Fx Γ cc "GatesBentModel" nL ret P d mc ms) (dd : decode cc pc = .ok (.putfield 128, 3)) (ho : V (30, t, j)) (kk : XX Γ nL V ad (vl ad (upM μ (30, t, j) 11 z)) cs sl (pc + 3) L st) : XX Γ nL V ad (vl ad μ) cs sl pc L (.int (I z) :: .ref (ad (30, t, j)) :: st) := x_put (C := RX8) (T := TX8) F dd rfl inx8 tyX8 tyX8_ok nmX8 11 (by decide) kw_837 rfl rfl ho rfl rfl rfl (put_kk (z := z) rfl kk)
theorem gf_X8_125 (F : Fx Γ cc "GatesBentModel" nL ret P d mc ms) (dd : decode cc pc = .ok (.getfield 125, 3)) (ho : V (30, t, j)) (kk : XX Γ nL V ad (vl ad μ) cs sl (pc + 3) L (.int (I (μ (30, t, j) 12)) :: st)) : XX Γ nL V ad (vl ad μ) cs sl pc L (.ref (ad (30, t, j)) :: st) := x_get (C := RX8) (T := TX8) F dd rfl inx8 12 (by decide) kw_838 rfl ho rfl (vl_i rfl) kk
theorem pf_X8_125 (F : Fx Γ cc "GatesBentModel" nL ret P d mc ms) (dd : decode cc pc = .ok (.putfield 125, 3)) (ho : V (30, t, j)) (hz : narrow .boolean (.int (I z)) = .int (I z)) (hf : fits .boolean (.int (I z)) = true) (kk : XX Γ nL V ad (vl ad (upM μ (30, t, j) 12 z)) cs sl (pc + 3) L st) : XX Γ nL V ad (vl ad μ) cs sl pc L (.int (I z) :: .ref (ad (30, t, j)) :: st) := x_put (C := RX8) (T := TX8) F dd rfl inx8 tyX8 tyX8_ok nmX8 12 (by decide) kw_838 rfl rfl ho rfl hz hf (put_kk (z := z) rfl kk)
theorem gf_X8_149 (F : Fx Γ cc "GatesBentModel" nL ret P d mc ms) (dd : decode cc pc = .ok (.getfield 149, 3)) (ho : V (30, t, j)) (kk : XX Γ nL V ad (vl ad μ) cs sl (pc + 3) L (.int (I (μ (30, t, j) 13)) :: st)) : XX Γ nL V ad (vl ad μ) cs sl pc L (.ref (ad (30, t, j)) :: st) := x_get (C := RX8) (T := TX8) F dd rfl inx8 13 (by decide) kw_839 rfl ho rfl (vl_i rfl) kk
theorem pf_X8_149 (F : Fx Γ cc "GatesBentModel" nL ret P d mc ms) (dd : decode cc pc = .ok (.putfield 149, 3)) (ho : V (30, t, j)) (kk : XX Γ nL V ad (vl ad (upM μ (30, t, j) 13 z)) cs sl (pc + 3) L st) : XX Γ nL V ad (vl ad μ) cs sl pc L (.int (I z) :: .ref (ad (30, t, j)) :: st) := x_put (C := RX8) (T := TX8) F dd rfl inx8 tyX8 tyX8_ok nmX8 13 (by decide) kw_839 rfl rfl ho rfl rfl rfl (put_kk (z := z) rfl kk)
theorem gf_X8_170 (F : Fx Γ cc "GatesBentModel" nL ret P d mc ms) (dd : decode cc pc = .ok (.getfield 170, 3)) (ho : V (30, t, j)) (kk : XX Γ nL V ad (vl ad μ) cs sl (pc + 3) L (.int (I (μ (30, t, j) 14)) :: st)) : XX Γ nL V ad (vl ad μ) cs sl pc L (.ref (ad (30, t, j)) :: st) := x_get (C := RX8) (T := TX8) F dd rfl inx8 14 (by decide) kw_840 rfl ho rfl (vl_i rfl) kk
theorem pf_X8_170 (F : Fx Γ cc "GatesBentModel" nL ret P d mc ms) (dd : decode cc pc = .ok (.putfield 170, 3)) (ho : V (30, t, j)) (kk : XX Γ nL V ad (vl ad (upM μ (30, t, j) 14 z)) cs sl (pc + 3) L st) : XX Γ nL V ad (vl ad μ) cs sl pc L (.int (I z) :: .ref (ad (30, t, j)) :: st) := x_put (C := RX8) (T := TX8) F dd rfl inx8 tyX8 tyX8_ok nmX8 14 (by decide) kw_840 rfl rfl ho rfl rfl rfl (put_kk (z := z) rfl kk)
theorem gf_X8_164 (F : Fx Γ cc "GatesBentModel" nL ret P d mc ms) (dd : decode cc pc = .ok (.getfield 164, 3)) (ho : V (30, t, j)) (kk : XX Γ nL V ad (vl ad μ) cs sl (pc + 3) L (.int (I (μ (30, t, j) 15)) :: st)) : XX Γ nL V ad (vl ad μ) cs sl pc L (.ref (ad (30, t, j)) :: st) := x_get (C := RX8) (T := TX8) F dd rfl inx8 15 (by decide) kw_841 rfl ho rfl (vl_i rfl) kk
theorem pf_X8_164 (F : Fx Γ cc "GatesBentModel" nL ret P d mc ms) (dd : decode cc pc = .ok (.putfield 164, 3)) (ho : V (30, t, j)) (kk : XX Γ nL V ad (vl ad (upM μ (30, t, j) 15 z)) cs sl (pc + 3) L st) : XX Γ nL V ad (vl ad μ) cs sl pc L (.int (I z) :: .ref (ad (30, t, j)) :: st) := x_put (C := RX8) (T := TX8) F dd rfl inx8 tyX8 tyX8_ok nmX8 15 (by decide) kw_841 rfl rfl ho rfl rfl rfl (put_kk (z := z) rfl kk)
theorem gf_X8_167 (F : Fx Γ cc "GatesBentModel" nL ret P d mc ms) (dd : decode cc pc = .ok (.getfield 167, 3)) (ho : V (30, t, j)) (kk : XX Γ nL V ad (vl ad μ) cs sl (pc + 3) L (.int (I (μ (30, t, j) 16)) :: st)) : XX Γ nL V ad (vl ad μ) cs sl pc L (.ref (ad (30, t, j)) :: st) := x_get (C := RX8) (T := TX8) F dd rfl inx8 16 (by decide) kw_842 rfl ho rfl (vl_i rfl) kk
theorem pf_X8_167 (F : Fx Γ cc "GatesBentModel" nL ret P d mc ms) (dd : decode cc pc = .ok (.putfield 167, 3)) (ho : V (30, t, j)) (kk : XX Γ nL V ad (vl ad (upM μ (30, t, j) 16 z)) cs sl (pc + 3) L st) : XX Γ nL V ad (vl ad μ) cs sl pc L (.int (I z) :: .ref (ad (30, t, j)) :: st) := x_put (C := RX8) (T := TX8) F dd rfl inx8 tyX8 tyX8_ok nmX8 16 (by decide) kw_842 rfl rfl ho rfl rfl rfl (put_kk (z := z) rfl kk)
theorem gf_X8_33 (F : Fx Γ cc "GatesBentModel" nL ret P d mc ms) (dd : decode cc pc = .ok (.getfield 33, 3)) (ho : V (30, t, j)) (kk : XX Γ nL V ad (vl ad μ) cs sl (pc + 3) L (.ref (ad (38, 0, 0)) :: st)) : XX Γ nL V ad (vl ad μ) cs sl pc L (.ref (ad (30, t, j)) :: st) := x_get (C := RX8) (T := TX8) F dd rfl inx8 17 (by decide) kw_843 rfl ho rfl (vl_st rfl) kk
theorem gf_X8_36 (F : Fx Γ cc "GatesBentModel" nL ret P d mc ms) (dd : decode cc pc = .ok (.getfield 36, 3)) (ho : V (30, t, j)) (kk : XX Γ nL V ad (vl ad μ) cs sl (pc + 3) L (.ref (ad (39, 0, 0)) :: st)) : XX Γ nL V ad (vl ad μ) cs sl pc L (.ref (ad (30, t, j)) :: st) := x_get (C := RX8) (T := TX8) F dd rfl inx8 18 (by decide) kw_844 rfl ho rfl (vl_st rfl) kk
theorem gf_X8_40 (F : Fx Γ cc "GatesBentModel" nL ret P d mc ms) (dd : decode cc pc = .ok (.getfield 40, 3)) (ho : V (30, t, j)) (kk : XX Γ nL V ad (vl ad μ) cs sl (pc + 3) L (.ref (ad (40, 0, 0)) :: st)) : XX Γ nL V ad (vl ad μ) cs sl pc L (.ref (ad (30, t, j)) :: st) := x_get (C := RX8) (T := TX8) F dd rfl inx8 19 (by decide) kw_845 rfl ho rfl (vl_st rfl) kk
theorem gf_X8_43 (F : Fx Γ cc "GatesBentModel" nL ret P d mc ms) (dd : decode cc pc = .ok (.getfield 43, 3)) (ho : V (30, t, j)) (kk : XX Γ nL V ad (vl ad μ) cs sl (pc + 3) L (.ref (ad (41, 0, 0)) :: st)) : XX Γ nL V ad (vl ad μ) cs sl pc L (.ref (ad (30, t, j)) :: st) := x_get (C := RX8) (T := TX8) F dd rfl inx8 20 (by decide) kw_846 rfl ho rfl (vl_st rfl) kk
theorem gf_X8_46 (F : Fx Γ cc "GatesBentModel" nL ret P d mc ms) (dd : decode cc pc = .ok (.getfield 46, 3)) (ho : V (30, t, j)) (kk : XX Γ nL V ad (vl ad μ) cs sl (pc + 3) L (.ref (ad (42, 0, 0)) :: st)) : XX Γ nL V ad (vl ad μ) cs sl pc L (.ref (ad (30, t, j)) :: st) := x_get (C := RX8) (T := TX8) F dd rfl inx8 21 (by decide) kw_847 rfl ho rfl (vl_st rfl) kk
theorem gf_X8_231 (F : Fx Γ cc "GatesBentModel" nL ret P d mc ms) (dd : decode cc pc = .ok (.getfield 231, 3)) (ho : V (30, t, j)) (kk : XX Γ nL V ad (vl ad μ) cs sl (pc + 3) L (.int (I (μ (30, t, j) 22)) :: st)) : XX Γ nL V ad (vl ad μ) cs sl pc L (.ref (ad (30, t, j)) :: st) := x_get (C := RX8) (T := TX8) F dd rfl inx8 22 (by decide) kw_848 rfl ho rfl (vl_i rfl) kk
theorem pf_X8_231 (F : Fx Γ cc "GatesBentModel" nL ret P d mc ms) (dd : decode cc pc = .ok (.putfield 231, 3)) (ho : V (30, t, j)) (kk : XX Γ nL V ad (vl ad (upM μ (30, t, j) 22 z)) cs sl (pc + 3) L st) : XX Γ nL V ad (vl ad μ) cs sl pc L (.int (I z) :: .ref (ad (30, t, j)) :: st) := x_put (C := RX8) (T := TX8) F dd rfl inx8 tyX8 tyX8_ok nmX8 22 (by decide) kw_848 rfl rfl ho rfl rfl rfl (put_kk (z := z) rfl kk)
theorem gf_X8_49 (F : Fx Γ cc "GatesBentModel" nL ret P d mc ms) (dd : decode cc pc = .ok (.getfield 49, 3)) (ho : V (30, t, j)) (kk : XX Γ nL V ad (vl ad μ) cs sl (pc + 3) L (.ref (ad (43, 0, 0)) :: st)) : XX Γ nL V ad (vl ad μ) cs sl pc L (.ref (ad (30, t, j)) :: st) := x_get (C := RX8) (T := TX8) F dd rfl inx8 23 (by decide) kw_849 rfl ho rfl (vl_st rfl) kk
theorem gf_X8_52 (F : Fx Γ cc "GatesBentModel" nL ret P d mc ms) (dd : decode cc pc = .ok (.getfield 52, 3)) (ho : V (30, t, j)) (kk : XX Γ nL V ad (vl ad μ) cs sl (pc + 3) L (.ref (ad (44, 0, 0)) :: st)) : XX Γ nL V ad (vl ad μ) cs sl pc L (.ref (ad (30, t, j)) :: st) := x_get (C := RX8) (T := TX8) F dd rfl inx8 24 (by decide) kw_850 rfl ho rfl (vl_st rfl) kk
theorem gf_X8_55 (F : Fx Γ cc "GatesBentModel" nL ret P d mc ms) (dd : decode cc pc = .ok (.getfield 55, 3)) (ho : V (30, t, j)) (kk : XX Γ nL V ad (vl ad μ) cs sl (pc + 3) L (.ref (ad (45, 0, 0)) :: st)) : XX Γ nL V ad (vl ad μ) cs sl pc L (.ref (ad (30, t, j)) :: st) := x_get (C := RX8) (T := TX8) F dd rfl inx8 25 (by decide) kw_851 rfl ho rfl (vl_st rfl) kk
theorem gf_X8_58 (F : Fx Γ cc "GatesBentModel" nL ret P d mc ms) (dd : decode cc pc = .ok (.getfield 58, 3)) (ho : V (30, t, j)) (kk : XX Γ nL V ad (vl ad μ) cs sl (pc + 3) L (.ref (ad (46, 0, 0)) :: st)) : XX Γ nL V ad (vl ad μ) cs sl pc L (.ref (ad (30, t, j)) :: st) := x_get (C := RX8) (T := TX8) F dd rfl inx8 26 (by decide) kw_852 rfl ho rfl (vl_st rfl) kk
theorem gf_X8_255 (F : Fx Γ cc "GatesBentModel" nL ret P d mc ms) (dd : decode cc pc = .ok (.getfield 255, 3)) (ho : V (30, t, j)) (kk : XX Γ nL V ad (vl ad μ) cs sl (pc + 3) L (.int (I (μ (30, t, j) 27)) :: st)) : XX Γ nL V ad (vl ad μ) cs sl pc L (.ref (ad (30, t, j)) :: st) := x_get (C := RX8) (T := TX8) F dd rfl inx8 27 (by decide) kw_853 rfl ho rfl (vl_i rfl) kk
theorem pf_X8_255 (F : Fx Γ cc "GatesBentModel" nL ret P d mc ms) (dd : decode cc pc = .ok (.putfield 255, 3)) (ho : V (30, t, j)) (kk : XX Γ nL V ad (vl ad (upM μ (30, t, j) 27 z)) cs sl (pc + 3) L st) : XX Γ nL V ad (vl ad μ) cs sl pc L (.int (I z) :: .ref (ad (30, t, j)) :: st) := x_put (C := RX8) (T := TX8) F dd rfl inx8 tyX8 tyX8_ok nmX8 27 (by decide) kw_853 rfl rfl ho rfl rfl rfl (put_kk (z := z) rfl kk)
theorem gf_X8_61 (F : Fx Γ cc "GatesBentModel" nL ret P d mc ms) (dd : decode cc pc = .ok (.getfield 61, 3)) (ho : V (30, t, j)) (kk : XX Γ nL V ad (vl ad μ) cs sl (pc + 3) L (.ref (ad (47, 0, 0)) :: st)) : XX Γ nL V ad (vl ad μ) cs sl pc L (.ref (ad (30, t, j)) :: st) := x_get (C := RX8) (T := TX8) F dd rfl inx8 28 (by decide) kw_854 rfl ho rfl (vl_st rfl) kk
theorem gf_X8_64 (F : Fx Γ cc "GatesBentModel" nL ret P d mc ms) (dd : decode cc pc = .ok (.getfield 64, 3)) (ho : V (30, t, j)) (kk : XX Γ nL V ad (vl ad μ) cs sl (pc + 3) L (.ref (ad (48, 0, 0)) :: st)) : XX Γ nL V ad (vl ad μ) cs sl pc L (.ref (ad (30, t, j)) :: st) := x_get (C := RX8) (T := TX8) F dd rfl inx8 29 (by decide) kw_855 rfl ho rfl (vl_st rfl) kk
theorem gf_X8_67 (F : Fx Γ cc "GatesBentModel" nL ret P d mc ms) (dd : decode cc pc = .ok (.getfield 67, 3)) (ho : V (30, t, j)) (kk : XX Γ nL V ad (vl ad μ) cs sl (pc + 3) L (.ref (ad (49, 0, 0)) :: st)) : XX Γ nL V ad (vl ad μ) cs sl pc L (.ref (ad (30, t, j)) :: st) := x_get (C := RX8) (T := TX8) F dd rfl inx8 30 (by decide) kw_856 rfl ho rfl (vl_st rfl) kk
theorem gf_X8_71 (F : Fx Γ cc "GatesBentModel" nL ret P d mc ms) (dd : decode cc pc = .ok (.getfield 71, 3)) (ho : V (30, t, j)) (kk : XX Γ nL V ad (vl ad μ) cs sl (pc + 3) L (.ref (ad (50, 0, 0)) :: st)) : XX Γ nL V ad (vl ad μ) cs sl pc L (.ref (ad (30, t, j)) :: st) := x_get (C := RX8) (T := TX8) F dd rfl inx8 31 (by decide) kw_857 rfl ho rfl (vl_st rfl) kk
end FIELDS
end
section
/-! ===== arrays of the typed memory ===== -/
section ARR
variable {Γ : Ct} {cc : ByteArray} {own : String} {nL : Nat} {ret : Option FieldType} {P : Pq} {d mc ms : Nat} {V : Ob → Prop} {ad : Ob → Nat} {μ : Me} {cs sl pc n : Nat} {L : List (Nat × Value)} {st : List Value} {o : Ob} {j z : Int}
theorem toNat_c {j : Int} (h : 0 ≤ j) : ((j.toNat : Nat) : Int) = j := Int.toNat_of_nonneg h
/-- a load from an int array -/
theorem t_ia (F : Fx Γ cc own nL ret P d mc ms) (dd : decode cc pc = .ok (.iaload, 1)) (ho : V o) (hs : shp o = .inr (0, n)) (hk : ∀ k, sk ad o k = .inl 0) (hj : 0 ≤ j ∧ j < n ∧ n ≤ 2147483647) (kk : XX Γ nL V ad (vl ad μ) cs sl (pc + 1) L (.int (I (μ o j)) :: st)) : XX Γ nL V ad (vl ad μ) cs sl pc L (.int (I j) :: .ref (ad o) :: st) :=
  x_iald F dd ho hs hj (by rw [vl_i (hk _), toNat_c hj.1]) kk
theorem t_ca (F : Fx Γ cc own nL ret P d mc ms) (dd : decode cc pc = .ok (.caload, 1)) (ho : V o) (hs : shp o = .inr (3, n)) (hk : ∀ k, sk ad o k = .inl 0) (hj : 0 ≤ j ∧ j < n ∧ n ≤ 2147483647) (kk : XX Γ nL V ad (vl ad μ) cs sl (pc + 1) L (.int (I (μ o j)) :: st)) : XX Γ nL V ad (vl ad μ) cs sl pc L (.int (I j) :: .ref (ad o) :: st) :=
  x_cald F dd ho hs hj (by rw [vl_i (hk _), toNat_c hj.1]) kk
theorem t_ba (F : Fx Γ cc own nL ret P d mc ms) (dd : decode cc pc = .ok (.baload, 1)) (ho : V o) (hs : shp o = .inr (2, n)) (hk : ∀ k, sk ad o k = .inl 0) (hj : 0 ≤ j ∧ j < n ∧ n ≤ 2147483647) (kk : XX Γ nL V ad (vl ad μ) cs sl (pc + 1) L (.int (I (μ o j)) :: st)) : XX Γ nL V ad (vl ad μ) cs sl pc L (.int (I j) :: .ref (ad o) :: st) :=
  x_bald F dd ho hs hj (by rw [vl_i (hk _), toNat_c hj.1]) kk
theorem t_la (F : Fx Γ cc own nL ret P d mc ms) (dd : decode cc pc = .ok (.laload, 1)) (ho : V o) (hs : shp o = .inr (1, n)) (hk : ∀ k, sk ad o k = .inl 1) (hj : 0 ≤ j ∧ j < n ∧ n ≤ 2147483647) (kk : XX Γ nL V ad (vl ad μ) cs sl (pc + 1) L (.long (J (μ o j)) :: st)) : XX Γ nL V ad (vl ad μ) cs sl pc L (.int (I j) :: .ref (ad o) :: st) :=
  x_lald F dd ho hs hj (by rw [vl_l (hk _), toNat_c hj.1]) kk
/-- a load of an object from its row: rows 10 (Gates), 11 (Comers), 19 (Tapes), 17 (Houses) -/
theorem t_ga {t : Int} (F : Fx Γ cc own nL ret P d mc ms) (dd : decode cc pc = .ok (.aaload, 1)) (ho : V (10, t, 0)) (hj : 0 ≤ j ∧ j < 4) (kk : XX Γ nL V ad (vl ad μ) cs sl (pc + 1) L (.ref (ad (2, t, j)) :: st)) : XX Γ nL V ad (vl ad μ) cs sl pc L (.int (I j) :: .ref (ad (10, t, 0)) :: st) :=
  x_aald (n := 4) F dd ho rfl rfl rfl (by omega) (by rw [vl_st (v := .ref (ad (2, t, (j.toNat : Int)))) rfl, toNat_c hj.1]) kk
theorem t_pa {t : Int} (F : Fx Γ cc own nL ret P d mc ms) (dd : decode cc pc = .ok (.aaload, 1)) (ho : V (11, t, 0)) (hj : 0 ≤ j ∧ j < 6) (kk : XX Γ nL V ad (vl ad μ) cs sl (pc + 1) L (.ref (ad (4, t, j)) :: st)) : XX Γ nL V ad (vl ad μ) cs sl pc L (.int (I j) :: .ref (ad (11, t, 0)) :: st) :=
  x_aald (n := 6) F dd ho rfl rfl rfl (by omega) (by rw [vl_st (v := .ref (ad (4, t, (j.toNat : Int)))) rfl, toNat_c hj.1]) kk
theorem t_ta (F : Fx Γ cc own nL ret P d mc ms) (dd : decode cc pc = .ok (.aaload, 1)) (ho : V (19, 0, 0)) (hj : 0 ≤ j ∧ j < 6) (kk : XX Γ nL V ad (vl ad μ) cs sl (pc + 1) L (.ref (ad (20, j, 0)) :: st)) : XX Γ nL V ad (vl ad μ) cs sl pc L (.int (I j) :: .ref (ad (19, 0, 0)) :: st) :=
  x_aald (n := 6) F dd ho rfl rfl rfl (by omega) (by rw [vl_st (v := .ref (ad (20, (j.toNat : Int), 0))) rfl, toNat_c hj.1]) kk
theorem t_ha (F : Fx Γ cc own nL ret P d mc ms) (dd : decode cc pc = .ok (.aaload, 1)) (ho : V (17, 0, 0)) (hj : 0 ≤ j ∧ j < 6) (kk : XX Γ nL V ad (vl ad μ) cs sl (pc + 1) L (hvl ad (μ (17, 0, 0) j) :: st)) : XX Γ nL V ad (vl ad μ) cs sl pc L (.int (I j) :: .ref (ad (17, 0, 0)) :: st) :=
  x_aald (n := 6) F dd ho rfl rfl rfl (by omega) (by rw [vl_h rfl, toNat_c hj.1]) kk
/-- stores -/
theorem t_ias (F : Fx Γ cc own nL ret P d mc ms) (dd : decode cc pc = .ok (.iastore, 1)) (ho : V o) (hs : shp o = .inr (0, n)) (hk : ∀ k, sk ad o k = .inl 0) (hj : 0 ≤ j ∧ j < n ∧ n ≤ 2147483647) (kk : XX Γ nL V ad (vl ad (upM μ o j z)) cs sl (pc + 1) L st) : XX Γ nL V ad (vl ad μ) cs sl pc L (.int (I z) :: .int (I j) :: .ref (ad o) :: st) := by
  refine x_iast F dd ho hs hj ?_
  rw [upV_vl (z := z) (by rw [hk]; rfl), toNat_c hj.1]
  exact kk
theorem t_las (F : Fx Γ cc own nL ret P d mc ms) (dd : decode cc pc = .ok (.lastore, 1)) (ho : V o) (hs : shp o = .inr (1, n)) (hk : ∀ k, sk ad o k = .inl 1) (hj : 0 ≤ j ∧ j < n ∧ n ≤ 2147483647) (kk : XX Γ nL V ad (vl ad (upM μ o j z)) cs sl (pc + 1) L st) : XX Γ nL V ad (vl ad μ) cs sl pc L (.long (J z) :: .int (I j) :: .ref (ad o) :: st) := by
  refine x_last F dd ho hs hj ?_
  rw [upV_vl (z := z) (by rw [hk]; rfl), toNat_c hj.1]
  exact kk
theorem nar_byte {z : Int} (h : -128 ≤ z ∧ z < 128) : narrow .byte (.int (I z)) = .int (I z) := by
  have e : (I z).toInt8.toInt32 = I z := by
    apply Int32.toInt_inj.mp
    rw [Int8.toInt_toInt32, Int32.toInt_toInt8, I_toInt (by omega)]
    exact Int.bmod_eq_of_le (by omega) (by omega)
  show Value.int _ = _
  rw [e]
theorem t_bas (F : Fx Γ cc own nL ret P d mc ms) (dd : decode cc pc = .ok (.bastore, 1)) (ho : V o) (hs : shp o = .inr (2, n)) (hk : ∀ k, sk ad o k = .inl 0) (hj : 0 ≤ j ∧ j < n ∧ n ≤ 2147483647) (hz : -128 ≤ z ∧ z < 128) (kk : XX Γ nL V ad (vl ad (upM μ o j z)) cs sl (pc + 1) L st) : XX Γ nL V ad (vl ad μ) cs sl pc L (.int (I z) :: .int (I j) :: .ref (ad o) :: st) := by
  refine x_bast F dd ho hs hj ?_
  rw [nar_byte hz, upV_vl (z := z) (by rw [hk]; rfl), toNat_c hj.1]
  exact kk
/-- what a copy leaves in the typed memory -/
def cpM (μ : Me) (o1 o2 : Ob) (sp dp n : Int) : Me := fun o k => if o = o2 ∧ dp ≤ k ∧ k < dp + n then μ o1 (sp + (k - dp)) else μ o k
theorem t_copy {ti n1 n2 idx : Nat} {sp dp n : Int} {o1 o2 : Ob} {tk : Nat} (F : Fx Γ cc own nL ret P d mc ms) (dd : decode cc pc = .ok (.invokestatic idx, 3)) (hlk : Cond.methodLink own idx arraycopyName ∈ wA) (hw2 : Cond.native arraycopyName ∈ wA) (hw3 : Cond.static arraycopyName ∈ wA) (hw4 : Cond.initialized "java/lang/System" ∈ wA) (hd : Nat.ble 1 d = true) (h1 : V o1) (h2 : V o2) (hs1 : shp o1 = .inr (ti, n1)) (hs2 : shp o2 = .inr (ti, n2)) (hti : ti = 0 ∧ tk = 0 ∨ ti = 1 ∧ tk = 1) (hk1 : ∀ k, sk ad o1 k = .inl tk) (hk2 : ∀ k, sk ad o2 k = .inl tk)
    (hj : 0 ≤ sp ∧ 0 ≤ dp ∧ 0 ≤ n ∧ sp + n ≤ n1 ∧ dp + n ≤ n2 ∧ n1 ≤ 2147483647 ∧ n2 ≤ 2147483647) (hcat : Nat.ble ((st.map fun v => v.category).sum) 4 = true)
    (kk : XX Γ nL V ad (vl ad (cpM μ o1 o2 sp dp n)) cs sl (pc + 3) L st) : XX Γ nL V ad (vl ad μ) cs sl pc L (.int (I n) :: .int (I dp) :: .ref (ad o2) :: .int (I sp) :: .ref (ad o1) :: st) := by
  refine x_copy F dd hlk hw2 hw3 hw4 (Nat.le_of_ble_eq_true hd) h1 h2 hs1 hs2 (by rcases hti with ⟨rfl, -⟩ | ⟨rfl, -⟩ <;> rfl) hj (fun i hi => ?_) hcat ?_
  · rcases hti with ⟨rfl, rfl⟩ | ⟨rfl, rfl⟩
    · rw [vl_i (hk1 _)]
      rfl
    · rw [vl_l (hk1 _)]
      rfl
  · have e : cpV (vl ad μ) o1 o2 sp.toNat dp.toNat n.toNat = vl ad (cpM μ o1 o2 sp dp n) := by
      funext o k
      unfold cpV vl cpM
      by_cases hq : o = o2 ∧ dp.toNat ≤ k ∧ k < dp.toNat + n.toNat
      · have hq2 : o = o2 ∧ dp ≤ (k : Int) ∧ (k : Int) < dp + n := ⟨hq.1, by omega, by omega⟩
        rw [if_pos hq, if_pos hq2, hq.1, hk1, hk2]
        congr 2
        omega
      · have hq2 : ¬ (o = o2 ∧ dp ≤ (k : Int) ∧ (k : Int) < dp + n) := fun z => hq ⟨z.1, by omega, by omega⟩
        rw [if_neg hq, if_neg hq2]
    rw [e]
    exact kk
end ARR
end
