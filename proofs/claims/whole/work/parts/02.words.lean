theorem tb0 : ∀ w ∈ k2_sels lw_privs, w ∈ lw_tbl := fun w h => List.mem_append_left _ h
theorem tb1 : ∀ w ∈ tables_1_1, w ∈ lw_tbl := fun w h => List.mem_append_right _ (List.mem_append_left _ h)
theorem tb2 : ∀ w ∈ tables_1_2, w ∈ lw_tbl := fun w h => List.mem_append_right _ (List.mem_append_right _ (List.mem_append_left _ h))
theorem tb3 : ∀ w ∈ tables_1_3, w ∈ lw_tbl := fun w h => List.mem_append_right _ (List.mem_append_right _ (List.mem_append_right _ (List.mem_append_left _ h)))
theorem tb4 : ∀ w ∈ tables_1_4, w ∈ lw_tbl := fun w h => List.mem_append_right _ (List.mem_append_right _ (List.mem_append_right _ (List.mem_append_right _ (List.mem_append_left _ h))))
theorem tb5 : ∀ w ∈ tables_1_5, w ∈ lw_tbl := fun w h => List.mem_append_right _ (List.mem_append_right _ (List.mem_append_right _ (List.mem_append_right _ (List.mem_append_right _ h))))
theorem kw_0 : Cond.selects "GatesBent" yX7_isComer yX7_isComer ∈ wA := wA_of (tb0 _ (List.mem_of_getElem? (i := 0) rfl)) rfl
theorem kw_1 : Cond.selects "GatesBent$Town" yX6_likeBySum yX6_likeBySum ∈ wA := wA_of (tb0 _ (List.mem_of_getElem? (i := 1) rfl)) rfl
theorem kw_2 : Cond.selects "GatesBent" yX7_nearest yX7_nearest ∈ wA := wA_of (tb0 _ (List.mem_of_getElem? (i := 2) rfl)) rfl
theorem kw_3 : Cond.selects "GatesBent" yX7_daysUntilOut yX7_daysUntilOut ∈ wA := wA_of (tb0 _ (List.mem_of_getElem? (i := 3) rfl)) rfl
theorem kw_4 : Cond.selects "GatesBent$Gate" yX1_leastAlike yX1_leastAlike ∈ wA := wA_of (tb0 _ (List.mem_of_getElem? (i := 4) rfl)) rfl
theorem kw_5 : Cond.selects "GatesBent$Reader" yX3_readClause yX3_readClause ∈ wA := wA_of (tb0 _ (List.mem_of_getElem? (i := 5) rfl)) rfl
theorem kw_6 : Cond.selects "GatesBent$Reader" yX3_readWord yX3_readWord ∈ wA := wA_of (tb0 _ (List.mem_of_getElem? (i := 6) rfl)) rfl
theorem kw_7 : Cond.selects "GatesBent$Reader" yX3_sameSigns yX3_sameSigns ∈ wA := wA_of (tb0 _ (List.mem_of_getElem? (i := 7) rfl)) rfl
theorem kw_8 : Cond.selects "GatesBent$Reader" yX3_readSign yX3_readSign ∈ wA := wA_of (tb0 _ (List.mem_of_getElem? (i := 8) rfl)) rfl
theorem kw_9 : Cond.selects "GatesBent$Reader" yX3_signAt yX3_signAt ∈ wA := wA_of (tb0 _ (List.mem_of_getElem? (i := 9) rfl)) rfl
theorem kw_10 : Cond.selects "GatesBent$Reader" yX3_readNumber yX3_readNumber ∈ wA := wA_of (tb0 _ (List.mem_of_getElem? (i := 10) rfl)) rfl
theorem kw_11 : Cond.selects "GatesBent$Reader" yX3_readEither yX3_readEither ∈ wA := wA_of (tb0 _ (List.mem_of_getElem? (i := 11) rfl)) rfl
theorem kw_12 : Cond.selects "GatesBent$Reader" yX3_readFactor yX3_readFactor ∈ wA := wA_of (tb0 _ (List.mem_of_getElem? (i := 12) rfl)) rfl
theorem kw_13 : Cond.selects "GatesBent$Reader" yX3_readTest yX3_readTest ∈ wA := wA_of (tb0 _ (List.mem_of_getElem? (i := 13) rfl)) rfl
theorem kw_14 : Cond.selects "GatesBent$Reader" yX3_readOneOf yX3_readOneOf ∈ wA := wA_of (tb0 _ (List.mem_of_getElem? (i := 14) rfl)) rfl
theorem kw_15 : Cond.selects "GatesBent" yX7_master yX7_master ∈ wA := wA_of (tb0 _ (List.mem_of_getElem? (i := 15) rfl)) rfl
theorem kw_16 : Cond.selects "GatesBent" yX7_askNeededByComer yX7_askNeededByComer ∈ wA := wA_of (tb0 _ (List.mem_of_getElem? (i := 16) rfl)) rfl
theorem kw_17 : Cond.selects "GatesBent" yX7_letByWalkAlone yX7_letByWalkAlone ∈ wA := wA_of (tb0 _ (List.mem_of_getElem? (i := 17) rfl)) rfl
theorem kw_18 : Cond.selects "GatesBent" yX7_aheadBy yX7_aheadBy ∈ wA := wA_of (tb0 _ (List.mem_of_getElem? (i := 18) rfl)) rfl
theorem kw_19 : Cond.selects "GatesBent" yX7_bestLessons yX7_bestLessons ∈ wA := wA_of (tb0 _ (List.mem_of_getElem? (i := 19) rfl)) rfl
theorem kw_20 : Cond.selects "GatesBent" yX7_letByLessons yX7_letByLessons ∈ wA := wA_of (tb0 _ (List.mem_of_getElem? (i := 20) rfl)) rfl
theorem kw_21 : Cond.selects "GatesBent" yX7_pupil yX7_pupil ∈ wA := wA_of (tb0 _ (List.mem_of_getElem? (i := 21) rfl)) rfl
theorem kw_22 : Cond.selects "GatesBent" yX7_walksBySeen yX7_walksBySeen ∈ wA := wA_of (tb0 _ (List.mem_of_getElem? (i := 22) rfl)) rfl
theorem kw_23 : Cond.selects "GatesBent" yX7_askNeededByGate yX7_askNeededByGate ∈ wA := wA_of (tb0 _ (List.mem_of_getElem? (i := 23) rfl)) rfl
theorem kw_24 : Cond.selects "GatesBent" yX7_isAllSeenSo yX7_isAllSeenSo ∈ wA := wA_of (tb0 _ (List.mem_of_getElem? (i := 24) rfl)) rfl
theorem kw_25 : Cond.selects "GatesBent" yX7_numbersBySeen yX7_numbersBySeen ∈ wA := wA_of (tb0 _ (List.mem_of_getElem? (i := 25) rfl)) rfl
theorem kw_26 : Cond.selects "GatesBent" yX7_isInPlan yX7_isInPlan ∈ wA := wA_of (tb0 _ (List.mem_of_getElem? (i := 26) rfl)) rfl
theorem kw_27 : Cond.selects "GatesBent" yX7_walks yX7_walks ∈ wA := wA_of (tb0 _ (List.mem_of_getElem? (i := 27) rfl)) rfl
theorem kw_28 : Cond.selects "GatesBent" yX7_startBody yX7_startBody ∈ wA := wA_of (tb0 _ (List.mem_of_getElem? (i := 28) rfl)) rfl
theorem kw_29 : Cond.selects "GatesBent" yX7_knocks yX7_knocks ∈ wA := wA_of (tb0 _ (List.mem_of_getElem? (i := 29) rfl)) rfl
theorem kw_30 : Cond.selects "GatesBent" yX7_tells yX7_tells ∈ wA := wA_of (tb0 _ (List.mem_of_getElem? (i := 30) rfl)) rfl
theorem kw_31 : Cond.selects "GatesBent$Tape" yX5_cut yX5_cut ∈ wA := wA_of (tb0 _ (List.mem_of_getElem? (i := 31) rfl)) rfl
theorem kw_32 : Cond.selects "GatesBentModel" yX8_change yX8_change ∈ wA := wA_of (tb0 _ (List.mem_of_getElem? (i := 32) rfl)) rfl
theorem kw_33 : Cond.selects "GatesBentModel" yX8_one yX8_one ∈ wA := wA_of (tb0 _ (List.mem_of_getElem? (i := 33) rfl)) rfl
theorem kw_34 : Cond.selects "GatesBentModel" yX8_isComer yX8_isComer ∈ wA := wA_of (tb0 _ (List.mem_of_getElem? (i := 34) rfl)) rfl
theorem kw_35 : Cond.selects "GatesBentModel" yX8_out yX8_out ∈ wA := wA_of (tb0 _ (List.mem_of_getElem? (i := 35) rfl)) rfl
theorem kw_36 : Cond.selects "GatesBentModel" yX8_keep yX8_keep ∈ wA := wA_of (tb0 _ (List.mem_of_getElem? (i := 36) rfl)) rfl
theorem kw_37 : Cond.selects "GatesBentModel" yX8_isBy yX8_isBy ∈ wA := wA_of (tb0 _ (List.mem_of_getElem? (i := 37) rfl)) rfl
theorem kw_38 : Cond.selects "GatesBentModel" yX8_lets yX8_lets ∈ wA := wA_of (tb0 _ (List.mem_of_getElem? (i := 38) rfl)) rfl
theorem kw_39 : Cond.selects "GatesBentModel" yX8_helps yX8_helps ∈ wA := wA_of (tb0 _ (List.mem_of_getElem? (i := 39) rfl)) rfl
theorem kw_40 : Cond.selects "GatesBentModel" yX8_readFor yX8_readFor ∈ wA := wA_of (tb0 _ (List.mem_of_getElem? (i := 40) rfl)) rfl
theorem kw_41 : Cond.selects "GatesBentModel" yX8_readAll yX8_readAll ∈ wA := wA_of (tb0 _ (List.mem_of_getElem? (i := 41) rfl)) rfl
theorem kw_42 : Cond.selects "GatesBentModel" yX8_clause yX8_clause ∈ wA := wA_of (tb0 _ (List.mem_of_getElem? (i := 42) rfl)) rfl
theorem kw_43 : Cond.selects "GatesBentModel" yX8_isAt yX8_isAt ∈ wA := wA_of (tb0 _ (List.mem_of_getElem? (i := 43) rfl)) rfl
theorem kw_44 : Cond.selects "GatesBentModel" yX8_takes yX8_takes ∈ wA := wA_of (tb0 _ (List.mem_of_getElem? (i := 44) rfl)) rfl
theorem kw_45 : Cond.selects "GatesBentModel" yX8_number yX8_number ∈ wA := wA_of (tb0 _ (List.mem_of_getElem? (i := 45) rfl)) rfl
theorem kw_46 : Cond.selects "GatesBentModel" yX8_isDigit yX8_isDigit ∈ wA := wA_of (tb0 _ (List.mem_of_getElem? (i := 46) rfl)) rfl
theorem kw_47 : Cond.selects "GatesBentModel" yX8_any yX8_any ∈ wA := wA_of (tb0 _ (List.mem_of_getElem? (i := 47) rfl)) rfl
theorem kw_48 : Cond.selects "GatesBentModel" yX8_both yX8_both ∈ wA := wA_of (tb0 _ (List.mem_of_getElem? (i := 48) rfl)) rfl
theorem kw_49 : Cond.selects "GatesBentModel" yX8_factor yX8_factor ∈ wA := wA_of (tb0 _ (List.mem_of_getElem? (i := 49) rfl)) rfl
theorem kw_50 : Cond.selects "GatesBentModel" yX8_test yX8_test ∈ wA := wA_of (tb0 _ (List.mem_of_getElem? (i := 50) rfl)) rfl
theorem kw_51 : Cond.selects "GatesBentModel" yX8_known yX8_known ∈ wA := wA_of (tb0 _ (List.mem_of_getElem? (i := 51) rfl)) rfl
theorem kw_52 : Cond.selects "GatesBentModel" yX8_walkAt yX8_walkAt ∈ wA := wA_of (tb0 _ (List.mem_of_getElem? (i := 52) rfl)) rfl
theorem kw_53 : Cond.selects "GatesBentModel" yX8_likeTo yX8_likeTo ∈ wA := wA_of (tb0 _ (List.mem_of_getElem? (i := 53) rfl)) rfl
theorem kw_54 : Cond.selects "GatesBentModel" yX8_day yX8_day ∈ wA := wA_of (tb0 _ (List.mem_of_getElem? (i := 54) rfl)) rfl
theorem kw_55 : Cond.selects "GatesBentModel" yX8_ageNow yX8_ageNow ∈ wA := wA_of (tb0 _ (List.mem_of_getElem? (i := 55) rfl)) rfl
theorem kw_56 : Cond.selects "GatesBentModel" yX8_lay yX8_lay ∈ wA := wA_of (tb0 _ (List.mem_of_getElem? (i := 56) rfl)) rfl
theorem kw_57 : Cond.selects "GatesBentModel" yX8_nearest yX8_nearest ∈ wA := wA_of (tb0 _ (List.mem_of_getElem? (i := 57) rfl)) rfl
theorem kw_58 : Cond.selects "GatesBentModel" yX8_taught yX8_taught ∈ wA := wA_of (tb0 _ (List.mem_of_getElem? (i := 58) rfl)) rfl
theorem kw_59 : Cond.selects "GatesBentModel" yX8_needNow yX8_needNow ∈ wA := wA_of (tb0 _ (List.mem_of_getElem? (i := 59) rfl)) rfl
theorem kw_60 : Cond.selects "GatesBentModel" yX8_bys yX8_bys ∈ wA := wA_of (tb0 _ (List.mem_of_getElem? (i := 60) rfl)) rfl
theorem kw_61 : Cond.selects "GatesBentModel" yX8_passes yX8_passes ∈ wA := wA_of (tb0 _ (List.mem_of_getElem? (i := 61) rfl)) rfl
theorem kw_62 : Cond.selects "GatesBentModel" yX8_master yX8_master ∈ wA := wA_of (tb0 _ (List.mem_of_getElem? (i := 62) rfl)) rfl
theorem kw_63 : Cond.selects "GatesBentModel" yX8_days yX8_days ∈ wA := wA_of (tb0 _ (List.mem_of_getElem? (i := 63) rfl)) rfl
theorem kw_64 : Cond.selects "GatesBentModel" yX8_learn yX8_learn ∈ wA := wA_of (tb0 _ (List.mem_of_getElem? (i := 64) rfl)) rfl
theorem kw_65 : Cond.selects "GatesBentModel" yX8_letsAll yX8_letsAll ∈ wA := wA_of (tb0 _ (List.mem_of_getElem? (i := 65) rfl)) rfl
theorem kw_66 : Cond.selects "GatesBentModel" yX8_isSo yX8_isSo ∈ wA := wA_of (tb0 _ (List.mem_of_getElem? (i := 66) rfl)) rfl
theorem kw_67 : Cond.selects "GatesBentModel" yX8_isAllSo yX8_isAllSo ∈ wA := wA_of (tb0 _ (List.mem_of_getElem? (i := 67) rfl)) rfl
theorem kw_68 : Cond.selects "GatesBentModel" yX8_all yX8_all ∈ wA := wA_of (tb0 _ (List.mem_of_getElem? (i := 68) rfl)) rfl
theorem kw_69 : Cond.selects "GatesBentModel" yX8_byKind yX8_byKind ∈ wA := wA_of (tb0 _ (List.mem_of_getElem? (i := 69) rfl)) rfl
theorem kw_70 : Cond.selects "GatesBentModel" yX8_body yX8_body ∈ wA := wA_of (tb0 _ (List.mem_of_getElem? (i := 70) rfl)) rfl
theorem kw_71 : Cond.initialized "GatesBentLaw" ∈ wA := wA_of (tb1 _ (List.mem_of_getElem? (i := 0) rfl)) rfl
theorem kw_72 : Cond.initialized "GatesBent" ∈ wA := wA_of (tb1 _ (List.mem_of_getElem? (i := 1) rfl)) rfl
theorem kw_73 : Cond.initialized "GatesBent$Reader" ∈ wA := wA_of (tb1 _ (List.mem_of_getElem? (i := 2) rfl)) rfl
theorem kw_74 : Cond.initialized "GatesBent$Gate" ∈ wA := wA_of (tb1 _ (List.mem_of_getElem? (i := 3) rfl)) rfl
theorem kw_75 : Cond.initialized "GatesBent$Comer" ∈ wA := wA_of (tb1 _ (List.mem_of_getElem? (i := 4) rfl)) rfl
theorem kw_76 : Cond.initialized "GatesBent$House" ∈ wA := wA_of (tb1 _ (List.mem_of_getElem? (i := 5) rfl)) rfl
theorem kw_77 : Cond.initialized "GatesBent$Town" ∈ wA := wA_of (tb1 _ (List.mem_of_getElem? (i := 6) rfl)) rfl
theorem kw_78 : Cond.initialized "GatesBent$Rows" ∈ wA := wA_of (tb1 _ (List.mem_of_getElem? (i := 7) rfl)) rfl
theorem kw_79 : Cond.initialized "GatesBent$Tape" ∈ wA := wA_of (tb1 _ (List.mem_of_getElem? (i := 8) rfl)) rfl
theorem kw_80 : Cond.initialized "GatesBentModel" ∈ wA := wA_of (tb1 _ (List.mem_of_getElem? (i := 9) rfl)) rfl
theorem kw_81 : Cond.initialized "java/lang/Math" ∈ wA := wA_of (tb1 _ (List.mem_of_getElem? (i := 10) rfl)) rfl
theorem kw_82 : Cond.initialized "java/lang/Integer" ∈ wA := wA_of (tb1 _ (List.mem_of_getElem? (i := 11) rfl)) rfl
theorem kw_83 : Cond.initialized "java/lang/System" ∈ wA := wA_of (tb1 _ (List.mem_of_getElem? (i := 12) rfl)) rfl
theorem kw_84 : Cond.initialized "java/lang/String" ∈ wA := wA_of (tb1 _ (List.mem_of_getElem? (i := 13) rfl)) rfl
theorem kw_85 : Cond.initialized "java/lang/StringLatin1" ∈ wA := wA_of (tb1 _ (List.mem_of_getElem? (i := 14) rfl)) rfl
theorem kw_86 : Cond.initialized "jdk/internal/util/Preconditions" ∈ wA := wA_of (tb1 _ (List.mem_of_getElem? (i := 15) rfl)) rfl
theorem kw_87 : Cond.initialized "java/lang/StringUTF16" ∈ wA := wA_of (tb1 _ (List.mem_of_getElem? (i := 16) rfl)) rfl
theorem kw_88 : Cond.classLink "GatesBentLaw" 7 "GatesBent" ∈ wA := wA_of (tb1 _ (List.mem_of_getElem? (i := 17) rfl)) rfl
theorem kw_89 : Cond.instantiable "GatesBent" 14 ∈ wA := wA_of (tb1 _ (List.mem_of_getElem? (i := 18) rfl)) rfl
theorem kw_90 : Cond.methodLink "GatesBentLaw" 9 yX7_init ∈ wA := wA_of (tb1 _ (List.mem_of_getElem? (i := 19) rfl)) rfl
theorem kw_91 : Cond.instanceMethod yX7_init ∈ wA := wA_of (tb1 _ (List.mem_of_getElem? (i := 20) rfl)) rfl
theorem kw_92 : Cond.code yX7_init cX7_init 3 none ∈ wA := wA_of (tb1 _ (List.mem_of_getElem? (i := 21) rfl)) rfl
theorem kw_93 : Cond.methodLink "GatesBent" 3 ⟨"java/lang/Object", "<init>", "()V"⟩ ∈ wA := wA_of (tb1 _ (List.mem_of_getElem? (i := 22) rfl)) rfl
theorem kw_94 : Cond.instanceMethod ⟨"java/lang/Object", "<init>", "()V"⟩ ∈ wA := wA_of (tb1 _ (List.mem_of_getElem? (i := 23) rfl)) rfl
theorem kw_95 : Cond.code ⟨"java/lang/Object", "<init>", "()V"⟩ object_method_1_code 1 none ∈ wA := wA_of (tb1 _ (List.mem_of_getElem? (i := 24) rfl)) rfl
theorem kw_96 : Cond.classLink "GatesBent" 9 "GatesBent$Reader" ∈ wA := wA_of (tb1 _ (List.mem_of_getElem? (i := 25) rfl)) rfl
theorem kw_97 : Cond.instantiable "GatesBent$Reader" 4 ∈ wA := wA_of (tb1 _ (List.mem_of_getElem? (i := 26) rfl)) rfl
theorem kw_99 : Cond.instanceMethod yX3_init ∈ wA := wA_of (tb1 _ (List.mem_of_getElem? (i := 28) rfl)) rfl
theorem kw_100 : Cond.code yX3_init cX3_init 1 none ∈ wA := wA_of (tb1 _ (List.mem_of_getElem? (i := 29) rfl)) rfl
theorem kw_101 : Cond.methodLink "GatesBent$Reader" 3 ⟨"java/lang/Object", "<init>", "()V"⟩ ∈ wA := wA_of (tb1 _ (List.mem_of_getElem? (i := 30) rfl)) rfl
theorem kw_102 : Cond.fieldLink "GatesBent$Reader" 9 "GatesBent$Reader" "text" "[B" ∈ wA := wA_of (tb1 _ (List.mem_of_getElem? (i := 31) rfl)) rfl
theorem kw_103 : Cond.fieldLink "GatesBent" 165 "GatesBent$Reader" "text" "[B" ∈ wA := wA_of (tb1 _ (List.mem_of_getElem? (i := 32) rfl)) rfl
theorem kw_104 : Cond.fieldLink "GatesBent$Reader" 32 "GatesBent$Reader" "length" "I" ∈ wA := wA_of (tb1 _ (List.mem_of_getElem? (i := 33) rfl)) rfl
theorem kw_105 : Cond.fieldLink "GatesBent" 162 "GatesBent$Reader" "length" "I" ∈ wA := wA_of (tb1 _ (List.mem_of_getElem? (i := 34) rfl)) rfl
theorem kw_106 : Cond.fieldLink "GatesBent$Reader" 24 "GatesBent$Reader" "place" "I" ∈ wA := wA_of (tb1 _ (List.mem_of_getElem? (i := 35) rfl)) rfl
theorem kw_107 : Cond.fieldLink "GatesBent" 176 "GatesBent$Reader" "place" "I" ∈ wA := wA_of (tb1 _ (List.mem_of_getElem? (i := 36) rfl)) rfl
theorem kw_108 : Cond.fieldLink "GatesBent$Reader" 15 "GatesBent$Reader" "house" "LGatesBent$House;" ∈ wA := wA_of (tb1 _ (List.mem_of_getElem? (i := 37) rfl)) rfl
theorem kw_118 : Cond.arrayClass FieldType.byte ∈ wA := wA_of (tb1 _ (List.mem_of_getElem? (i := 47) rfl)) rfl
theorem kw_119 : Cond.classLink "GatesBent" 18 "GatesBent$House" ∈ wA := wA_of (tb1 _ (List.mem_of_getElem? (i := 48) rfl)) rfl
theorem kw_121 : Cond.classLink "GatesBent" 28 "GatesBent$Tape" ∈ wA := wA_of (tb1 _ (List.mem_of_getElem? (i := 50) rfl)) rfl
theorem kw_123 : Cond.classLink "GatesBent" 34 "GatesBent$Gate" ∈ wA := wA_of (tb1 _ (List.mem_of_getElem? (i := 52) rfl)) rfl
theorem kw_124 : Cond.instantiable "GatesBent$Gate" 2 ∈ wA := wA_of (tb1 _ (List.mem_of_getElem? (i := 53) rfl)) rfl
theorem kw_126 : Cond.instanceMethod yX1_init ∈ wA := wA_of (tb1 _ (List.mem_of_getElem? (i := 55) rfl)) rfl
theorem kw_127 : Cond.code yX1_init cX1_init 1 none ∈ wA := wA_of (tb1 _ (List.mem_of_getElem? (i := 56) rfl)) rfl
theorem kw_128 : Cond.methodLink "GatesBent$Gate" 3 ⟨"java/lang/Object", "<init>", "()V"⟩ ∈ wA := wA_of (tb1 _ (List.mem_of_getElem? (i := 57) rfl)) rfl
theorem kw_129 : Cond.fieldLink "GatesBent$Gate" 9 "GatesBent$Gate" "walks" "[I" ∈ wA := wA_of (tb1 _ (List.mem_of_getElem? (i := 58) rfl)) rfl
theorem kw_130 : Cond.fieldLink "GatesBent" 142 "GatesBent$Gate" "walks" "[I" ∈ wA := wA_of (tb1 _ (List.mem_of_getElem? (i := 59) rfl)) rfl
theorem kw_131 : Cond.fieldLink "GatesBent$Gate" 15 "GatesBent$Gate" "known" "I" ∈ wA := wA_of (tb1 _ (List.mem_of_getElem? (i := 60) rfl)) rfl
theorem kw_132 : Cond.fieldLink "GatesBent" 139 "GatesBent$Gate" "known" "I" ∈ wA := wA_of (tb1 _ (List.mem_of_getElem? (i := 61) rfl)) rfl
theorem kw_133 : Cond.fieldLink "GatesBent$Town" 139 "GatesBent$Gate" "known" "I" ∈ wA := wA_of (tb1 _ (List.mem_of_getElem? (i := 62) rfl)) rfl
theorem kw_139 : Cond.arrayClass FieldType.int ∈ wA := wA_of (tb1 _ (List.mem_of_getElem? (i := 68) rfl)) rfl
theorem kw_140 : Cond.classLink "GatesBent" 41 "GatesBent$Comer" ∈ wA := wA_of (tb1 _ (List.mem_of_getElem? (i := 69) rfl)) rfl
theorem kw_141 : Cond.instantiable "GatesBent$Comer" 8 ∈ wA := wA_of (tb1 _ (List.mem_of_getElem? (i := 70) rfl)) rfl
theorem kw_142 : Cond.methodLink "GatesBent" 43 yX0_init ∈ wA := wA_of (tb1 _ (List.mem_of_getElem? (i := 71) rfl)) rfl
theorem kw_143 : Cond.instanceMethod yX0_init ∈ wA := wA_of (tb1 _ (List.mem_of_getElem? (i := 72) rfl)) rfl
theorem kw_144 : Cond.code yX0_init cX0_init 2 none ∈ wA := wA_of (tb1 _ (List.mem_of_getElem? (i := 73) rfl)) rfl
theorem kw_145 : Cond.methodLink "GatesBent$Comer" 3 ⟨"java/lang/Object", "<init>", "()V"⟩ ∈ wA := wA_of (tb1 _ (List.mem_of_getElem? (i := 74) rfl)) rfl
theorem kw_146 : Cond.fieldLink "GatesBent$Comer" 15 "GatesBent$Comer" "number" "I" ∈ wA := wA_of (tb1 _ (List.mem_of_getElem? (i := 75) rfl)) rfl
theorem kw_147 : Cond.fieldLink "GatesBent$House" 36 "GatesBent$Comer" "number" "I" ∈ wA := wA_of (tb1 _ (List.mem_of_getElem? (i := 76) rfl)) rfl
theorem kw_148 : Cond.fieldLink "GatesBent$Town" 122 "GatesBent$Comer" "number" "I" ∈ wA := wA_of (tb1 _ (List.mem_of_getElem? (i := 77) rfl)) rfl
theorem kw_149 : Cond.fieldLink "GatesBent" 269 "GatesBent$Comer" "number" "I" ∈ wA := wA_of (tb1 _ (List.mem_of_getElem? (i := 78) rfl)) rfl
theorem kw_150 : Cond.fieldLink "GatesBent$Comer" 19 "GatesBent$Comer" "kind" "I" ∈ wA := wA_of (tb1 _ (List.mem_of_getElem? (i := 79) rfl)) rfl
theorem kw_151 : Cond.fieldLink "GatesBent$Town" 77 "GatesBent$Comer" "kind" "I" ∈ wA := wA_of (tb1 _ (List.mem_of_getElem? (i := 80) rfl)) rfl
theorem kw_152 : Cond.fieldLink "GatesBent$House" 41 "GatesBent$Comer" "kind" "I" ∈ wA := wA_of (tb1 _ (List.mem_of_getElem? (i := 81) rfl)) rfl
theorem kw_153 : Cond.fieldLink "GatesBent" 114 "GatesBent$Comer" "kind" "I" ∈ wA := wA_of (tb1 _ (List.mem_of_getElem? (i := 82) rfl)) rfl
theorem kw_154 : Cond.fieldLink "GatesBent$Comer" 22 "GatesBent$Comer" "v" "I" ∈ wA := wA_of (tb1 _ (List.mem_of_getElem? (i := 83) rfl)) rfl
theorem kw_155 : Cond.fieldLink "GatesBent$Town" 80 "GatesBent$Comer" "v" "I" ∈ wA := wA_of (tb1 _ (List.mem_of_getElem? (i := 84) rfl)) rfl
theorem kw_156 : Cond.fieldLink "GatesBent$House" 44 "GatesBent$Comer" "v" "I" ∈ wA := wA_of (tb1 _ (List.mem_of_getElem? (i := 85) rfl)) rfl
theorem kw_157 : Cond.fieldLink "GatesBent" 117 "GatesBent$Comer" "v" "I" ∈ wA := wA_of (tb1 _ (List.mem_of_getElem? (i := 86) rfl)) rfl
theorem kw_158 : Cond.fieldLink "GatesBent$Comer" 25 "GatesBent$Comer" "walk" "I" ∈ wA := wA_of (tb1 _ (List.mem_of_getElem? (i := 87) rfl)) rfl
theorem kw_159 : Cond.fieldLink "GatesBent$Town" 61 "GatesBent$Comer" "walk" "I" ∈ wA := wA_of (tb1 _ (List.mem_of_getElem? (i := 88) rfl)) rfl
theorem kw_160 : Cond.fieldLink "GatesBent" 120 "GatesBent$Comer" "walk" "I" ∈ wA := wA_of (tb1 _ (List.mem_of_getElem? (i := 89) rfl)) rfl
theorem kw_161 : Cond.fieldLink "GatesBent$Comer" 28 "GatesBent$Comer" "gate" "I" ∈ wA := wA_of (tb1 _ (List.mem_of_getElem? (i := 90) rfl)) rfl
theorem kw_162 : Cond.fieldLink "GatesBent$Town" 83 "GatesBent$Comer" "gate" "I" ∈ wA := wA_of (tb1 _ (List.mem_of_getElem? (i := 91) rfl)) rfl
theorem kw_163 : Cond.fieldLink "GatesBent" 123 "GatesBent$Comer" "gate" "I" ∈ wA := wA_of (tb1 _ (List.mem_of_getElem? (i := 92) rfl)) rfl
theorem kw_164 : Cond.fieldLink "GatesBent$Comer" 31 "GatesBent$Comer" "tries" "I" ∈ wA := wA_of (tb1 _ (List.mem_of_getElem? (i := 93) rfl)) rfl
theorem kw_165 : Cond.fieldLink "GatesBent$Town" 91 "GatesBent$Comer" "tries" "I" ∈ wA := wA_of (tb1 _ (List.mem_of_getElem? (i := 94) rfl)) rfl
theorem kw_166 : Cond.fieldLink "GatesBent$House" 47 "GatesBent$Comer" "tries" "I" ∈ wA := wA_of (tb1 _ (List.mem_of_getElem? (i := 95) rfl)) rfl
theorem kw_167 : Cond.fieldLink "GatesBent" 126 "GatesBent$Comer" "tries" "I" ∈ wA := wA_of (tb1 _ (List.mem_of_getElem? (i := 96) rfl)) rfl
theorem kw_168 : Cond.fieldLink "GatesBent$Comer" 34 "GatesBent$Comer" "passed" "I" ∈ wA := wA_of (tb1 _ (List.mem_of_getElem? (i := 97) rfl)) rfl
theorem kw_169 : Cond.fieldLink "GatesBent$Town" 113 "GatesBent$Comer" "passed" "I" ∈ wA := wA_of (tb1 _ (List.mem_of_getElem? (i := 98) rfl)) rfl
theorem kw_170 : Cond.fieldLink "GatesBent" 129 "GatesBent$Comer" "passed" "I" ∈ wA := wA_of (tb1 _ (List.mem_of_getElem? (i := 99) rfl)) rfl
theorem kw_171 : Cond.fieldLink "GatesBent$Comer" 9 "GatesBent$Comer" "row" "[I" ∈ wA := wA_of (tb1 _ (List.mem_of_getElem? (i := 100) rfl)) rfl
theorem kw_172 : Cond.fieldLink "GatesBent$Town" 94 "GatesBent$Comer" "row" "[I" ∈ wA := wA_of (tb1 _ (List.mem_of_getElem? (i := 101) rfl)) rfl
theorem kw_173 : Cond.fieldLink "GatesBent" 159 "GatesBent$Comer" "row" "[I" ∈ wA := wA_of (tb1 _ (List.mem_of_getElem? (i := 102) rfl)) rfl
theorem kw_191 : Cond.instantiable "GatesBent$House" 5 ∈ wA := wA_of (tb1 _ (List.mem_of_getElem? (i := 120) rfl)) rfl
theorem kw_192 : Cond.methodLink "GatesBent" 56 yX2_init ∈ wA := wA_of (tb1 _ (List.mem_of_getElem? (i := 121) rfl)) rfl
theorem kw_193 : Cond.instanceMethod yX2_init ∈ wA := wA_of (tb1 _ (List.mem_of_getElem? (i := 122) rfl)) rfl
theorem kw_194 : Cond.code yX2_init cX2_init 2 none ∈ wA := wA_of (tb1 _ (List.mem_of_getElem? (i := 123) rfl)) rfl
theorem kw_195 : Cond.methodLink "GatesBent$House" 3 ⟨"java/lang/Object", "<init>", "()V"⟩ ∈ wA := wA_of (tb1 _ (List.mem_of_getElem? (i := 124) rfl)) rfl
theorem kw_196 : Cond.fieldLink "GatesBent$House" 9 "GatesBent$House" "ops" "[I" ∈ wA := wA_of (tb1 _ (List.mem_of_getElem? (i := 125) rfl)) rfl
theorem kw_197 : Cond.fieldLink "GatesBent$House" 15 "GatesBent$House" "numbers" "[I" ∈ wA := wA_of (tb1 _ (List.mem_of_getElem? (i := 126) rfl)) rfl
theorem kw_198 : Cond.fieldLink "GatesBent$House" 22 "GatesBent$House" "length" "I" ∈ wA := wA_of (tb1 _ (List.mem_of_getElem? (i := 127) rfl)) rfl
theorem kw_199 : Cond.fieldLink "GatesBent$House" 18 "GatesBent$House" "need" "I" ∈ wA := wA_of (tb1 _ (List.mem_of_getElem? (i := 128) rfl)) rfl
theorem kw_200 : Cond.fieldLink "GatesBent$Reader" 46 "GatesBent$House" "need" "I" ∈ wA := wA_of (tb1 _ (List.mem_of_getElem? (i := 129) rfl)) rfl
theorem kw_201 : Cond.fieldLink "GatesBent$Town" 98 "GatesBent$House" "need" "I" ∈ wA := wA_of (tb1 _ (List.mem_of_getElem? (i := 130) rfl)) rfl
theorem kw_202 : Cond.fieldLink "GatesBent" 189 "GatesBent$House" "need" "I" ∈ wA := wA_of (tb1 _ (List.mem_of_getElem? (i := 131) rfl)) rfl
theorem kw_203 : Cond.fieldLink "GatesBent$House" 25 "GatesBent$House" "age" "I" ∈ wA := wA_of (tb1 _ (List.mem_of_getElem? (i := 132) rfl)) rfl
theorem kw_204 : Cond.fieldLink "GatesBent$Reader" 49 "GatesBent$House" "age" "I" ∈ wA := wA_of (tb1 _ (List.mem_of_getElem? (i := 133) rfl)) rfl
theorem kw_205 : Cond.fieldLink "GatesBent$Town" 119 "GatesBent$House" "age" "I" ∈ wA := wA_of (tb1 _ (List.mem_of_getElem? (i := 134) rfl)) rfl
theorem kw_206 : Cond.fieldLink "GatesBent" 192 "GatesBent$House" "age" "I" ∈ wA := wA_of (tb1 _ (List.mem_of_getElem? (i := 135) rfl)) rfl
theorem kw_218 : Cond.classLink "GatesBent" 57 "GatesBent$Town" ∈ wA := wA_of (tb1 _ (List.mem_of_getElem? (i := 147) rfl)) rfl
theorem kw_219 : Cond.instantiable "GatesBent$Town" 8 ∈ wA := wA_of (tb1 _ (List.mem_of_getElem? (i := 148) rfl)) rfl
theorem kw_220 : Cond.methodLink "GatesBent" 59 yX6_init ∈ wA := wA_of (tb1 _ (List.mem_of_getElem? (i := 149) rfl)) rfl
theorem kw_221 : Cond.instanceMethod yX6_init ∈ wA := wA_of (tb1 _ (List.mem_of_getElem? (i := 150) rfl)) rfl
theorem kw_222 : Cond.code yX6_init cX6_init 3 none ∈ wA := wA_of (tb1 _ (List.mem_of_getElem? (i := 151) rfl)) rfl
theorem kw_223 : Cond.methodLink "GatesBent$Town" 3 ⟨"java/lang/Object", "<init>", "()V"⟩ ∈ wA := wA_of (tb1 _ (List.mem_of_getElem? (i := 152) rfl)) rfl
theorem kw_224 : Cond.classLink "GatesBent$Town" 9 "GatesBent$Gate" ∈ wA := wA_of (tb1 _ (List.mem_of_getElem? (i := 153) rfl)) rfl
theorem kw_226 : Cond.classLink "GatesBent$Town" 17 "GatesBent$Comer" ∈ wA := wA_of (tb1 _ (List.mem_of_getElem? (i := 155) rfl)) rfl
theorem kw_228 : Cond.classLink "GatesBent$Town" 23 "GatesBent$Rows" ∈ wA := wA_of (tb1 _ (List.mem_of_getElem? (i := 157) rfl)) rfl
theorem kw_229 : Cond.instantiable "GatesBent$Rows" 4 ∈ wA := wA_of (tb1 _ (List.mem_of_getElem? (i := 158) rfl)) rfl
theorem kw_230 : Cond.methodLink "GatesBent$Town" 25 yX4_init ∈ wA := wA_of (tb1 _ (List.mem_of_getElem? (i := 159) rfl)) rfl
theorem kw_231 : Cond.instanceMethod yX4_init ∈ wA := wA_of (tb1 _ (List.mem_of_getElem? (i := 160) rfl)) rfl
theorem kw_232 : Cond.code yX4_init cX4_init 2 none ∈ wA := wA_of (tb1 _ (List.mem_of_getElem? (i := 161) rfl)) rfl
theorem kw_233 : Cond.methodLink "GatesBent$Rows" 3 ⟨"java/lang/Object", "<init>", "()V"⟩ ∈ wA := wA_of (tb1 _ (List.mem_of_getElem? (i := 162) rfl)) rfl
theorem kw_234 : Cond.fieldLink "GatesBent$Rows" 9 "GatesBent$Rows" "first" "[I" ∈ wA := wA_of (tb1 _ (List.mem_of_getElem? (i := 163) rfl)) rfl
theorem kw_235 : Cond.fieldLink "GatesBent$Town" 129 "GatesBent$Rows" "first" "[I" ∈ wA := wA_of (tb1 _ (List.mem_of_getElem? (i := 164) rfl)) rfl
theorem kw_236 : Cond.fieldLink "GatesBent" 245 "GatesBent$Rows" "first" "[I" ∈ wA := wA_of (tb1 _ (List.mem_of_getElem? (i := 165) rfl)) rfl
theorem kw_237 : Cond.fieldLink "GatesBent$Rows" 15 "GatesBent$Rows" "second" "[I" ∈ wA := wA_of (tb1 _ (List.mem_of_getElem? (i := 166) rfl)) rfl
theorem kw_238 : Cond.fieldLink "GatesBent$Town" 126 "GatesBent$Rows" "second" "[I" ∈ wA := wA_of (tb1 _ (List.mem_of_getElem? (i := 167) rfl)) rfl
theorem kw_239 : Cond.fieldLink "GatesBent" 248 "GatesBent$Rows" "second" "[I" ∈ wA := wA_of (tb1 _ (List.mem_of_getElem? (i := 168) rfl)) rfl
theorem kw_240 : Cond.fieldLink "GatesBent$Rows" 18 "GatesBent$Rows" "third" "[I" ∈ wA := wA_of (tb1 _ (List.mem_of_getElem? (i := 169) rfl)) rfl
theorem kw_241 : Cond.fieldLink "GatesBent" 251 "GatesBent$Rows" "third" "[I" ∈ wA := wA_of (tb1 _ (List.mem_of_getElem? (i := 170) rfl)) rfl
theorem kw_242 : Cond.fieldLink "GatesBent$Rows" 21 "GatesBent$Rows" "many" "I" ∈ wA := wA_of (tb1 _ (List.mem_of_getElem? (i := 171) rfl)) rfl
theorem kw_243 : Cond.fieldLink "GatesBent$Town" 125 "GatesBent$Rows" "many" "I" ∈ wA := wA_of (tb1 _ (List.mem_of_getElem? (i := 172) rfl)) rfl
theorem kw_244 : Cond.fieldLink "GatesBent" 244 "GatesBent$Rows" "many" "I" ∈ wA := wA_of (tb1 _ (List.mem_of_getElem? (i := 173) rfl)) rfl
theorem kw_255 : Cond.methodLink "GatesBent$Town" 43 yX0_init ∈ wA := wA_of (tb1 _ (List.mem_of_getElem? (i := 184) rfl)) rfl
theorem kw_256 : Cond.fieldLink "GatesBent$Town" 11 "GatesBent$Town" "gates" "[LGatesBent$Gate;" ∈ wA := wA_of (tb1 _ (List.mem_of_getElem? (i := 185) rfl)) rfl
theorem kw_257 : Cond.fieldLink "GatesBent" 135 "GatesBent$Town" "gates" "[LGatesBent$Gate;" ∈ wA := wA_of (tb1 _ (List.mem_of_getElem? (i := 186) rfl)) rfl
theorem kw_258 : Cond.fieldLink "GatesBent$Town" 19 "GatesBent$Town" "comers" "[LGatesBent$Comer;" ∈ wA := wA_of (tb1 _ (List.mem_of_getElem? (i := 187) rfl)) rfl
theorem kw_259 : Cond.fieldLink "GatesBent" 94 "GatesBent$Town" "comers" "[LGatesBent$Comer;" ∈ wA := wA_of (tb1 _ (List.mem_of_getElem? (i := 188) rfl)) rfl
theorem kw_260 : Cond.fieldLink "GatesBent$Town" 28 "GatesBent$Town" "seen" "LGatesBent$Rows;" ∈ wA := wA_of (tb1 _ (List.mem_of_getElem? (i := 189) rfl)) rfl
theorem kw_261 : Cond.fieldLink "GatesBent" 232 "GatesBent$Town" "seen" "LGatesBent$Rows;" ∈ wA := wA_of (tb1 _ (List.mem_of_getElem? (i := 190) rfl)) rfl
theorem kw_262 : Cond.fieldLink "GatesBent$Town" 32 "GatesBent$Town" "plan" "LGatesBent$Rows;" ∈ wA := wA_of (tb1 _ (List.mem_of_getElem? (i := 191) rfl)) rfl
theorem kw_263 : Cond.fieldLink "GatesBent" 278 "GatesBent$Town" "plan" "LGatesBent$Rows;" ∈ wA := wA_of (tb1 _ (List.mem_of_getElem? (i := 192) rfl)) rfl
theorem kw_264 : Cond.fieldLink "GatesBent$Town" 35 "GatesBent$Town" "book" "LGatesBent$Rows;" ∈ wA := wA_of (tb1 _ (List.mem_of_getElem? (i := 193) rfl)) rfl
theorem kw_265 : Cond.fieldLink "GatesBent" 287 "GatesBent$Town" "book" "LGatesBent$Rows;" ∈ wA := wA_of (tb1 _ (List.mem_of_getElem? (i := 194) rfl)) rfl
theorem kw_266 : Cond.fieldLink "GatesBent$Town" 54 "GatesBent$Town" "many" "I" ∈ wA := wA_of (tb1 _ (List.mem_of_getElem? (i := 195) rfl)) rfl
theorem kw_267 : Cond.fieldLink "GatesBent" 79 "GatesBent$Town" "many" "I" ∈ wA := wA_of (tb1 _ (List.mem_of_getElem? (i := 196) rfl)) rfl
theorem kw_268 : Cond.fieldLink "GatesBent$Town" 58 "GatesBent$Town" "day" "I" ∈ wA := wA_of (tb1 _ (List.mem_of_getElem? (i := 197) rfl)) rfl
theorem kw_269 : Cond.fieldLink "GatesBent" 153 "GatesBent$Town" "day" "I" ∈ wA := wA_of (tb1 _ (List.mem_of_getElem? (i := 198) rfl)) rfl
theorem kw_270 : Cond.fieldLink "GatesBent$Town" 38 "GatesBent$Town" "house" "LGatesBent$House;" ∈ wA := wA_of (tb1 _ (List.mem_of_getElem? (i := 199) rfl)) rfl
theorem kw_271 : Cond.fieldLink "GatesBent" 179 "GatesBent$Town" "house" "LGatesBent$House;" ∈ wA := wA_of (tb1 _ (List.mem_of_getElem? (i := 200) rfl)) rfl
theorem kw_289 : Cond.instantiable "GatesBent$Tape" 3 ∈ wA := wA_of (tb1 _ (List.mem_of_getElem? (i := 218) rfl)) rfl
theorem kw_291 : Cond.instanceMethod yX5_init ∈ wA := wA_of (tb1 _ (List.mem_of_getElem? (i := 220) rfl)) rfl
theorem kw_292 : Cond.code yX5_init cX5_init 1 none ∈ wA := wA_of (tb1 _ (List.mem_of_getElem? (i := 221) rfl)) rfl
theorem kw_293 : Cond.methodLink "GatesBent$Tape" 3 ⟨"java/lang/Object", "<init>", "()V"⟩ ∈ wA := wA_of (tb1 _ (List.mem_of_getElem? (i := 222) rfl)) rfl
theorem kw_294 : Cond.fieldLink "GatesBent$Tape" 9 "GatesBent$Tape" "items" "[J" ∈ wA := wA_of (tb1 _ (List.mem_of_getElem? (i := 223) rfl)) rfl
theorem kw_295 : Cond.fieldLink "GatesBent" 296 "GatesBent$Tape" "items" "[J" ∈ wA := wA_of (tb1 _ (List.mem_of_getElem? (i := 224) rfl)) rfl
theorem kw_296 : Cond.fieldLink "GatesBent$Tape" 15 "GatesBent$Tape" "sort" "I" ∈ wA := wA_of (tb1 _ (List.mem_of_getElem? (i := 225) rfl)) rfl
theorem kw_297 : Cond.fieldLink "GatesBent" 290 "GatesBent$Tape" "sort" "I" ∈ wA := wA_of (tb1 _ (List.mem_of_getElem? (i := 226) rfl)) rfl
theorem kw_298 : Cond.fieldLink "GatesBent$Tape" 19 "GatesBent$Tape" "length" "I" ∈ wA := wA_of (tb1 _ (List.mem_of_getElem? (i := 227) rfl)) rfl
theorem kw_306 : Cond.arrayClass FieldType.long ∈ wA := wA_of (tb1 _ (List.mem_of_getElem? (i := 235) rfl)) rfl
theorem kw_307 : Cond.fieldLink "GatesBent" 62 "GatesBent" "now" "LGatesBent$Town;" ∈ wA := wA_of (tb1 _ (List.mem_of_getElem? (i := 236) rfl)) rfl
theorem kw_308 : Cond.fieldLink "GatesBent" 66 "GatesBent" "kept" "LGatesBent$Town;" ∈ wA := wA_of (tb1 _ (List.mem_of_getElem? (i := 237) rfl)) rfl
theorem kw_309 : Cond.fieldLink "GatesBent" 69 "GatesBent" "ahead" "LGatesBent$Town;" ∈ wA := wA_of (tb1 _ (List.mem_of_getElem? (i := 238) rfl)) rfl
theorem kw_310 : Cond.fieldLink "GatesBent" 300 "GatesBent" "isImageTaken" "Z" ∈ wA := wA_of (tb1 _ (List.mem_of_getElem? (i := 239) rfl)) rfl
theorem kw_311 : Cond.fieldLink "GatesBent" 12 "GatesBent" "reader" "LGatesBent$Reader;" ∈ wA := wA_of (tb2 _ (List.mem_of_getElem? (i := 0) rfl)) rfl
theorem kw_312 : Cond.fieldLink "GatesBent" 20 "GatesBent" "houses" "[LGatesBent$House;" ∈ wA := wA_of (tb2 _ (List.mem_of_getElem? (i := 1) rfl)) rfl
theorem kw_313 : Cond.fieldLink "GatesBent" 169 "GatesBent" "houseCount" "I" ∈ wA := wA_of (tb2 _ (List.mem_of_getElem? (i := 2) rfl)) rfl
theorem kw_314 : Cond.fieldLink "GatesBent" 24 "GatesBent" "bodies" "[I" ∈ wA := wA_of (tb2 _ (List.mem_of_getElem? (i := 3) rfl)) rfl
theorem kw_315 : Cond.fieldLink "GatesBent" 304 "GatesBent" "bodiesRun" "I" ∈ wA := wA_of (tb2 _ (List.mem_of_getElem? (i := 4) rfl)) rfl
theorem kw_316 : Cond.fieldLink "GatesBent" 30 "GatesBent" "tapes" "[LGatesBent$Tape;" ∈ wA := wA_of (tb2 _ (List.mem_of_getElem? (i := 5) rfl)) rfl
theorem kw_317 : Cond.fieldLink "GatesBent" 37 "GatesBent" "trial" "LGatesBent$Gate;" ∈ wA := wA_of (tb2 _ (List.mem_of_getElem? (i := 6) rfl)) rfl
theorem kw_318 : Cond.fieldLink "GatesBent" 46 "GatesBent" "probe" "LGatesBent$Comer;" ∈ wA := wA_of (tb2 _ (List.mem_of_getElem? (i := 7) rfl)) rfl
theorem kw_319 : Cond.fieldLink "GatesBent" 50 "GatesBent" "neededByComer" "[I" ∈ wA := wA_of (tb2 _ (List.mem_of_getElem? (i := 8) rfl)) rfl
theorem kw_320 : Cond.fieldLink "GatesBent" 53 "GatesBent" "neededByGate" "[I" ∈ wA := wA_of (tb2 _ (List.mem_of_getElem? (i := 9) rfl)) rfl
theorem kw_350 : Cond.methodLink "GatesBentLaw" 13 yX7_comer ∈ wA := wA_of (tb2 _ (List.mem_of_getElem? (i := 39) rfl)) rfl
theorem kw_351 : Cond.instanceMethod yX7_comer ∈ wA := wA_of (tb2 _ (List.mem_of_getElem? (i := 40) rfl)) rfl
theorem kw_352 : Cond.selects "GatesBent" yX7_comer yX7_comer ∈ wA := wA_of (tb2 _ (List.mem_of_getElem? (i := 41) rfl)) rfl
theorem kw_353 : Cond.code yX7_comer cX7_comer 5 (some FieldType.int) ∈ wA := wA_of (tb2 _ (List.mem_of_getElem? (i := 42) rfl)) rfl
theorem kw_354 : Cond.methodLink "GatesBent" 83 yX7_isIn ∈ wA := wA_of (tb2 _ (List.mem_of_getElem? (i := 43) rfl)) rfl
theorem kw_355 : Cond.static yX7_isIn ∈ wA := wA_of (tb2 _ (List.mem_of_getElem? (i := 44) rfl)) rfl
theorem kw_356 : Cond.code yX7_isIn cX7_isIn 2 (some FieldType.boolean) ∈ wA := wA_of (tb2 _ (List.mem_of_getElem? (i := 45) rfl)) rfl
theorem kw_357 : Cond.methodLink "GatesBent" 98 yX0_begin ∈ wA := wA_of (tb2 _ (List.mem_of_getElem? (i := 46) rfl)) rfl
theorem kw_358 : Cond.instanceMethod yX0_begin ∈ wA := wA_of (tb2 _ (List.mem_of_getElem? (i := 47) rfl)) rfl
theorem kw_359 : Cond.selects "GatesBent$Comer" yX0_begin yX0_begin ∈ wA := wA_of (tb2 _ (List.mem_of_getElem? (i := 48) rfl)) rfl
theorem kw_360 : Cond.code yX0_begin cX0_begin 6 none ∈ wA := wA_of (tb2 _ (List.mem_of_getElem? (i := 49) rfl)) rfl
theorem kw_361 : Cond.methodLink "GatesBentLaw" 18 yX7_of ∈ wA := wA_of (tb2 _ (List.mem_of_getElem? (i := 50) rfl)) rfl
theorem kw_362 : Cond.instanceMethod yX7_of ∈ wA := wA_of (tb2 _ (List.mem_of_getElem? (i := 51) rfl)) rfl
theorem kw_363 : Cond.selects "GatesBent" yX7_of yX7_of ∈ wA := wA_of (tb2 _ (List.mem_of_getElem? (i := 52) rfl)) rfl
theorem kw_364 : Cond.code yX7_of cX7_of 4 (some FieldType.int) ∈ wA := wA_of (tb2 _ (List.mem_of_getElem? (i := 53) rfl)) rfl
theorem kw_365 : Cond.methodLink "GatesBent" 102 yX7_isComer ∈ wA := wA_of (tb2 _ (List.mem_of_getElem? (i := 54) rfl)) rfl
theorem kw_367 : Cond.instanceMethod yX7_isComer ∈ wA := wA_of (tb2 _ (List.mem_of_getElem? (i := 56) rfl)) rfl
theorem kw_368 : Cond.code yX7_isComer cX7_isComer 2 (some FieldType.boolean) ∈ wA := wA_of (tb2 _ (List.mem_of_getElem? (i := 57) rfl)) rfl
theorem kw_369 : Cond.methodLink "GatesBent" 106 yX6_letsBy ∈ wA := wA_of (tb2 _ (List.mem_of_getElem? (i := 58) rfl)) rfl
theorem kw_370 : Cond.instanceMethod yX6_letsBy ∈ wA := wA_of (tb2 _ (List.mem_of_getElem? (i := 59) rfl)) rfl
theorem kw_371 : Cond.selects "GatesBent$Town" yX6_letsBy yX6_letsBy ∈ wA := wA_of (tb2 _ (List.mem_of_getElem? (i := 60) rfl)) rfl
theorem kw_372 : Cond.code yX6_letsBy cX6_letsBy 3 (some FieldType.boolean) ∈ wA := wA_of (tb2 _ (List.mem_of_getElem? (i := 61) rfl)) rfl
theorem kw_373 : Cond.methodLink "GatesBent$Town" 101 yX6_marksNeeded ∈ wA := wA_of (tb2 _ (List.mem_of_getElem? (i := 62) rfl)) rfl
theorem kw_374 : Cond.instanceMethod yX6_marksNeeded ∈ wA := wA_of (tb2 _ (List.mem_of_getElem? (i := 63) rfl)) rfl
theorem kw_375 : Cond.selects "GatesBent$Town" yX6_marksNeeded yX6_marksNeeded ∈ wA := wA_of (tb2 _ (List.mem_of_getElem? (i := 64) rfl)) rfl
theorem kw_376 : Cond.code yX6_marksNeeded cX6_marksNeeded 5 (some FieldType.int) ∈ wA := wA_of (tb2 _ (List.mem_of_getElem? (i := 65) rfl)) rfl
theorem kw_377 : Cond.methodLink "GatesBent$Town" 68 yX2_bonus ∈ wA := wA_of (tb2 _ (List.mem_of_getElem? (i := 66) rfl)) rfl
theorem kw_378 : Cond.instanceMethod yX2_bonus ∈ wA := wA_of (tb2 _ (List.mem_of_getElem? (i := 67) rfl)) rfl
theorem kw_379 : Cond.selects "GatesBent$House" yX2_bonus yX2_bonus ∈ wA := wA_of (tb2 _ (List.mem_of_getElem? (i := 68) rfl)) rfl
theorem kw_380 : Cond.code yX2_bonus cX2_bonus 10 (some FieldType.int) ∈ wA := wA_of (tb2 _ (List.mem_of_getElem? (i := 69) rfl)) rfl
theorem kw_381 : Cond.methodLink "GatesBent$House" 28 yX2_valueOf ∈ wA := wA_of (tb2 _ (List.mem_of_getElem? (i := 70) rfl)) rfl
theorem kw_382 : Cond.static yX2_valueOf ∈ wA := wA_of (tb2 _ (List.mem_of_getElem? (i := 71) rfl)) rfl
theorem kw_383 : Cond.code yX2_valueOf cX2_valueOf 4 (some FieldType.int) ∈ wA := wA_of (tb2 _ (List.mem_of_getElem? (i := 72) rfl)) rfl
theorem kw_384 : Cond.methodLink "GatesBent$House" 32 yX2_isSo ∈ wA := wA_of (tb2 _ (List.mem_of_getElem? (i := 73) rfl)) rfl
theorem kw_385 : Cond.static yX2_isSo ∈ wA := wA_of (tb2 _ (List.mem_of_getElem? (i := 74) rfl)) rfl
theorem kw_386 : Cond.code yX2_isSo cX2_isSo 3 (some FieldType.boolean) ∈ wA := wA_of (tb2 _ (List.mem_of_getElem? (i := 75) rfl)) rfl
theorem kw_387 : Cond.methodLink "GatesBent$Town" 74 yX6_likeBySum ∈ wA := wA_of (tb2 _ (List.mem_of_getElem? (i := 76) rfl)) rfl
theorem kw_389 : Cond.instanceMethod yX6_likeBySum ∈ wA := wA_of (tb2 _ (List.mem_of_getElem? (i := 78) rfl)) rfl
theorem kw_390 : Cond.code yX6_likeBySum cX6_likeBySum 4 (some FieldType.int) ∈ wA := wA_of (tb2 _ (List.mem_of_getElem? (i := 79) rfl)) rfl
theorem kw_391 : Cond.methodLink "GatesBent$Town" 86 yJ9_min_7cf53 ∈ wA := wA_of (tb2 _ (List.mem_of_getElem? (i := 80) rfl)) rfl
theorem kw_392 : Cond.static yJ9_min_7cf53 ∈ wA := wA_of (tb2 _ (List.mem_of_getElem? (i := 81) rfl)) rfl
theorem kw_393 : Cond.code yJ9_min_7cf53 cJ9_min_7cf53 2 (some FieldType.int) ∈ wA := wA_of (tb2 _ (List.mem_of_getElem? (i := 82) rfl)) rfl
theorem kw_394 : Cond.methodLink "GatesBent$Town" 105 yX1_knowsAlike ∈ wA := wA_of (tb2 _ (List.mem_of_getElem? (i := 83) rfl)) rfl
theorem kw_395 : Cond.instanceMethod yX1_knowsAlike ∈ wA := wA_of (tb2 _ (List.mem_of_getElem? (i := 84) rfl)) rfl
theorem kw_396 : Cond.selects "GatesBent$Gate" yX1_knowsAlike yX1_knowsAlike ∈ wA := wA_of (tb2 _ (List.mem_of_getElem? (i := 85) rfl)) rfl
theorem kw_397 : Cond.code yX1_knowsAlike cX1_knowsAlike 4 (some FieldType.boolean) ∈ wA := wA_of (tb2 _ (List.mem_of_getElem? (i := 86) rfl)) rfl
theorem kw_399 : Cond.static yX7_alike ∈ wA := wA_of (tb2 _ (List.mem_of_getElem? (i := 88) rfl)) rfl
theorem kw_400 : Cond.code yX7_alike cX7_alike 2 (some FieldType.int) ∈ wA := wA_of (tb2 _ (List.mem_of_getElem? (i := 89) rfl)) rfl
theorem kw_401 : Cond.methodLink "GatesBent" 73 yJ6_bitCount_0f7a4 ∈ wA := wA_of (tb2 _ (List.mem_of_getElem? (i := 90) rfl)) rfl
theorem kw_402 : Cond.static yJ6_bitCount_0f7a4 ∈ wA := wA_of (tb2 _ (List.mem_of_getElem? (i := 91) rfl)) rfl
theorem kw_403 : Cond.code yJ6_bitCount_0f7a4 cJ6_bitCount_0f7a4 1 (some FieldType.int) ∈ wA := wA_of (tb2 _ (List.mem_of_getElem? (i := 92) rfl)) rfl
theorem kw_404 : Cond.constant "java/lang/Integer" 265 (1431655765 : Int32) ∈ wA := wA_of (tb2 _ (List.mem_of_getElem? (i := 93) rfl)) rfl
theorem kw_405 : Cond.constant "java/lang/Integer" 266 (858993459 : Int32) ∈ wA := wA_of (tb2 _ (List.mem_of_getElem? (i := 94) rfl)) rfl
theorem kw_406 : Cond.constant "java/lang/Integer" 267 (252645135 : Int32) ∈ wA := wA_of (tb2 _ (List.mem_of_getElem? (i := 95) rfl)) rfl
theorem kw_407 : Cond.methodLink "GatesBent" 110 yX7_nearest ∈ wA := wA_of (tb2 _ (List.mem_of_getElem? (i := 96) rfl)) rfl
theorem kw_409 : Cond.instanceMethod yX7_nearest ∈ wA := wA_of (tb2 _ (List.mem_of_getElem? (i := 98) rfl)) rfl
theorem kw_410 : Cond.code yX7_nearest cX7_nearest 8 (some FieldType.int) ∈ wA := wA_of (tb2 _ (List.mem_of_getElem? (i := 99) rfl)) rfl
theorem kw_411 : Cond.methodLink "GatesBent" 145 yX6_likeToWalk ∈ wA := wA_of (tb2 _ (List.mem_of_getElem? (i := 100) rfl)) rfl
theorem kw_412 : Cond.instanceMethod yX6_likeToWalk ∈ wA := wA_of (tb2 _ (List.mem_of_getElem? (i := 101) rfl)) rfl
theorem kw_413 : Cond.selects "GatesBent$Town" yX6_likeToWalk yX6_likeToWalk ∈ wA := wA_of (tb2 _ (List.mem_of_getElem? (i := 102) rfl)) rfl
theorem kw_414 : Cond.code yX6_likeToWalk cX6_likeToWalk 4 (some FieldType.int) ∈ wA := wA_of (tb2 _ (List.mem_of_getElem? (i := 103) rfl)) rfl
theorem kw_416 : Cond.methodLink "GatesBent" 132 yX7_daysUntilOut ∈ wA := wA_of (tb2 _ (List.mem_of_getElem? (i := 105) rfl)) rfl
theorem kw_418 : Cond.instanceMethod yX7_daysUntilOut ∈ wA := wA_of (tb2 _ (List.mem_of_getElem? (i := 107) rfl)) rfl
theorem kw_419 : Cond.code yX7_daysUntilOut cX7_daysUntilOut 4 (some FieldType.int) ∈ wA := wA_of (tb2 _ (List.mem_of_getElem? (i := 108) rfl)) rfl
theorem kw_420 : Cond.methodLink "GatesBent" 87 yX6_become ∈ wA := wA_of (tb2 _ (List.mem_of_getElem? (i := 109) rfl)) rfl
theorem kw_421 : Cond.instanceMethod yX6_become ∈ wA := wA_of (tb2 _ (List.mem_of_getElem? (i := 110) rfl)) rfl
theorem kw_422 : Cond.selects "GatesBent$Town" yX6_become yX6_become ∈ wA := wA_of (tb2 _ (List.mem_of_getElem? (i := 111) rfl)) rfl
theorem kw_423 : Cond.code yX6_become cX6_become 3 none ∈ wA := wA_of (tb2 _ (List.mem_of_getElem? (i := 112) rfl)) rfl
theorem kw_424 : Cond.methodLink "GatesBent$Town" 44 yX1_become ∈ wA := wA_of (tb2 _ (List.mem_of_getElem? (i := 113) rfl)) rfl
theorem kw_425 : Cond.instanceMethod yX1_become ∈ wA := wA_of (tb2 _ (List.mem_of_getElem? (i := 114) rfl)) rfl
theorem kw_426 : Cond.selects "GatesBent$Gate" yX1_become yX1_become ∈ wA := wA_of (tb2 _ (List.mem_of_getElem? (i := 115) rfl)) rfl
theorem kw_427 : Cond.code yX1_become cX1_become 2 none ∈ wA := wA_of (tb2 _ (List.mem_of_getElem? (i := 116) rfl)) rfl
theorem kw_428 : Cond.methodLink "GatesBent$Gate" 19 ⟨"java/lang/System", "arraycopy", "(Ljava/lang/Object;ILjava/lang/Object;II)V"⟩ ∈ wA := wA_of (tb2 _ (List.mem_of_getElem? (i := 117) rfl)) rfl
theorem kw_429 : Cond.static ⟨"java/lang/System", "arraycopy", "(Ljava/lang/Object;ILjava/lang/Object;II)V"⟩ ∈ wA := wA_of (tb2 _ (List.mem_of_getElem? (i := 118) rfl)) rfl
theorem kw_430 : Cond.native ⟨"java/lang/System", "arraycopy", "(Ljava/lang/Object;ILjava/lang/Object;II)V"⟩ ∈ wA := wA_of (tb2 _ (List.mem_of_getElem? (i := 119) rfl)) rfl
theorem kw_431 : Cond.methodLink "GatesBent$Town" 48 yX0_become ∈ wA := wA_of (tb2 _ (List.mem_of_getElem? (i := 120) rfl)) rfl
theorem kw_432 : Cond.instanceMethod yX0_become ∈ wA := wA_of (tb2 _ (List.mem_of_getElem? (i := 121) rfl)) rfl
theorem kw_433 : Cond.selects "GatesBent$Comer" yX0_become yX0_become ∈ wA := wA_of (tb2 _ (List.mem_of_getElem? (i := 122) rfl)) rfl
theorem kw_434 : Cond.code yX0_become cX0_become 2 none ∈ wA := wA_of (tb2 _ (List.mem_of_getElem? (i := 123) rfl)) rfl
theorem kw_435 : Cond.methodLink "GatesBent$Comer" 37 ⟨"java/lang/System", "arraycopy", "(Ljava/lang/Object;ILjava/lang/Object;II)V"⟩ ∈ wA := wA_of (tb2 _ (List.mem_of_getElem? (i := 124) rfl)) rfl
theorem kw_436 : Cond.methodLink "GatesBent$Town" 51 yX4_become ∈ wA := wA_of (tb2 _ (List.mem_of_getElem? (i := 125) rfl)) rfl
theorem kw_437 : Cond.instanceMethod yX4_become ∈ wA := wA_of (tb2 _ (List.mem_of_getElem? (i := 126) rfl)) rfl
theorem kw_438 : Cond.selects "GatesBent$Rows" yX4_become yX4_become ∈ wA := wA_of (tb2 _ (List.mem_of_getElem? (i := 127) rfl)) rfl
theorem kw_439 : Cond.code yX4_become cX4_become 2 none ∈ wA := wA_of (tb2 _ (List.mem_of_getElem? (i := 128) rfl)) rfl
theorem kw_440 : Cond.methodLink "GatesBent$Rows" 25 ⟨"java/lang/System", "arraycopy", "(Ljava/lang/Object;ILjava/lang/Object;II)V"⟩ ∈ wA := wA_of (tb2 _ (List.mem_of_getElem? (i := 129) rfl)) rfl
theorem kw_441 : Cond.methodLink "GatesBent" 149 yX6_spendDay ∈ wA := wA_of (tb2 _ (List.mem_of_getElem? (i := 130) rfl)) rfl
theorem kw_442 : Cond.instanceMethod yX6_spendDay ∈ wA := wA_of (tb2 _ (List.mem_of_getElem? (i := 131) rfl)) rfl
theorem kw_443 : Cond.selects "GatesBent$Town" yX6_spendDay yX6_spendDay ∈ wA := wA_of (tb2 _ (List.mem_of_getElem? (i := 132) rfl)) rfl
theorem kw_444 : Cond.code yX6_spendDay cX6_spendDay 2 none ∈ wA := wA_of (tb2 _ (List.mem_of_getElem? (i := 133) rfl)) rfl
theorem kw_445 : Cond.methodLink "GatesBent$Town" 109 yX6_letsBy ∈ wA := wA_of (tb2 _ (List.mem_of_getElem? (i := 134) rfl)) rfl
theorem kw_446 : Cond.methodLink "GatesBentLaw" 23 yX7_set ∈ wA := wA_of (tb2 _ (List.mem_of_getElem? (i := 135) rfl)) rfl
theorem kw_447 : Cond.instanceMethod yX7_set ∈ wA := wA_of (tb2 _ (List.mem_of_getElem? (i := 136) rfl)) rfl
theorem kw_448 : Cond.selects "GatesBent" yX7_set yX7_set ∈ wA := wA_of (tb2 _ (List.mem_of_getElem? (i := 137) rfl)) rfl
theorem kw_449 : Cond.code yX7_set cX7_set 6 (some FieldType.int) ∈ wA := wA_of (tb2 _ (List.mem_of_getElem? (i := 138) rfl)) rfl
theorem kw_450 : Cond.methodLink "GatesBentLaw" 28 yX7_like ∈ wA := wA_of (tb2 _ (List.mem_of_getElem? (i := 139) rfl)) rfl
theorem kw_451 : Cond.instanceMethod yX7_like ∈ wA := wA_of (tb2 _ (List.mem_of_getElem? (i := 140) rfl)) rfl
theorem kw_452 : Cond.selects "GatesBent" yX7_like yX7_like ∈ wA := wA_of (tb2 _ (List.mem_of_getElem? (i := 141) rfl)) rfl
theorem kw_453 : Cond.code yX7_like cX7_like 4 (some FieldType.int) ∈ wA := wA_of (tb2 _ (List.mem_of_getElem? (i := 142) rfl)) rfl
theorem kw_454 : Cond.methodLink "GatesBentLaw" 32 yX7_teach ∈ wA := wA_of (tb2 _ (List.mem_of_getElem? (i := 143) rfl)) rfl
theorem kw_455 : Cond.instanceMethod yX7_teach ∈ wA := wA_of (tb2 _ (List.mem_of_getElem? (i := 144) rfl)) rfl
theorem kw_456 : Cond.selects "GatesBent" yX7_teach yX7_teach ∈ wA := wA_of (tb2 _ (List.mem_of_getElem? (i := 145) rfl)) rfl
theorem kw_457 : Cond.code yX7_teach cX7_teach 3 (some FieldType.int) ∈ wA := wA_of (tb2 _ (List.mem_of_getElem? (i := 146) rfl)) rfl
theorem kw_458 : Cond.methodLink "GatesBent" 156 yX1_learn ∈ wA := wA_of (tb2 _ (List.mem_of_getElem? (i := 147) rfl)) rfl
theorem kw_459 : Cond.instanceMethod yX1_learn ∈ wA := wA_of (tb2 _ (List.mem_of_getElem? (i := 148) rfl)) rfl
theorem kw_460 : Cond.selects "GatesBent$Gate" yX1_learn yX1_learn ∈ wA := wA_of (tb2 _ (List.mem_of_getElem? (i := 149) rfl)) rfl
theorem kw_461 : Cond.code yX1_learn cX1_learn 5 (some FieldType.int) ∈ wA := wA_of (tb2 _ (List.mem_of_getElem? (i := 150) rfl)) rfl
theorem kw_462 : Cond.methodLink "GatesBent$Gate" 25 yX1_leastAlike ∈ wA := wA_of (tb2 _ (List.mem_of_getElem? (i := 151) rfl)) rfl
theorem kw_464 : Cond.instanceMethod yX1_leastAlike ∈ wA := wA_of (tb2 _ (List.mem_of_getElem? (i := 153) rfl)) rfl
theorem kw_465 : Cond.code yX1_leastAlike cX1_leastAlike 4 (some FieldType.int) ∈ wA := wA_of (tb2 _ (List.mem_of_getElem? (i := 154) rfl)) rfl
theorem kw_466 : Cond.methodLink "GatesBentLaw" 36 yX7_forget ∈ wA := wA_of (tb2 _ (List.mem_of_getElem? (i := 155) rfl)) rfl
theorem kw_467 : Cond.instanceMethod yX7_forget ∈ wA := wA_of (tb2 _ (List.mem_of_getElem? (i := 156) rfl)) rfl
theorem kw_468 : Cond.selects "GatesBent" yX7_forget yX7_forget ∈ wA := wA_of (tb2 _ (List.mem_of_getElem? (i := 157) rfl)) rfl
theorem kw_469 : Cond.code yX7_forget cX7_forget 3 (some FieldType.int) ∈ wA := wA_of (tb2 _ (List.mem_of_getElem? (i := 158) rfl)) rfl
theorem kw_470 : Cond.methodLink "GatesBentLaw" 41 yX7_row ∈ wA := wA_of (tb2 _ (List.mem_of_getElem? (i := 159) rfl)) rfl
theorem kw_471 : Cond.instanceMethod yX7_row ∈ wA := wA_of (tb2 _ (List.mem_of_getElem? (i := 160) rfl)) rfl
theorem kw_472 : Cond.selects "GatesBent" yX7_row yX7_row ∈ wA := wA_of (tb2 _ (List.mem_of_getElem? (i := 161) rfl)) rfl
theorem kw_473 : Cond.code yX7_row cX7_row 6 (some FieldType.int) ∈ wA := wA_of (tb2 _ (List.mem_of_getElem? (i := 162) rfl)) rfl
theorem kw_474 : Cond.methodLink "GatesBentLaw" 45 yX7_feed ∈ wA := wA_of (tb2 _ (List.mem_of_getElem? (i := 163) rfl)) rfl
theorem kw_475 : Cond.instanceMethod yX7_feed ∈ wA := wA_of (tb2 _ (List.mem_of_getElem? (i := 164) rfl)) rfl
theorem kw_476 : Cond.selects "GatesBent" yX7_feed yX7_feed ∈ wA := wA_of (tb2 _ (List.mem_of_getElem? (i := 165) rfl)) rfl
theorem kw_477 : Cond.code yX7_feed cX7_feed 2 (some FieldType.int) ∈ wA := wA_of (tb2 _ (List.mem_of_getElem? (i := 166) rfl)) rfl
theorem kw_478 : Cond.methodLink "GatesBentLaw" 49 yX7_house ∈ wA := wA_of (tb2 _ (List.mem_of_getElem? (i := 167) rfl)) rfl
theorem kw_479 : Cond.instanceMethod yX7_house ∈ wA := wA_of (tb2 _ (List.mem_of_getElem? (i := 168) rfl)) rfl
theorem kw_480 : Cond.selects "GatesBent" yX7_house yX7_house ∈ wA := wA_of (tb2 _ (List.mem_of_getElem? (i := 169) rfl)) rfl
theorem kw_481 : Cond.code yX7_house cX7_house 3 (some FieldType.int) ∈ wA := wA_of (tb2 _ (List.mem_of_getElem? (i := 170) rfl)) rfl
theorem kw_482 : Cond.methodLink "GatesBent" 172 yX3_readHouse ∈ wA := wA_of (tb2 _ (List.mem_of_getElem? (i := 171) rfl)) rfl
theorem kw_483 : Cond.instanceMethod yX3_readHouse ∈ wA := wA_of (tb2 _ (List.mem_of_getElem? (i := 172) rfl)) rfl
theorem kw_484 : Cond.selects "GatesBent$Reader" yX3_readHouse yX3_readHouse ∈ wA := wA_of (tb2 _ (List.mem_of_getElem? (i := 173) rfl)) rfl
theorem kw_485 : Cond.code yX3_readHouse cX3_readHouse 3 (some FieldType.boolean) ∈ wA := wA_of (tb2 _ (List.mem_of_getElem? (i := 174) rfl)) rfl
theorem kw_486 : Cond.methodLink "GatesBent$Reader" 19 yX2_clear ∈ wA := wA_of (tb2 _ (List.mem_of_getElem? (i := 175) rfl)) rfl
theorem kw_487 : Cond.instanceMethod yX2_clear ∈ wA := wA_of (tb2 _ (List.mem_of_getElem? (i := 176) rfl)) rfl
theorem kw_488 : Cond.selects "GatesBent$House" yX2_clear yX2_clear ∈ wA := wA_of (tb2 _ (List.mem_of_getElem? (i := 177) rfl)) rfl
theorem kw_489 : Cond.code yX2_clear cX2_clear 1 none ∈ wA := wA_of (tb2 _ (List.mem_of_getElem? (i := 178) rfl)) rfl
theorem kw_490 : Cond.methodLink "GatesBent$Reader" 28 yX3_readClause ∈ wA := wA_of (tb2 _ (List.mem_of_getElem? (i := 179) rfl)) rfl
theorem kw_492 : Cond.instanceMethod yX3_readClause ∈ wA := wA_of (tb2 _ (List.mem_of_getElem? (i := 181) rfl)) rfl
theorem kw_493 : Cond.code yX3_readClause cX3_readClause 3 (some FieldType.boolean) ∈ wA := wA_of (tb2 _ (List.mem_of_getElem? (i := 182) rfl)) rfl
theorem kw_494 : Cond.methodLink "GatesBent$Reader" 39 yX3_readWord ∈ wA := wA_of (tb2 _ (List.mem_of_getElem? (i := 183) rfl)) rfl
theorem kw_496 : Cond.instanceMethod yX3_readWord ∈ wA := wA_of (tb2 _ (List.mem_of_getElem? (i := 185) rfl)) rfl
theorem kw_497 : Cond.code yX3_readWord cX3_readWord 5 (some FieldType.int) ∈ wA := wA_of (tb2 _ (List.mem_of_getElem? (i := 186) rfl)) rfl
theorem kw_498 : Cond.methodLink "GatesBent$Reader" 59 yX3_wordOf ∈ wA := wA_of (tb2 _ (List.mem_of_getElem? (i := 187) rfl)) rfl
theorem kw_499 : Cond.static yX3_wordOf ∈ wA := wA_of (tb2 _ (List.mem_of_getElem? (i := 188) rfl)) rfl
theorem kw_500 : Cond.code yX3_wordOf cX3_wordOf 1 (some (FieldType.object "java/lang/String")) ∈ wA := wA_of (tb2 _ (List.mem_of_getElem? (i := 189) rfl)) rfl
theorem kw_505 : Cond.methodLink "GatesBent$Reader" 63 yX3_sameSigns ∈ wA := wA_of (tb2 _ (List.mem_of_getElem? (i := 194) rfl)) rfl
theorem kw_507 : Cond.instanceMethod yX3_sameSigns ∈ wA := wA_of (tb2 _ (List.mem_of_getElem? (i := 196) rfl)) rfl
theorem kw_508 : Cond.code yX3_sameSigns cX3_sameSigns 3 (some FieldType.int) ∈ wA := wA_of (tb2 _ (List.mem_of_getElem? (i := 197) rfl)) rfl
theorem kw_509 : Cond.methodLink "GatesBent$Reader" 67 yJ0_length_8abf5 ∈ wA := wA_of (tb2 _ (List.mem_of_getElem? (i := 198) rfl)) rfl
theorem kw_510 : Cond.instanceMethod yJ0_length_8abf5 ∈ wA := wA_of (tb2 _ (List.mem_of_getElem? (i := 199) rfl)) rfl
theorem kw_511 : Cond.selects "java/lang/String" yJ0_length_8abf5 yJ0_length_8abf5 ∈ wA := wA_of (tb2 _ (List.mem_of_getElem? (i := 200) rfl)) rfl
theorem kw_512 : Cond.code yJ0_length_8abf5 cJ0_length_8abf5 1 (some FieldType.int) ∈ wA := wA_of (tb2 _ (List.mem_of_getElem? (i := 201) rfl)) rfl
theorem kw_513 : Cond.methodLink "java/lang/String" 335 yJ0_coder_7d493 ∈ wA := wA_of (tb2 _ (List.mem_of_getElem? (i := 202) rfl)) rfl
theorem kw_514 : Cond.instanceMethod yJ0_coder_7d493 ∈ wA := wA_of (tb2 _ (List.mem_of_getElem? (i := 203) rfl)) rfl
theorem kw_515 : Cond.selects "java/lang/String" yJ0_coder_7d493 yJ0_coder_7d493 ∈ wA := wA_of (tb2 _ (List.mem_of_getElem? (i := 204) rfl)) rfl
theorem kw_516 : Cond.code yJ0_coder_7d493 cJ0_coder_7d493 1 (some FieldType.byte) ∈ wA := wA_of (tb2 _ (List.mem_of_getElem? (i := 205) rfl)) rfl
theorem kw_517 : Cond.fieldLink "java/lang/String" 38 "java/lang/String" "COMPACT_STRINGS" "Z" ∈ wA := wA_of (tb2 _ (List.mem_of_getElem? (i := 206) rfl)) rfl
theorem kw_519 : Cond.methodLink "GatesBent$Reader" 83 yJ0_charAt_5068e ∈ wA := wA_of (tb2 _ (List.mem_of_getElem? (i := 208) rfl)) rfl
theorem kw_520 : Cond.instanceMethod yJ0_charAt_5068e ∈ wA := wA_of (tb2 _ (List.mem_of_getElem? (i := 209) rfl)) rfl
theorem kw_521 : Cond.selects "java/lang/String" yJ0_charAt_5068e yJ0_charAt_5068e ∈ wA := wA_of (tb2 _ (List.mem_of_getElem? (i := 210) rfl)) rfl
theorem kw_522 : Cond.code yJ0_charAt_5068e cJ0_charAt_5068e 2 (some FieldType.char) ∈ wA := wA_of (tb2 _ (List.mem_of_getElem? (i := 211) rfl)) rfl
theorem kw_523 : Cond.methodLink "java/lang/String" 492 yJ0_isLatin1_aae02 ∈ wA := wA_of (tb2 _ (List.mem_of_getElem? (i := 212) rfl)) rfl
theorem kw_524 : Cond.instanceMethod yJ0_isLatin1_aae02 ∈ wA := wA_of (tb2 _ (List.mem_of_getElem? (i := 213) rfl)) rfl
theorem kw_525 : Cond.selects "java/lang/String" yJ0_isLatin1_aae02 yJ0_isLatin1_aae02 ∈ wA := wA_of (tb2 _ (List.mem_of_getElem? (i := 214) rfl)) rfl
theorem kw_526 : Cond.code yJ0_isLatin1_aae02 cJ0_isLatin1_aae02 1 (some FieldType.boolean) ∈ wA := wA_of (tb2 _ (List.mem_of_getElem? (i := 215) rfl)) rfl
theorem kw_527 : Cond.methodLink "java/lang/String" 495 yJ1_charAt_3b067 ∈ wA := wA_of (tb2 _ (List.mem_of_getElem? (i := 216) rfl)) rfl
theorem kw_528 : Cond.static yJ1_charAt_3b067 ∈ wA := wA_of (tb2 _ (List.mem_of_getElem? (i := 217) rfl)) rfl
theorem kw_529 : Cond.code yJ1_charAt_3b067 cJ1_charAt_3b067 2 (some FieldType.char) ∈ wA := wA_of (tb2 _ (List.mem_of_getElem? (i := 218) rfl)) rfl
theorem kw_530 : Cond.methodLink "java/lang/StringLatin1" 9 yJ0_checkIndex_df160 ∈ wA := wA_of (tb2 _ (List.mem_of_getElem? (i := 219) rfl)) rfl
theorem kw_531 : Cond.static yJ0_checkIndex_df160 ∈ wA := wA_of (tb2 _ (List.mem_of_getElem? (i := 220) rfl)) rfl
theorem kw_532 : Cond.code yJ0_checkIndex_df160 cJ0_checkIndex_df160 2 none ∈ wA := wA_of (tb2 _ (List.mem_of_getElem? (i := 221) rfl)) rfl
theorem kw_533 : Cond.fieldLink "java/lang/String" 1053 "jdk/internal/util/Preconditions" "SIOOBE_FORMATTER" "Ljava/util/function/BiFunction;" ∈ wA := wA_of (tb2 _ (List.mem_of_getElem? (i := 222) rfl)) rfl
theorem kw_535 : Cond.methodLink "java/lang/String" 1059 yJ3_checkIndex_8e157 ∈ wA := wA_of (tb2 _ (List.mem_of_getElem? (i := 224) rfl)) rfl
theorem kw_536 : Cond.static yJ3_checkIndex_8e157 ∈ wA := wA_of (tb2 _ (List.mem_of_getElem? (i := 225) rfl)) rfl
theorem kw_537 : Cond.code yJ3_checkIndex_8e157 cJ3_checkIndex_8e157 3 (some FieldType.int) ∈ wA := wA_of (tb2 _ (List.mem_of_getElem? (i := 226) rfl)) rfl
theorem kw_538 : Cond.methodLink "java/lang/String" 498 yJ2_charAt_3b067 ∈ wA := wA_of (tb2 _ (List.mem_of_getElem? (i := 227) rfl)) rfl
theorem kw_539 : Cond.static yJ2_charAt_3b067 ∈ wA := wA_of (tb2 _ (List.mem_of_getElem? (i := 228) rfl)) rfl
theorem kw_540 : Cond.code yJ2_charAt_3b067 cJ2_charAt_3b067 2 (some FieldType.char) ∈ wA := wA_of (tb2 _ (List.mem_of_getElem? (i := 229) rfl)) rfl
theorem kw_541 : Cond.methodLink "java/lang/StringUTF16" 67 yJ2_checkIndex_2214a ∈ wA := wA_of (tb2 _ (List.mem_of_getElem? (i := 230) rfl)) rfl
theorem kw_542 : Cond.static yJ2_checkIndex_2214a ∈ wA := wA_of (tb2 _ (List.mem_of_getElem? (i := 231) rfl)) rfl
theorem kw_543 : Cond.code yJ2_checkIndex_2214a cJ2_checkIndex_2214a 2 none ∈ wA := wA_of (tb2 _ (List.mem_of_getElem? (i := 232) rfl)) rfl
theorem kw_544 : Cond.methodLink "java/lang/StringUTF16" 48 yJ2_length_9d52b ∈ wA := wA_of (tb2 _ (List.mem_of_getElem? (i := 233) rfl)) rfl
theorem kw_545 : Cond.static yJ2_length_9d52b ∈ wA := wA_of (tb2 _ (List.mem_of_getElem? (i := 234) rfl)) rfl
theorem kw_546 : Cond.code yJ2_length_9d52b cJ2_length_9d52b 1 (some FieldType.int) ∈ wA := wA_of (tb2 _ (List.mem_of_getElem? (i := 235) rfl)) rfl
theorem kw_547 : Cond.methodLink "java/lang/StringUTF16" 414 yJ0_checkIndex_df160 ∈ wA := wA_of (tb2 _ (List.mem_of_getElem? (i := 236) rfl)) rfl
theorem kw_548 : Cond.methodLink "java/lang/StringUTF16" 71 yJ2_getChar_3b067 ∈ wA := wA_of (tb2 _ (List.mem_of_getElem? (i := 237) rfl)) rfl
theorem kw_549 : Cond.static yJ2_getChar_3b067 ∈ wA := wA_of (tb2 _ (List.mem_of_getElem? (i := 238) rfl)) rfl
theorem kw_550 : Cond.code yJ2_getChar_3b067 cJ2_getChar_3b067 2 (some FieldType.char) ∈ wA := wA_of (tb2 _ (List.mem_of_getElem? (i := 239) rfl)) rfl
theorem kw_551 : Cond.fieldLink "java/lang/StringUTF16" 44 "java/lang/StringUTF16" "$assertionsDisabled" "Z" ∈ wA := wA_of (tb3 _ (List.mem_of_getElem? (i := 0) rfl)) rfl
theorem kw_553 : Cond.fieldLink "java/lang/StringUTF16" 59 "java/lang/StringUTF16" "HI_BYTE_SHIFT" "I" ∈ wA := wA_of (tb3 _ (List.mem_of_getElem? (i := 2) rfl)) rfl
theorem kw_555 : Cond.fieldLink "java/lang/StringUTF16" 63 "java/lang/StringUTF16" "LO_BYTE_SHIFT" "I" ∈ wA := wA_of (tb3 _ (List.mem_of_getElem? (i := 4) rfl)) rfl
theorem kw_557 : Cond.methodLink "GatesBent$Reader" 71 yJ9_max_7cf53 ∈ wA := wA_of (tb3 _ (List.mem_of_getElem? (i := 6) rfl)) rfl
theorem kw_558 : Cond.static yJ9_max_7cf53 ∈ wA := wA_of (tb3 _ (List.mem_of_getElem? (i := 7) rfl)) rfl
theorem kw_559 : Cond.code yJ9_max_7cf53 cJ9_max_7cf53 2 (some FieldType.int) ∈ wA := wA_of (tb3 _ (List.mem_of_getElem? (i := 8) rfl)) rfl
theorem kw_560 : Cond.methodLink "GatesBent$Reader" 35 yX3_readSign ∈ wA := wA_of (tb3 _ (List.mem_of_getElem? (i := 9) rfl)) rfl
theorem kw_562 : Cond.instanceMethod yX3_readSign ∈ wA := wA_of (tb3 _ (List.mem_of_getElem? (i := 11) rfl)) rfl
theorem kw_563 : Cond.code yX3_readSign cX3_readSign 2 (some FieldType.boolean) ∈ wA := wA_of (tb3 _ (List.mem_of_getElem? (i := 12) rfl)) rfl
theorem kw_564 : Cond.methodLink "GatesBent$Reader" 90 yX3_signAt ∈ wA := wA_of (tb3 _ (List.mem_of_getElem? (i := 13) rfl)) rfl
theorem kw_566 : Cond.instanceMethod yX3_signAt ∈ wA := wA_of (tb3 _ (List.mem_of_getElem? (i := 15) rfl)) rfl
theorem kw_567 : Cond.code yX3_signAt cX3_signAt 1 (some FieldType.int) ∈ wA := wA_of (tb3 _ (List.mem_of_getElem? (i := 16) rfl)) rfl
theorem kw_568 : Cond.methodLink "GatesBent$Reader" 43 yX3_readNumber ∈ wA := wA_of (tb3 _ (List.mem_of_getElem? (i := 17) rfl)) rfl
theorem kw_570 : Cond.instanceMethod yX3_readNumber ∈ wA := wA_of (tb3 _ (List.mem_of_getElem? (i := 19) rfl)) rfl
theorem kw_571 : Cond.code yX3_readNumber cX3_readNumber 4 (some FieldType.int) ∈ wA := wA_of (tb3 _ (List.mem_of_getElem? (i := 20) rfl)) rfl
theorem kw_572 : Cond.methodLink "GatesBent$Reader" 52 yX3_readEither ∈ wA := wA_of (tb3 _ (List.mem_of_getElem? (i := 21) rfl)) rfl
theorem kw_574 : Cond.instanceMethod yX3_readEither ∈ wA := wA_of (tb3 _ (List.mem_of_getElem? (i := 23) rfl)) rfl
theorem kw_575 : Cond.code yX3_readEither cX3_readEither 4 (some FieldType.boolean) ∈ wA := wA_of (tb3 _ (List.mem_of_getElem? (i := 24) rfl)) rfl
theorem kw_576 : Cond.methodLink "GatesBent$Reader" 87 yX3_readFactor ∈ wA := wA_of (tb3 _ (List.mem_of_getElem? (i := 25) rfl)) rfl
theorem kw_578 : Cond.instanceMethod yX3_readFactor ∈ wA := wA_of (tb3 _ (List.mem_of_getElem? (i := 27) rfl)) rfl
theorem kw_579 : Cond.code yX3_readFactor cX3_readFactor 3 (some FieldType.boolean) ∈ wA := wA_of (tb3 _ (List.mem_of_getElem? (i := 28) rfl)) rfl
theorem kw_580 : Cond.methodLink "GatesBent$Reader" 93 yX3_readTest ∈ wA := wA_of (tb3 _ (List.mem_of_getElem? (i := 29) rfl)) rfl
theorem kw_582 : Cond.instanceMethod yX3_readTest ∈ wA := wA_of (tb3 _ (List.mem_of_getElem? (i := 31) rfl)) rfl
theorem kw_583 : Cond.code yX3_readTest cX3_readTest 4 (some FieldType.boolean) ∈ wA := wA_of (tb3 _ (List.mem_of_getElem? (i := 32) rfl)) rfl
theorem kw_585 : Cond.methodLink "GatesBent$Reader" 98 yX3_readOneOf ∈ wA := wA_of (tb3 _ (List.mem_of_getElem? (i := 34) rfl)) rfl
theorem kw_587 : Cond.instanceMethod yX3_readOneOf ∈ wA := wA_of (tb3 _ (List.mem_of_getElem? (i := 36) rfl)) rfl
theorem kw_588 : Cond.code yX3_readOneOf cX3_readOneOf 4 (some FieldType.int) ∈ wA := wA_of (tb3 _ (List.mem_of_getElem? (i := 37) rfl)) rfl
theorem kw_590 : Cond.methodLink "GatesBent$Reader" 55 yX2_put ∈ wA := wA_of (tb3 _ (List.mem_of_getElem? (i := 39) rfl)) rfl
theorem kw_591 : Cond.instanceMethod yX2_put ∈ wA := wA_of (tb3 _ (List.mem_of_getElem? (i := 40) rfl)) rfl
theorem kw_592 : Cond.selects "GatesBent$House" yX2_put yX2_put ∈ wA := wA_of (tb3 _ (List.mem_of_getElem? (i := 41) rfl)) rfl
theorem kw_593 : Cond.code yX2_put cX2_put 3 none ∈ wA := wA_of (tb3 _ (List.mem_of_getElem? (i := 42) rfl)) rfl
theorem kw_594 : Cond.methodLink "GatesBentLaw" 54 yX7_told ∈ wA := wA_of (tb3 _ (List.mem_of_getElem? (i := 43) rfl)) rfl
theorem kw_595 : Cond.instanceMethod yX7_told ∈ wA := wA_of (tb3 _ (List.mem_of_getElem? (i := 44) rfl)) rfl
theorem kw_596 : Cond.selects "GatesBent" yX7_told yX7_told ∈ wA := wA_of (tb3 _ (List.mem_of_getElem? (i := 45) rfl)) rfl
theorem kw_597 : Cond.code yX7_told cX7_told 4 (some FieldType.int) ∈ wA := wA_of (tb3 _ (List.mem_of_getElem? (i := 46) rfl)) rfl
theorem kw_598 : Cond.methodLink "GatesBent" 183 yX7_master ∈ wA := wA_of (tb3 _ (List.mem_of_getElem? (i := 47) rfl)) rfl
theorem kw_600 : Cond.instanceMethod yX7_master ∈ wA := wA_of (tb3 _ (List.mem_of_getElem? (i := 49) rfl)) rfl
theorem kw_601 : Cond.code yX7_master cX7_master 6 (some FieldType.int) ∈ wA := wA_of (tb3 _ (List.mem_of_getElem? (i := 50) rfl)) rfl
theorem kw_602 : Cond.methodLink "GatesBent" 205 yX7_askNeededByComer ∈ wA := wA_of (tb3 _ (List.mem_of_getElem? (i := 51) rfl)) rfl
theorem kw_604 : Cond.instanceMethod yX7_askNeededByComer ∈ wA := wA_of (tb3 _ (List.mem_of_getElem? (i := 53) rfl)) rfl
theorem kw_605 : Cond.code yX7_askNeededByComer cX7_askNeededByComer 3 none ∈ wA := wA_of (tb3 _ (List.mem_of_getElem? (i := 54) rfl)) rfl
theorem kw_606 : Cond.methodLink "GatesBent" 202 yX6_marksNeeded ∈ wA := wA_of (tb3 _ (List.mem_of_getElem? (i := 55) rfl)) rfl
theorem kw_607 : Cond.methodLink "GatesBent" 186 yX7_letByWalkAlone ∈ wA := wA_of (tb3 _ (List.mem_of_getElem? (i := 56) rfl)) rfl
theorem kw_609 : Cond.instanceMethod yX7_letByWalkAlone ∈ wA := wA_of (tb3 _ (List.mem_of_getElem? (i := 58) rfl)) rfl
theorem kw_610 : Cond.code yX7_letByWalkAlone cX7_letByWalkAlone 4 (some FieldType.int) ∈ wA := wA_of (tb3 _ (List.mem_of_getElem? (i := 59) rfl)) rfl
theorem kw_611 : Cond.methodLink "GatesBent" 208 yX7_alike ∈ wA := wA_of (tb3 _ (List.mem_of_getElem? (i := 60) rfl)) rfl
theorem kw_612 : Cond.methodLink "GatesBent" 195 yX6_whoIsLet ∈ wA := wA_of (tb3 _ (List.mem_of_getElem? (i := 61) rfl)) rfl
theorem kw_613 : Cond.instanceMethod yX6_whoIsLet ∈ wA := wA_of (tb3 _ (List.mem_of_getElem? (i := 62) rfl)) rfl
theorem kw_614 : Cond.selects "GatesBent$Town" yX6_whoIsLet yX6_whoIsLet ∈ wA := wA_of (tb3 _ (List.mem_of_getElem? (i := 63) rfl)) rfl
theorem kw_615 : Cond.code yX6_whoIsLet cX6_whoIsLet 3 (some FieldType.int) ∈ wA := wA_of (tb3 _ (List.mem_of_getElem? (i := 64) rfl)) rfl
theorem kw_616 : Cond.methodLink "GatesBent" 199 yX6_passedTogether ∈ wA := wA_of (tb3 _ (List.mem_of_getElem? (i := 65) rfl)) rfl
theorem kw_617 : Cond.instanceMethod yX6_passedTogether ∈ wA := wA_of (tb3 _ (List.mem_of_getElem? (i := 66) rfl)) rfl
theorem kw_618 : Cond.selects "GatesBent$Town" yX6_passedTogether yX6_passedTogether ∈ wA := wA_of (tb3 _ (List.mem_of_getElem? (i := 67) rfl)) rfl
theorem kw_619 : Cond.code yX6_passedTogether cX6_passedTogether 3 (some FieldType.int) ∈ wA := wA_of (tb3 _ (List.mem_of_getElem? (i := 68) rfl)) rfl
theorem kw_620 : Cond.methodLink "GatesBentLaw" 58 yX7_pass ∈ wA := wA_of (tb3 _ (List.mem_of_getElem? (i := 69) rfl)) rfl
theorem kw_621 : Cond.instanceMethod yX7_pass ∈ wA := wA_of (tb3 _ (List.mem_of_getElem? (i := 70) rfl)) rfl
theorem kw_622 : Cond.selects "GatesBent" yX7_pass yX7_pass ∈ wA := wA_of (tb3 _ (List.mem_of_getElem? (i := 71) rfl)) rfl
theorem kw_623 : Cond.code yX7_pass cX7_pass 2 (some FieldType.int) ∈ wA := wA_of (tb3 _ (List.mem_of_getElem? (i := 72) rfl)) rfl
theorem kw_624 : Cond.methodLink "GatesBent" 91 yX6_goDays ∈ wA := wA_of (tb3 _ (List.mem_of_getElem? (i := 73) rfl)) rfl
theorem kw_625 : Cond.instanceMethod yX6_goDays ∈ wA := wA_of (tb3 _ (List.mem_of_getElem? (i := 74) rfl)) rfl
theorem kw_626 : Cond.selects "GatesBent$Town" yX6_goDays yX6_goDays ∈ wA := wA_of (tb3 _ (List.mem_of_getElem? (i := 75) rfl)) rfl
theorem kw_627 : Cond.code yX6_goDays cX6_goDays 4 none ∈ wA := wA_of (tb3 _ (List.mem_of_getElem? (i := 76) rfl)) rfl
theorem kw_628 : Cond.methodLink "GatesBent$Town" 116 yX6_spendDay ∈ wA := wA_of (tb3 _ (List.mem_of_getElem? (i := 77) rfl)) rfl
theorem kw_629 : Cond.methodLink "GatesBentLaw" 62 yX7_on ∈ wA := wA_of (tb3 _ (List.mem_of_getElem? (i := 78) rfl)) rfl
theorem kw_630 : Cond.instanceMethod yX7_on ∈ wA := wA_of (tb3 _ (List.mem_of_getElem? (i := 79) rfl)) rfl
theorem kw_631 : Cond.selects "GatesBent" yX7_on yX7_on ∈ wA := wA_of (tb3 _ (List.mem_of_getElem? (i := 80) rfl)) rfl
theorem kw_632 : Cond.code yX7_on cX7_on 4 (some FieldType.int) ∈ wA := wA_of (tb3 _ (List.mem_of_getElem? (i := 81) rfl)) rfl
theorem kw_633 : Cond.methodLink "GatesBent" 212 yX7_aheadBy ∈ wA := wA_of (tb3 _ (List.mem_of_getElem? (i := 82) rfl)) rfl
theorem kw_635 : Cond.instanceMethod yX7_aheadBy ∈ wA := wA_of (tb3 _ (List.mem_of_getElem? (i := 84) rfl)) rfl
theorem kw_636 : Cond.code yX7_aheadBy cX7_aheadBy 2 (some (FieldType.object "GatesBent$Town")) ∈ wA := wA_of (tb3 _ (List.mem_of_getElem? (i := 85) rfl)) rfl
theorem kw_637 : Cond.methodLink "GatesBentLaw" 66 yX7_lessons ∈ wA := wA_of (tb3 _ (List.mem_of_getElem? (i := 86) rfl)) rfl
theorem kw_638 : Cond.instanceMethod yX7_lessons ∈ wA := wA_of (tb3 _ (List.mem_of_getElem? (i := 87) rfl)) rfl
theorem kw_639 : Cond.selects "GatesBent" yX7_lessons yX7_lessons ∈ wA := wA_of (tb3 _ (List.mem_of_getElem? (i := 88) rfl)) rfl
theorem kw_640 : Cond.code yX7_lessons cX7_lessons 5 (some FieldType.int) ∈ wA := wA_of (tb3 _ (List.mem_of_getElem? (i := 89) rfl)) rfl
theorem kw_641 : Cond.methodLink "GatesBent" 216 yX7_bestLessons ∈ wA := wA_of (tb3 _ (List.mem_of_getElem? (i := 90) rfl)) rfl
theorem kw_643 : Cond.instanceMethod yX7_bestLessons ∈ wA := wA_of (tb3 _ (List.mem_of_getElem? (i := 92) rfl)) rfl
theorem kw_644 : Cond.code yX7_bestLessons cX7_bestLessons 8 (some FieldType.int) ∈ wA := wA_of (tb3 _ (List.mem_of_getElem? (i := 93) rfl)) rfl
theorem kw_645 : Cond.methodLink "GatesBent" 219 yX7_letByLessons ∈ wA := wA_of (tb3 _ (List.mem_of_getElem? (i := 94) rfl)) rfl
theorem kw_647 : Cond.instanceMethod yX7_letByLessons ∈ wA := wA_of (tb3 _ (List.mem_of_getElem? (i := 96) rfl)) rfl
theorem kw_648 : Cond.code yX7_letByLessons cX7_letByLessons 6 (some FieldType.int) ∈ wA := wA_of (tb3 _ (List.mem_of_getElem? (i := 97) rfl)) rfl
theorem kw_649 : Cond.methodLink "GatesBent" 226 yX1_become ∈ wA := wA_of (tb3 _ (List.mem_of_getElem? (i := 98) rfl)) rfl
theorem kw_650 : Cond.methodLink "GatesBent" 223 yX7_pupil ∈ wA := wA_of (tb3 _ (List.mem_of_getElem? (i := 99) rfl)) rfl
theorem kw_652 : Cond.instanceMethod yX7_pupil ∈ wA := wA_of (tb3 _ (List.mem_of_getElem? (i := 101) rfl)) rfl
theorem kw_653 : Cond.code yX7_pupil cX7_pupil 6 (some FieldType.int) ∈ wA := wA_of (tb3 _ (List.mem_of_getElem? (i := 102) rfl)) rfl
theorem kw_654 : Cond.methodLink "GatesBent" 229 yX1_knowsAlike ∈ wA := wA_of (tb3 _ (List.mem_of_getElem? (i := 103) rfl)) rfl
theorem kw_655 : Cond.methodLink "GatesBentLaw" 70 yX7_feign ∈ wA := wA_of (tb3 _ (List.mem_of_getElem? (i := 104) rfl)) rfl
theorem kw_656 : Cond.instanceMethod yX7_feign ∈ wA := wA_of (tb3 _ (List.mem_of_getElem? (i := 105) rfl)) rfl
theorem kw_657 : Cond.selects "GatesBent" yX7_feign yX7_feign ∈ wA := wA_of (tb3 _ (List.mem_of_getElem? (i := 106) rfl)) rfl
theorem kw_658 : Cond.code yX7_feign cX7_feign 10 (some FieldType.int) ∈ wA := wA_of (tb3 _ (List.mem_of_getElem? (i := 107) rfl)) rfl
theorem kw_659 : Cond.methodLink "GatesBentLaw" 74 yX7_see ∈ wA := wA_of (tb3 _ (List.mem_of_getElem? (i := 108) rfl)) rfl
theorem kw_660 : Cond.instanceMethod yX7_see ∈ wA := wA_of (tb3 _ (List.mem_of_getElem? (i := 109) rfl)) rfl
theorem kw_661 : Cond.selects "GatesBent" yX7_see yX7_see ∈ wA := wA_of (tb3 _ (List.mem_of_getElem? (i := 110) rfl)) rfl
theorem kw_662 : Cond.code yX7_see cX7_see 4 (some FieldType.int) ∈ wA := wA_of (tb3 _ (List.mem_of_getElem? (i := 111) rfl)) rfl
theorem kw_663 : Cond.methodLink "GatesBent" 236 yX4_clear ∈ wA := wA_of (tb3 _ (List.mem_of_getElem? (i := 112) rfl)) rfl
theorem kw_664 : Cond.instanceMethod yX4_clear ∈ wA := wA_of (tb3 _ (List.mem_of_getElem? (i := 113) rfl)) rfl
theorem kw_665 : Cond.selects "GatesBent$Rows" yX4_clear yX4_clear ∈ wA := wA_of (tb3 _ (List.mem_of_getElem? (i := 114) rfl)) rfl
theorem kw_666 : Cond.code yX4_clear cX4_clear 1 (some FieldType.int) ∈ wA := wA_of (tb3 _ (List.mem_of_getElem? (i := 115) rfl)) rfl
theorem kw_667 : Cond.methodLink "GatesBent" 241 yX4_add ∈ wA := wA_of (tb3 _ (List.mem_of_getElem? (i := 116) rfl)) rfl
theorem kw_668 : Cond.instanceMethod yX4_add ∈ wA := wA_of (tb3 _ (List.mem_of_getElem? (i := 117) rfl)) rfl
theorem kw_669 : Cond.selects "GatesBent$Rows" yX4_add yX4_add ∈ wA := wA_of (tb3 _ (List.mem_of_getElem? (i := 118) rfl)) rfl
theorem kw_670 : Cond.code yX4_add cX4_add 4 (some FieldType.int) ∈ wA := wA_of (tb3 _ (List.mem_of_getElem? (i := 119) rfl)) rfl
theorem kw_671 : Cond.methodLink "GatesBentLaw" 79 yX7_wrong ∈ wA := wA_of (tb3 _ (List.mem_of_getElem? (i := 120) rfl)) rfl
theorem kw_672 : Cond.instanceMethod yX7_wrong ∈ wA := wA_of (tb3 _ (List.mem_of_getElem? (i := 121) rfl)) rfl
theorem kw_673 : Cond.selects "GatesBent" yX7_wrong yX7_wrong ∈ wA := wA_of (tb3 _ (List.mem_of_getElem? (i := 122) rfl)) rfl
theorem kw_674 : Cond.code yX7_wrong cX7_wrong 4 (some FieldType.int) ∈ wA := wA_of (tb3 _ (List.mem_of_getElem? (i := 123) rfl)) rfl
theorem kw_675 : Cond.methodLink "GatesBentLaw" 83 yX7_can ∈ wA := wA_of (tb3 _ (List.mem_of_getElem? (i := 124) rfl)) rfl
theorem kw_676 : Cond.instanceMethod yX7_can ∈ wA := wA_of (tb3 _ (List.mem_of_getElem? (i := 125) rfl)) rfl
theorem kw_677 : Cond.selects "GatesBent" yX7_can yX7_can ∈ wA := wA_of (tb3 _ (List.mem_of_getElem? (i := 126) rfl)) rfl
theorem kw_678 : Cond.code yX7_can cX7_can 4 (some FieldType.int) ∈ wA := wA_of (tb3 _ (List.mem_of_getElem? (i := 127) rfl)) rfl
theorem kw_679 : Cond.methodLink "GatesBent" 254 yX7_walksBySeen ∈ wA := wA_of (tb3 _ (List.mem_of_getElem? (i := 128) rfl)) rfl
theorem kw_681 : Cond.instanceMethod yX7_walksBySeen ∈ wA := wA_of (tb3 _ (List.mem_of_getElem? (i := 130) rfl)) rfl
theorem kw_682 : Cond.code yX7_walksBySeen cX7_walksBySeen 6 (some FieldType.int) ∈ wA := wA_of (tb3 _ (List.mem_of_getElem? (i := 131) rfl)) rfl
theorem kw_683 : Cond.methodLink "GatesBent" 260 yX0_become ∈ wA := wA_of (tb3 _ (List.mem_of_getElem? (i := 132) rfl)) rfl
theorem kw_684 : Cond.methodLink "GatesBent" 262 yX7_askNeededByGate ∈ wA := wA_of (tb3 _ (List.mem_of_getElem? (i := 133) rfl)) rfl
theorem kw_686 : Cond.instanceMethod yX7_askNeededByGate ∈ wA := wA_of (tb3 _ (List.mem_of_getElem? (i := 135) rfl)) rfl
theorem kw_687 : Cond.code yX7_askNeededByGate cX7_askNeededByGate 2 none ∈ wA := wA_of (tb3 _ (List.mem_of_getElem? (i := 136) rfl)) rfl
theorem kw_688 : Cond.methodLink "GatesBent" 265 yX7_isAllSeenSo ∈ wA := wA_of (tb3 _ (List.mem_of_getElem? (i := 137) rfl)) rfl
theorem kw_690 : Cond.instanceMethod yX7_isAllSeenSo ∈ wA := wA_of (tb3 _ (List.mem_of_getElem? (i := 139) rfl)) rfl
theorem kw_691 : Cond.code yX7_isAllSeenSo cX7_isAllSeenSo 5 (some FieldType.boolean) ∈ wA := wA_of (tb3 _ (List.mem_of_getElem? (i := 140) rfl)) rfl
theorem kw_692 : Cond.methodLink "GatesBent" 257 yX7_numbersBySeen ∈ wA := wA_of (tb3 _ (List.mem_of_getElem? (i := 141) rfl)) rfl
theorem kw_694 : Cond.instanceMethod yX7_numbersBySeen ∈ wA := wA_of (tb3 _ (List.mem_of_getElem? (i := 143) rfl)) rfl
theorem kw_695 : Cond.code yX7_numbersBySeen cX7_numbersBySeen 6 (some FieldType.int) ∈ wA := wA_of (tb3 _ (List.mem_of_getElem? (i := 144) rfl)) rfl
theorem kw_696 : Cond.methodLink "GatesBentLaw" 87 yX7_odds ∈ wA := wA_of (tb3 _ (List.mem_of_getElem? (i := 145) rfl)) rfl
theorem kw_697 : Cond.instanceMethod yX7_odds ∈ wA := wA_of (tb3 _ (List.mem_of_getElem? (i := 146) rfl)) rfl
theorem kw_698 : Cond.selects "GatesBent" yX7_odds yX7_odds ∈ wA := wA_of (tb3 _ (List.mem_of_getElem? (i := 147) rfl)) rfl
theorem kw_699 : Cond.code yX7_odds cX7_odds 8 (some FieldType.long) ∈ wA := wA_of (tb3 _ (List.mem_of_getElem? (i := 148) rfl)) rfl
theorem kw_700 : Cond.constantLong "GatesBent" 272 (-9223372036854775808 : Int64) ∈ wA := wA_of (tb3 _ (List.mem_of_getElem? (i := 149) rfl)) rfl
theorem kw_701 : Cond.methodLink "GatesBent" 274 yX7_lowest ∈ wA := wA_of (tb3 _ (List.mem_of_getElem? (i := 150) rfl)) rfl
theorem kw_702 : Cond.static yX7_lowest ∈ wA := wA_of (tb3 _ (List.mem_of_getElem? (i := 151) rfl)) rfl
theorem kw_703 : Cond.code yX7_lowest cX7_lowest 5 (some FieldType.long) ∈ wA := wA_of (tb3 _ (List.mem_of_getElem? (i := 152) rfl)) rfl
theorem kw_704 : Cond.methodLink "GatesBentLaw" 92 yX7_mean ∈ wA := wA_of (tb3 _ (List.mem_of_getElem? (i := 153) rfl)) rfl
theorem kw_705 : Cond.instanceMethod yX7_mean ∈ wA := wA_of (tb3 _ (List.mem_of_getElem? (i := 154) rfl)) rfl
theorem kw_706 : Cond.selects "GatesBent" yX7_mean yX7_mean ∈ wA := wA_of (tb3 _ (List.mem_of_getElem? (i := 155) rfl)) rfl
theorem kw_707 : Cond.code yX7_mean cX7_mean 3 (some FieldType.long) ∈ wA := wA_of (tb3 _ (List.mem_of_getElem? (i := 156) rfl)) rfl
theorem kw_708 : Cond.methodLink "GatesBentLaw" 97 yX7_plan ∈ wA := wA_of (tb3 _ (List.mem_of_getElem? (i := 157) rfl)) rfl
theorem kw_709 : Cond.instanceMethod yX7_plan ∈ wA := wA_of (tb3 _ (List.mem_of_getElem? (i := 158) rfl)) rfl
theorem kw_710 : Cond.selects "GatesBent" yX7_plan yX7_plan ∈ wA := wA_of (tb3 _ (List.mem_of_getElem? (i := 159) rfl)) rfl
theorem kw_711 : Cond.code yX7_plan cX7_plan 3 (some FieldType.int) ∈ wA := wA_of (tb3 _ (List.mem_of_getElem? (i := 160) rfl)) rfl
theorem kw_712 : Cond.methodLink "GatesBent" 281 yX7_isInPlan ∈ wA := wA_of (tb3 _ (List.mem_of_getElem? (i := 161) rfl)) rfl
theorem kw_714 : Cond.instanceMethod yX7_isInPlan ∈ wA := wA_of (tb3 _ (List.mem_of_getElem? (i := 163) rfl)) rfl
theorem kw_715 : Cond.code yX7_isInPlan cX7_isInPlan 3 (some FieldType.boolean) ∈ wA := wA_of (tb3 _ (List.mem_of_getElem? (i := 164) rfl)) rfl
theorem kw_716 : Cond.methodLink "GatesBentLaw" 101 yX7_ends ∈ wA := wA_of (tb3 _ (List.mem_of_getElem? (i := 165) rfl)) rfl
theorem kw_717 : Cond.instanceMethod yX7_ends ∈ wA := wA_of (tb3 _ (List.mem_of_getElem? (i := 166) rfl)) rfl
theorem kw_718 : Cond.selects "GatesBent" yX7_ends yX7_ends ∈ wA := wA_of (tb3 _ (List.mem_of_getElem? (i := 167) rfl)) rfl
theorem kw_719 : Cond.code yX7_ends cX7_ends 2 (some FieldType.int) ∈ wA := wA_of (tb3 _ (List.mem_of_getElem? (i := 168) rfl)) rfl
theorem kw_720 : Cond.methodLink "GatesBent" 284 yX6_goByPlan ∈ wA := wA_of (tb3 _ (List.mem_of_getElem? (i := 169) rfl)) rfl
theorem kw_721 : Cond.instanceMethod yX6_goByPlan ∈ wA := wA_of (tb3 _ (List.mem_of_getElem? (i := 170) rfl)) rfl
theorem kw_722 : Cond.selects "GatesBent$Town" yX6_goByPlan yX6_goByPlan ∈ wA := wA_of (tb3 _ (List.mem_of_getElem? (i := 171) rfl)) rfl
theorem kw_723 : Cond.code yX6_goByPlan cX6_goByPlan 3 none ∈ wA := wA_of (tb3 _ (List.mem_of_getElem? (i := 172) rfl)) rfl
theorem kw_724 : Cond.methodLink "GatesBent$Town" 132 yX6_goDays ∈ wA := wA_of (tb3 _ (List.mem_of_getElem? (i := 173) rfl)) rfl
theorem kw_725 : Cond.methodLink "GatesBent$Town" 135 yX1_learn ∈ wA := wA_of (tb3 _ (List.mem_of_getElem? (i := 174) rfl)) rfl
theorem kw_726 : Cond.methodLink "GatesBentLaw" 105 yX7_book ∈ wA := wA_of (tb3 _ (List.mem_of_getElem? (i := 175) rfl)) rfl
theorem kw_727 : Cond.instanceMethod yX7_book ∈ wA := wA_of (tb3 _ (List.mem_of_getElem? (i := 176) rfl)) rfl
theorem kw_728 : Cond.selects "GatesBent" yX7_book yX7_book ∈ wA := wA_of (tb3 _ (List.mem_of_getElem? (i := 177) rfl)) rfl
theorem kw_729 : Cond.code yX7_book cX7_book 3 (some FieldType.int) ∈ wA := wA_of (tb3 _ (List.mem_of_getElem? (i := 178) rfl)) rfl
theorem kw_730 : Cond.methodLink "GatesBentLaw" 109 yX7_looked ∈ wA := wA_of (tb3 _ (List.mem_of_getElem? (i := 179) rfl)) rfl
theorem kw_731 : Cond.instanceMethod yX7_looked ∈ wA := wA_of (tb3 _ (List.mem_of_getElem? (i := 180) rfl)) rfl
theorem kw_732 : Cond.selects "GatesBent" yX7_looked yX7_looked ∈ wA := wA_of (tb3 _ (List.mem_of_getElem? (i := 181) rfl)) rfl
theorem kw_733 : Cond.code yX7_looked cX7_looked 3 (some FieldType.int) ∈ wA := wA_of (tb3 _ (List.mem_of_getElem? (i := 182) rfl)) rfl
theorem kw_734 : Cond.methodLink "GatesBentLaw" 113 yX7_judge ∈ wA := wA_of (tb3 _ (List.mem_of_getElem? (i := 183) rfl)) rfl
theorem kw_735 : Cond.instanceMethod yX7_judge ∈ wA := wA_of (tb3 _ (List.mem_of_getElem? (i := 184) rfl)) rfl
theorem kw_736 : Cond.selects "GatesBent" yX7_judge yX7_judge ∈ wA := wA_of (tb3 _ (List.mem_of_getElem? (i := 185) rfl)) rfl
theorem kw_737 : Cond.code yX7_judge cX7_judge 5 (some FieldType.int) ∈ wA := wA_of (tb3 _ (List.mem_of_getElem? (i := 186) rfl)) rfl
theorem kw_738 : Cond.methodLink "GatesBent" 293 yX5_hasPlace ∈ wA := wA_of (tb3 _ (List.mem_of_getElem? (i := 187) rfl)) rfl
theorem kw_739 : Cond.instanceMethod yX5_hasPlace ∈ wA := wA_of (tb3 _ (List.mem_of_getElem? (i := 188) rfl)) rfl
theorem kw_740 : Cond.selects "GatesBent$Tape" yX5_hasPlace yX5_hasPlace ∈ wA := wA_of (tb3 _ (List.mem_of_getElem? (i := 189) rfl)) rfl
theorem kw_741 : Cond.code yX5_hasPlace cX5_hasPlace 2 (some FieldType.boolean) ∈ wA := wA_of (tb3 _ (List.mem_of_getElem? (i := 190) rfl)) rfl
theorem kw_742 : Cond.methodLink "GatesBentLaw" 117 yX7_image ∈ wA := wA_of (tb3 _ (List.mem_of_getElem? (i := 191) rfl)) rfl
theorem kw_743 : Cond.instanceMethod yX7_image ∈ wA := wA_of (tb3 _ (List.mem_of_getElem? (i := 192) rfl)) rfl
theorem kw_744 : Cond.selects "GatesBent" yX7_image yX7_image ∈ wA := wA_of (tb3 _ (List.mem_of_getElem? (i := 193) rfl)) rfl
theorem kw_745 : Cond.code yX7_image cX7_image 1 (some FieldType.int) ∈ wA := wA_of (tb3 _ (List.mem_of_getElem? (i := 194) rfl)) rfl
theorem kw_746 : Cond.methodLink "GatesBentLaw" 121 yX7_undo ∈ wA := wA_of (tb3 _ (List.mem_of_getElem? (i := 195) rfl)) rfl
theorem kw_747 : Cond.instanceMethod yX7_undo ∈ wA := wA_of (tb3 _ (List.mem_of_getElem? (i := 196) rfl)) rfl
theorem kw_748 : Cond.selects "GatesBent" yX7_undo yX7_undo ∈ wA := wA_of (tb3 _ (List.mem_of_getElem? (i := 197) rfl)) rfl
theorem kw_749 : Cond.code yX7_undo cX7_undo 1 (some FieldType.int) ∈ wA := wA_of (tb3 _ (List.mem_of_getElem? (i := 198) rfl)) rfl
theorem kw_750 : Cond.methodLink "GatesBentLaw" 125 yX7_act ∈ wA := wA_of (tb3 _ (List.mem_of_getElem? (i := 199) rfl)) rfl
theorem kw_751 : Cond.instanceMethod yX7_act ∈ wA := wA_of (tb3 _ (List.mem_of_getElem? (i := 200) rfl)) rfl
theorem kw_752 : Cond.selects "GatesBent" yX7_act yX7_act ∈ wA := wA_of (tb3 _ (List.mem_of_getElem? (i := 201) rfl)) rfl
theorem kw_753 : Cond.code yX7_act cX7_act 5 (some FieldType.int) ∈ wA := wA_of (tb3 _ (List.mem_of_getElem? (i := 202) rfl)) rfl
theorem kw_754 : Cond.methodLink "GatesBent" 307 yX7_walks ∈ wA := wA_of (tb3 _ (List.mem_of_getElem? (i := 203) rfl)) rfl
theorem kw_756 : Cond.instanceMethod yX7_walks ∈ wA := wA_of (tb3 _ (List.mem_of_getElem? (i := 205) rfl)) rfl
theorem kw_757 : Cond.code yX7_walks cX7_walks 5 (some FieldType.int) ∈ wA := wA_of (tb3 _ (List.mem_of_getElem? (i := 206) rfl)) rfl
theorem kw_758 : Cond.methodLink "GatesBent" 316 yX7_startBody ∈ wA := wA_of (tb3 _ (List.mem_of_getElem? (i := 207) rfl)) rfl
theorem kw_760 : Cond.instanceMethod yX7_startBody ∈ wA := wA_of (tb3 _ (List.mem_of_getElem? (i := 209) rfl)) rfl
theorem kw_761 : Cond.code yX7_startBody cX7_startBody 2 none ∈ wA := wA_of (tb3 _ (List.mem_of_getElem? (i := 210) rfl)) rfl
theorem kw_762 : Cond.methodLink "GatesBent" 310 yX7_knocks ∈ wA := wA_of (tb3 _ (List.mem_of_getElem? (i := 211) rfl)) rfl
theorem kw_764 : Cond.instanceMethod yX7_knocks ∈ wA := wA_of (tb3 _ (List.mem_of_getElem? (i := 213) rfl)) rfl
theorem kw_765 : Cond.code yX7_knocks cX7_knocks 6 (some FieldType.int) ∈ wA := wA_of (tb3 _ (List.mem_of_getElem? (i := 214) rfl)) rfl
theorem kw_766 : Cond.methodLink "GatesBent" 313 yX7_tells ∈ wA := wA_of (tb3 _ (List.mem_of_getElem? (i := 215) rfl)) rfl
theorem kw_768 : Cond.instanceMethod yX7_tells ∈ wA := wA_of (tb3 _ (List.mem_of_getElem? (i := 217) rfl)) rfl
theorem kw_769 : Cond.code yX7_tells cX7_tells 6 (some FieldType.int) ∈ wA := wA_of (tb3 _ (List.mem_of_getElem? (i := 218) rfl)) rfl
theorem kw_770 : Cond.methodLink "GatesBentLaw" 129 yX7_trace ∈ wA := wA_of (tb3 _ (List.mem_of_getElem? (i := 219) rfl)) rfl
theorem kw_771 : Cond.instanceMethod yX7_trace ∈ wA := wA_of (tb3 _ (List.mem_of_getElem? (i := 220) rfl)) rfl
theorem kw_772 : Cond.selects "GatesBent" yX7_trace yX7_trace ∈ wA := wA_of (tb3 _ (List.mem_of_getElem? (i := 221) rfl)) rfl
theorem kw_773 : Cond.code yX7_trace cX7_trace 2 (some FieldType.int) ∈ wA := wA_of (tb3 _ (List.mem_of_getElem? (i := 222) rfl)) rfl
theorem kw_774 : Cond.methodLink "GatesBent" 319 yJ9_min_7cf53 ∈ wA := wA_of (tb3 _ (List.mem_of_getElem? (i := 223) rfl)) rfl
theorem kw_775 : Cond.methodLink "GatesBentLaw" 133 yX7_taken ∈ wA := wA_of (tb3 _ (List.mem_of_getElem? (i := 224) rfl)) rfl
theorem kw_776 : Cond.instanceMethod yX7_taken ∈ wA := wA_of (tb3 _ (List.mem_of_getElem? (i := 225) rfl)) rfl
theorem kw_777 : Cond.selects "GatesBent" yX7_taken yX7_taken ∈ wA := wA_of (tb3 _ (List.mem_of_getElem? (i := 226) rfl)) rfl
theorem kw_778 : Cond.code yX7_taken cX7_taken 6 (some FieldType.int) ∈ wA := wA_of (tb3 _ (List.mem_of_getElem? (i := 227) rfl)) rfl
theorem kw_779 : Cond.methodLink "GatesBent" 324 yX7_kindAbove ∈ wA := wA_of (tb3 _ (List.mem_of_getElem? (i := 228) rfl)) rfl
theorem kw_780 : Cond.static yX7_kindAbove ∈ wA := wA_of (tb3 _ (List.mem_of_getElem? (i := 229) rfl)) rfl
theorem kw_781 : Cond.code yX7_kindAbove cX7_kindAbove 1 (some FieldType.int) ∈ wA := wA_of (tb3 _ (List.mem_of_getElem? (i := 230) rfl)) rfl
theorem kw_782 : Cond.methodLink "GatesBentLaw" 137 yX7_count ∈ wA := wA_of (tb3 _ (List.mem_of_getElem? (i := 231) rfl)) rfl
theorem kw_783 : Cond.instanceMethod yX7_count ∈ wA := wA_of (tb3 _ (List.mem_of_getElem? (i := 232) rfl)) rfl
theorem kw_784 : Cond.selects "GatesBent" yX7_count yX7_count ∈ wA := wA_of (tb3 _ (List.mem_of_getElem? (i := 233) rfl)) rfl
theorem kw_785 : Cond.code yX7_count cX7_count 2 (some FieldType.int) ∈ wA := wA_of (tb3 _ (List.mem_of_getElem? (i := 234) rfl)) rfl
theorem kw_786 : Cond.methodLink "GatesBentLaw" 141 yX7_tape ∈ wA := wA_of (tb3 _ (List.mem_of_getElem? (i := 235) rfl)) rfl
theorem kw_787 : Cond.instanceMethod yX7_tape ∈ wA := wA_of (tb3 _ (List.mem_of_getElem? (i := 236) rfl)) rfl
theorem kw_788 : Cond.selects "GatesBent" yX7_tape yX7_tape ∈ wA := wA_of (tb3 _ (List.mem_of_getElem? (i := 237) rfl)) rfl
theorem kw_789 : Cond.code yX7_tape cX7_tape 4 (some FieldType.int) ∈ wA := wA_of (tb3 _ (List.mem_of_getElem? (i := 238) rfl)) rfl
theorem kw_790 : Cond.methodLink "GatesBent" 327 yX5_become ∈ wA := wA_of (tb3 _ (List.mem_of_getElem? (i := 239) rfl)) rfl
theorem kw_791 : Cond.instanceMethod yX5_become ∈ wA := wA_of (tb4 _ (List.mem_of_getElem? (i := 0) rfl)) rfl
theorem kw_792 : Cond.selects "GatesBent$Tape" yX5_become yX5_become ∈ wA := wA_of (tb4 _ (List.mem_of_getElem? (i := 1) rfl)) rfl
theorem kw_793 : Cond.code yX5_become cX5_become 4 none ∈ wA := wA_of (tb4 _ (List.mem_of_getElem? (i := 2) rfl)) rfl
theorem kw_794 : Cond.methodLink "GatesBentLaw" 147 yX7_item ∈ wA := wA_of (tb4 _ (List.mem_of_getElem? (i := 3) rfl)) rfl
theorem kw_795 : Cond.instanceMethod yX7_item ∈ wA := wA_of (tb4 _ (List.mem_of_getElem? (i := 4) rfl)) rfl
theorem kw_796 : Cond.selects "GatesBent" yX7_item yX7_item ∈ wA := wA_of (tb4 _ (List.mem_of_getElem? (i := 5) rfl)) rfl
theorem kw_797 : Cond.code yX7_item cX7_item 5 (some FieldType.int) ∈ wA := wA_of (tb4 _ (List.mem_of_getElem? (i := 6) rfl)) rfl
theorem kw_798 : Cond.methodLink "GatesBent" 330 yX5_put ∈ wA := wA_of (tb4 _ (List.mem_of_getElem? (i := 7) rfl)) rfl
theorem kw_799 : Cond.instanceMethod yX5_put ∈ wA := wA_of (tb4 _ (List.mem_of_getElem? (i := 8) rfl)) rfl
theorem kw_800 : Cond.selects "GatesBent$Tape" yX5_put yX5_put ∈ wA := wA_of (tb4 _ (List.mem_of_getElem? (i := 9) rfl)) rfl
theorem kw_801 : Cond.code yX5_put cX5_put 4 none ∈ wA := wA_of (tb4 _ (List.mem_of_getElem? (i := 10) rfl)) rfl
theorem kw_802 : Cond.methodLink "GatesBent$Tape" 22 yX5_hasPlace ∈ wA := wA_of (tb4 _ (List.mem_of_getElem? (i := 11) rfl)) rfl
theorem kw_803 : Cond.methodLink "GatesBent$Tape" 26 yX5_cut ∈ wA := wA_of (tb4 _ (List.mem_of_getElem? (i := 12) rfl)) rfl
theorem kw_805 : Cond.instanceMethod yX5_cut ∈ wA := wA_of (tb4 _ (List.mem_of_getElem? (i := 14) rfl)) rfl
theorem kw_806 : Cond.code yX5_cut cX5_cut 3 (some FieldType.long) ∈ wA := wA_of (tb4 _ (List.mem_of_getElem? (i := 15) rfl)) rfl
theorem kw_807 : Cond.methodLink "GatesBentLaw" 152 yX7_read ∈ wA := wA_of (tb4 _ (List.mem_of_getElem? (i := 16) rfl)) rfl
theorem kw_808 : Cond.instanceMethod yX7_read ∈ wA := wA_of (tb4 _ (List.mem_of_getElem? (i := 17) rfl)) rfl
theorem kw_809 : Cond.selects "GatesBent" yX7_read yX7_read ∈ wA := wA_of (tb4 _ (List.mem_of_getElem? (i := 18) rfl)) rfl
theorem kw_810 : Cond.code yX7_read cX7_read 3 (some FieldType.long) ∈ wA := wA_of (tb4 _ (List.mem_of_getElem? (i := 19) rfl)) rfl
theorem kw_811 : Cond.methodLink "GatesBentLaw" 156 yX7_shift ∈ wA := wA_of (tb4 _ (List.mem_of_getElem? (i := 20) rfl)) rfl
theorem kw_812 : Cond.instanceMethod yX7_shift ∈ wA := wA_of (tb4 _ (List.mem_of_getElem? (i := 21) rfl)) rfl
theorem kw_813 : Cond.selects "GatesBent" yX7_shift yX7_shift ∈ wA := wA_of (tb4 _ (List.mem_of_getElem? (i := 22) rfl)) rfl
theorem kw_814 : Cond.code yX7_shift cX7_shift 8 (some FieldType.int) ∈ wA := wA_of (tb4 _ (List.mem_of_getElem? (i := 23) rfl)) rfl
theorem kw_815 : Cond.methodLink "GatesBent" 334 yX5_hasPlaces ∈ wA := wA_of (tb4 _ (List.mem_of_getElem? (i := 24) rfl)) rfl
theorem kw_816 : Cond.instanceMethod yX5_hasPlaces ∈ wA := wA_of (tb4 _ (List.mem_of_getElem? (i := 25) rfl)) rfl
theorem kw_817 : Cond.selects "GatesBent$Tape" yX5_hasPlaces yX5_hasPlaces ∈ wA := wA_of (tb4 _ (List.mem_of_getElem? (i := 26) rfl)) rfl
theorem kw_818 : Cond.code yX5_hasPlaces cX5_hasPlaces 3 (some FieldType.boolean) ∈ wA := wA_of (tb4 _ (List.mem_of_getElem? (i := 27) rfl)) rfl
theorem kw_819 : Cond.methodLink "GatesBent" 337 ⟨"java/lang/System", "arraycopy", "(Ljava/lang/Object;ILjava/lang/Object;II)V"⟩ ∈ wA := wA_of (tb4 _ (List.mem_of_getElem? (i := 28) rfl)) rfl
theorem kw_820 : Cond.classLink "GatesBentLaw" 10 "GatesBentModel" ∈ wA := wA_of (tb4 _ (List.mem_of_getElem? (i := 29) rfl)) rfl
theorem kw_821 : Cond.instantiable "GatesBentModel" 32 ∈ wA := wA_of (tb4 _ (List.mem_of_getElem? (i := 30) rfl)) rfl
theorem kw_822 : Cond.methodLink "GatesBentLaw" 12 yX8_init ∈ wA := wA_of (tb4 _ (List.mem_of_getElem? (i := 31) rfl)) rfl
theorem kw_823 : Cond.instanceMethod yX8_init ∈ wA := wA_of (tb4 _ (List.mem_of_getElem? (i := 32) rfl)) rfl
theorem kw_824 : Cond.code yX8_init cX8_init 1 none ∈ wA := wA_of (tb4 _ (List.mem_of_getElem? (i := 33) rfl)) rfl
theorem kw_825 : Cond.methodLink "GatesBentModel" 3 ⟨"java/lang/Object", "<init>", "()V"⟩ ∈ wA := wA_of (tb4 _ (List.mem_of_getElem? (i := 34) rfl)) rfl
theorem kw_826 : Cond.fieldLink "GatesBentModel" 9 "GatesBentModel" "now" "[I" ∈ wA := wA_of (tb4 _ (List.mem_of_getElem? (i := 35) rfl)) rfl
theorem kw_827 : Cond.fieldLink "GatesBentModel" 15 "GatesBentModel" "minds" "[I" ∈ wA := wA_of (tb4 _ (List.mem_of_getElem? (i := 36) rfl)) rfl
theorem kw_828 : Cond.fieldLink "GatesBentModel" 18 "GatesBentModel" "then" "[I" ∈ wA := wA_of (tb4 _ (List.mem_of_getElem? (i := 37) rfl)) rfl
theorem kw_829 : Cond.fieldLink "GatesBentModel" 74 "GatesBentModel" "kept" "Z" ∈ wA := wA_of (tb4 _ (List.mem_of_getElem? (i := 38) rfl)) rfl
theorem kw_830 : Cond.fieldLink "GatesBentModel" 21 "GatesBentModel" "text" "[I" ∈ wA := wA_of (tb4 _ (List.mem_of_getElem? (i := 39) rfl)) rfl
theorem kw_831 : Cond.fieldLink "GatesBentModel" 121 "GatesBentModel" "texted" "I" ∈ wA := wA_of (tb4 _ (List.mem_of_getElem? (i := 40) rfl)) rfl
theorem kw_832 : Cond.fieldLink "GatesBentModel" 24 "GatesBentModel" "rules" "[I" ∈ wA := wA_of (tb4 _ (List.mem_of_getElem? (i := 41) rfl)) rfl
theorem kw_833 : Cond.fieldLink "GatesBentModel" 27 "GatesBentModel" "sizes" "[I" ∈ wA := wA_of (tb4 _ (List.mem_of_getElem? (i := 42) rfl)) rfl
theorem kw_834 : Cond.fieldLink "GatesBentModel" 179 "GatesBentModel" "ruled" "I" ∈ wA := wA_of (tb4 _ (List.mem_of_getElem? (i := 43) rfl)) rfl
theorem kw_835 : Cond.fieldLink "GatesBentModel" 30 "GatesBentModel" "read" "[I" ∈ wA := wA_of (tb4 _ (List.mem_of_getElem? (i := 44) rfl)) rfl
theorem kw_836 : Cond.fieldLink "GatesBentModel" 131 "GatesBentModel" "size" "I" ∈ wA := wA_of (tb4 _ (List.mem_of_getElem? (i := 45) rfl)) rfl
theorem kw_837 : Cond.fieldLink "GatesBentModel" 128 "GatesBentModel" "at" "I" ∈ wA := wA_of (tb4 _ (List.mem_of_getElem? (i := 46) rfl)) rfl
theorem kw_838 : Cond.fieldLink "GatesBentModel" 125 "GatesBentModel" "well" "Z" ∈ wA := wA_of (tb4 _ (List.mem_of_getElem? (i := 47) rfl)) rfl
theorem kw_839 : Cond.fieldLink "GatesBentModel" 149 "GatesBentModel" "within" "I" ∈ wA := wA_of (tb4 _ (List.mem_of_getElem? (i := 48) rfl)) rfl
theorem kw_840 : Cond.fieldLink "GatesBentModel" 170 "GatesBentModel" "sum" "I" ∈ wA := wA_of (tb4 _ (List.mem_of_getElem? (i := 49) rfl)) rfl
theorem kw_841 : Cond.fieldLink "GatesBentModel" 164 "GatesBentModel" "need" "I" ∈ wA := wA_of (tb4 _ (List.mem_of_getElem? (i := 50) rfl)) rfl
theorem kw_842 : Cond.fieldLink "GatesBentModel" 167 "GatesBentModel" "age" "I" ∈ wA := wA_of (tb4 _ (List.mem_of_getElem? (i := 51) rfl)) rfl
theorem kw_843 : Cond.fieldLink "GatesBentModel" 33 "GatesBentModel" "names" "[I" ∈ wA := wA_of (tb4 _ (List.mem_of_getElem? (i := 52) rfl)) rfl
theorem kw_844 : Cond.fieldLink "GatesBentModel" 36 "GatesBentModel" "letters" "[C" ∈ wA := wA_of (tb4 _ (List.mem_of_getElem? (i := 53) rfl)) rfl
theorem kw_845 : Cond.fieldLink "GatesBentModel" 40 "GatesBentModel" "words" "[C" ∈ wA := wA_of (tb4 _ (List.mem_of_getElem? (i := 54) rfl)) rfl
theorem kw_846 : Cond.fieldLink "GatesBentModel" 43 "GatesBentModel" "given" "[I" ∈ wA := wA_of (tb4 _ (List.mem_of_getElem? (i := 55) rfl)) rfl
theorem kw_847 : Cond.fieldLink "GatesBentModel" 46 "GatesBentModel" "best" "[I" ∈ wA := wA_of (tb4 _ (List.mem_of_getElem? (i := 56) rfl)) rfl
theorem kw_848 : Cond.fieldLink "GatesBentModel" 231 "GatesBentModel" "most" "I" ∈ wA := wA_of (tb4 _ (List.mem_of_getElem? (i := 57) rfl)) rfl
theorem kw_849 : Cond.fieldLink "GatesBentModel" 49 "GatesBentModel" "helped" "[I" ∈ wA := wA_of (tb4 _ (List.mem_of_getElem? (i := 58) rfl)) rfl
theorem kw_850 : Cond.fieldLink "GatesBentModel" 52 "GatesBentModel" "above" "[I" ∈ wA := wA_of (tb4 _ (List.mem_of_getElem? (i := 59) rfl)) rfl
theorem kw_851 : Cond.fieldLink "GatesBentModel" 55 "GatesBentModel" "bodies" "[I" ∈ wA := wA_of (tb4 _ (List.mem_of_getElem? (i := 60) rfl)) rfl
theorem kw_852 : Cond.fieldLink "GatesBentModel" 58 "GatesBentModel" "trace" "[I" ∈ wA := wA_of (tb4 _ (List.mem_of_getElem? (i := 61) rfl)) rfl
theorem kw_853 : Cond.fieldLink "GatesBentModel" 255 "GatesBentModel" "ran" "I" ∈ wA := wA_of (tb4 _ (List.mem_of_getElem? (i := 62) rfl)) rfl
theorem kw_854 : Cond.fieldLink "GatesBentModel" 61 "GatesBentModel" "sorts" "[I" ∈ wA := wA_of (tb4 _ (List.mem_of_getElem? (i := 63) rfl)) rfl
theorem kw_855 : Cond.fieldLink "GatesBentModel" 64 "GatesBentModel" "lengths" "[I" ∈ wA := wA_of (tb4 _ (List.mem_of_getElem? (i := 64) rfl)) rfl
theorem kw_856 : Cond.fieldLink "GatesBentModel" 67 "GatesBentModel" "items" "[J" ∈ wA := wA_of (tb4 _ (List.mem_of_getElem? (i := 65) rfl)) rfl
theorem kw_857 : Cond.fieldLink "GatesBentModel" 71 "GatesBentModel" "moved" "[J" ∈ wA := wA_of (tb4 _ (List.mem_of_getElem? (i := 66) rfl)) rfl
theorem kw_923 : Cond.arrayClass FieldType.char ∈ wA := wA_of (tb4 _ (List.mem_of_getElem? (i := 132) rfl)) rfl
theorem kw_924 : Cond.methodLink "GatesBentLaw" 120 yX8_image ∈ wA := wA_of (tb4 _ (List.mem_of_getElem? (i := 133) rfl)) rfl
theorem kw_925 : Cond.instanceMethod yX8_image ∈ wA := wA_of (tb4 _ (List.mem_of_getElem? (i := 134) rfl)) rfl
theorem kw_926 : Cond.selects "GatesBentModel" yX8_image yX8_image ∈ wA := wA_of (tb4 _ (List.mem_of_getElem? (i := 135) rfl)) rfl
theorem kw_927 : Cond.code yX8_image cX8_image 2 (some FieldType.int) ∈ wA := wA_of (tb4 _ (List.mem_of_getElem? (i := 136) rfl)) rfl
theorem kw_928 : Cond.methodLink "GatesBentLaw" 124 yX8_undo ∈ wA := wA_of (tb4 _ (List.mem_of_getElem? (i := 137) rfl)) rfl
theorem kw_929 : Cond.instanceMethod yX8_undo ∈ wA := wA_of (tb4 _ (List.mem_of_getElem? (i := 138) rfl)) rfl
theorem kw_930 : Cond.selects "GatesBentModel" yX8_undo yX8_undo ∈ wA := wA_of (tb4 _ (List.mem_of_getElem? (i := 139) rfl)) rfl
theorem kw_931 : Cond.code yX8_undo cX8_undo 2 (some FieldType.int) ∈ wA := wA_of (tb4 _ (List.mem_of_getElem? (i := 140) rfl)) rfl
theorem kw_932 : Cond.methodLink "GatesBentLaw" 17 yX8_comer ∈ wA := wA_of (tb4 _ (List.mem_of_getElem? (i := 141) rfl)) rfl
theorem kw_933 : Cond.instanceMethod yX8_comer ∈ wA := wA_of (tb4 _ (List.mem_of_getElem? (i := 142) rfl)) rfl
theorem kw_934 : Cond.selects "GatesBentModel" yX8_comer yX8_comer ∈ wA := wA_of (tb4 _ (List.mem_of_getElem? (i := 143) rfl)) rfl
theorem kw_935 : Cond.code yX8_comer cX8_comer 7 (some FieldType.int) ∈ wA := wA_of (tb4 _ (List.mem_of_getElem? (i := 144) rfl)) rfl
theorem kw_936 : Cond.methodLink "GatesBentModel" 78 yX8_isIn ∈ wA := wA_of (tb4 _ (List.mem_of_getElem? (i := 145) rfl)) rfl
theorem kw_937 : Cond.static yX8_isIn ∈ wA := wA_of (tb4 _ (List.mem_of_getElem? (i := 146) rfl)) rfl
theorem kw_938 : Cond.code yX8_isIn cX8_isIn 3 (some FieldType.boolean) ∈ wA := wA_of (tb4 _ (List.mem_of_getElem? (i := 147) rfl)) rfl
theorem kw_939 : Cond.methodLink "GatesBentModel" 86 yX8_isGate ∈ wA := wA_of (tb4 _ (List.mem_of_getElem? (i := 148) rfl)) rfl
theorem kw_940 : Cond.static yX8_isGate ∈ wA := wA_of (tb4 _ (List.mem_of_getElem? (i := 149) rfl)) rfl
theorem kw_941 : Cond.code yX8_isGate cX8_isGate 1 (some FieldType.boolean) ∈ wA := wA_of (tb4 _ (List.mem_of_getElem? (i := 150) rfl)) rfl
theorem kw_942 : Cond.methodLink "GatesBentModel" 90 yX8_change ∈ wA := wA_of (tb4 _ (List.mem_of_getElem? (i := 151) rfl)) rfl
theorem kw_944 : Cond.instanceMethod yX8_change ∈ wA := wA_of (tb4 _ (List.mem_of_getElem? (i := 153) rfl)) rfl
theorem kw_945 : Cond.code yX8_change cX8_change 5 (some FieldType.int) ∈ wA := wA_of (tb4 _ (List.mem_of_getElem? (i := 154) rfl)) rfl
theorem kw_946 : Cond.methodLink "GatesBentModel" 82 yX8_one ∈ wA := wA_of (tb4 _ (List.mem_of_getElem? (i := 155) rfl)) rfl
theorem kw_948 : Cond.instanceMethod yX8_one ∈ wA := wA_of (tb4 _ (List.mem_of_getElem? (i := 157) rfl)) rfl
theorem kw_949 : Cond.code yX8_one cX8_one 3 (some FieldType.int) ∈ wA := wA_of (tb4 _ (List.mem_of_getElem? (i := 158) rfl)) rfl
theorem kw_950 : Cond.methodLink "GatesBentLaw" 22 yX8_of ∈ wA := wA_of (tb4 _ (List.mem_of_getElem? (i := 159) rfl)) rfl
theorem kw_951 : Cond.instanceMethod yX8_of ∈ wA := wA_of (tb4 _ (List.mem_of_getElem? (i := 160) rfl)) rfl
theorem kw_952 : Cond.selects "GatesBentModel" yX8_of yX8_of ∈ wA := wA_of (tb4 _ (List.mem_of_getElem? (i := 161) rfl)) rfl
theorem kw_953 : Cond.code yX8_of cX8_of 3 (some FieldType.int) ∈ wA := wA_of (tb4 _ (List.mem_of_getElem? (i := 162) rfl)) rfl
theorem kw_954 : Cond.methodLink "GatesBentModel" 94 yX8_isComer ∈ wA := wA_of (tb4 _ (List.mem_of_getElem? (i := 163) rfl)) rfl
theorem kw_956 : Cond.instanceMethod yX8_isComer ∈ wA := wA_of (tb4 _ (List.mem_of_getElem? (i := 165) rfl)) rfl
theorem kw_957 : Cond.code yX8_isComer cX8_isComer 2 (some FieldType.boolean) ∈ wA := wA_of (tb4 _ (List.mem_of_getElem? (i := 166) rfl)) rfl
theorem kw_958 : Cond.methodLink "GatesBentModel" 97 yX8_out ∈ wA := wA_of (tb4 _ (List.mem_of_getElem? (i := 167) rfl)) rfl
theorem kw_960 : Cond.instanceMethod yX8_out ∈ wA := wA_of (tb4 _ (List.mem_of_getElem? (i := 169) rfl)) rfl
theorem kw_961 : Cond.code yX8_out cX8_out 4 (some FieldType.int) ∈ wA := wA_of (tb4 _ (List.mem_of_getElem? (i := 170) rfl)) rfl
theorem kw_962 : Cond.methodLink "GatesBentModel" 206 yX8_keep ∈ wA := wA_of (tb4 _ (List.mem_of_getElem? (i := 171) rfl)) rfl
theorem kw_964 : Cond.instanceMethod yX8_keep ∈ wA := wA_of (tb4 _ (List.mem_of_getElem? (i := 173) rfl)) rfl
theorem kw_965 : Cond.code yX8_keep cX8_keep 3 none ∈ wA := wA_of (tb4 _ (List.mem_of_getElem? (i := 174) rfl)) rfl
theorem kw_966 : Cond.methodLink "GatesBentModel" 194 yX8_isBy ∈ wA := wA_of (tb4 _ (List.mem_of_getElem? (i := 175) rfl)) rfl
theorem kw_968 : Cond.instanceMethod yX8_isBy ∈ wA := wA_of (tb4 _ (List.mem_of_getElem? (i := 177) rfl)) rfl
theorem kw_969 : Cond.code yX8_isBy cX8_isBy 2 (some FieldType.boolean) ∈ wA := wA_of (tb4 _ (List.mem_of_getElem? (i := 178) rfl)) rfl
theorem kw_970 : Cond.methodLink "GatesBentModel" 101 yX8_lets ∈ wA := wA_of (tb4 _ (List.mem_of_getElem? (i := 179) rfl)) rfl
theorem kw_972 : Cond.instanceMethod yX8_lets ∈ wA := wA_of (tb4 _ (List.mem_of_getElem? (i := 181) rfl)) rfl
theorem kw_973 : Cond.code yX8_lets cX8_lets 6 (some FieldType.boolean) ∈ wA := wA_of (tb4 _ (List.mem_of_getElem? (i := 182) rfl)) rfl
theorem kw_974 : Cond.methodLink "GatesBentModel" 114 yX8_helps ∈ wA := wA_of (tb4 _ (List.mem_of_getElem? (i := 183) rfl)) rfl
theorem kw_976 : Cond.instanceMethod yX8_helps ∈ wA := wA_of (tb4 _ (List.mem_of_getElem? (i := 185) rfl)) rfl
theorem kw_977 : Cond.code yX8_helps cX8_helps 3 (some FieldType.int) ∈ wA := wA_of (tb4 _ (List.mem_of_getElem? (i := 186) rfl)) rfl
theorem kw_978 : Cond.methodLink "GatesBentModel" 182 yX8_readFor ∈ wA := wA_of (tb4 _ (List.mem_of_getElem? (i := 187) rfl)) rfl
theorem kw_980 : Cond.instanceMethod yX8_readFor ∈ wA := wA_of (tb4 _ (List.mem_of_getElem? (i := 189) rfl)) rfl
theorem kw_981 : Cond.code yX8_readFor cX8_readFor 5 none ∈ wA := wA_of (tb4 _ (List.mem_of_getElem? (i := 190) rfl)) rfl
theorem kw_982 : Cond.methodLink "GatesBentModel" 176 yX8_readAll ∈ wA := wA_of (tb4 _ (List.mem_of_getElem? (i := 191) rfl)) rfl
theorem kw_984 : Cond.instanceMethod yX8_readAll ∈ wA := wA_of (tb4 _ (List.mem_of_getElem? (i := 193) rfl)) rfl
theorem kw_985 : Cond.code yX8_readAll cX8_readAll 2 (some FieldType.boolean) ∈ wA := wA_of (tb4 _ (List.mem_of_getElem? (i := 194) rfl)) rfl
theorem kw_986 : Cond.methodLink "GatesBentModel" 173 yX8_clause ∈ wA := wA_of (tb4 _ (List.mem_of_getElem? (i := 195) rfl)) rfl
theorem kw_988 : Cond.instanceMethod yX8_clause ∈ wA := wA_of (tb4 _ (List.mem_of_getElem? (i := 197) rfl)) rfl
theorem kw_989 : Cond.code yX8_clause cX8_clause 4 none ∈ wA := wA_of (tb4 _ (List.mem_of_getElem? (i := 198) rfl)) rfl
theorem kw_990 : Cond.methodLink "GatesBentModel" 134 yX8_isAt ∈ wA := wA_of (tb4 _ (List.mem_of_getElem? (i := 199) rfl)) rfl
theorem kw_992 : Cond.instanceMethod yX8_isAt ∈ wA := wA_of (tb4 _ (List.mem_of_getElem? (i := 201) rfl)) rfl
theorem kw_993 : Cond.code yX8_isAt cX8_isAt 2 (some FieldType.boolean) ∈ wA := wA_of (tb4 _ (List.mem_of_getElem? (i := 202) rfl)) rfl
theorem kw_994 : Cond.methodLink "GatesBentModel" 141 yX8_takes ∈ wA := wA_of (tb4 _ (List.mem_of_getElem? (i := 203) rfl)) rfl
theorem kw_996 : Cond.instanceMethod yX8_takes ∈ wA := wA_of (tb4 _ (List.mem_of_getElem? (i := 205) rfl)) rfl
theorem kw_997 : Cond.code yX8_takes cX8_takes 2 none ∈ wA := wA_of (tb4 _ (List.mem_of_getElem? (i := 206) rfl)) rfl
theorem kw_998 : Cond.methodLink "GatesBentModel" 145 yX8_number ∈ wA := wA_of (tb4 _ (List.mem_of_getElem? (i := 207) rfl)) rfl
theorem kw_1000 : Cond.instanceMethod yX8_number ∈ wA := wA_of (tb4 _ (List.mem_of_getElem? (i := 209) rfl)) rfl
theorem kw_1001 : Cond.code yX8_number cX8_number 2 (some FieldType.int) ∈ wA := wA_of (tb4 _ (List.mem_of_getElem? (i := 210) rfl)) rfl
theorem kw_1002 : Cond.methodLink "GatesBentModel" 137 yX8_isDigit ∈ wA := wA_of (tb4 _ (List.mem_of_getElem? (i := 211) rfl)) rfl
theorem kw_1004 : Cond.instanceMethod yX8_isDigit ∈ wA := wA_of (tb4 _ (List.mem_of_getElem? (i := 213) rfl)) rfl
theorem kw_1005 : Cond.code yX8_isDigit cX8_isDigit 1 (some FieldType.boolean) ∈ wA := wA_of (tb4 _ (List.mem_of_getElem? (i := 214) rfl)) rfl
theorem kw_1006 : Cond.methodLink "GatesBentModel" 155 yX8_any ∈ wA := wA_of (tb4 _ (List.mem_of_getElem? (i := 215) rfl)) rfl
theorem kw_1008 : Cond.instanceMethod yX8_any ∈ wA := wA_of (tb4 _ (List.mem_of_getElem? (i := 217) rfl)) rfl
theorem kw_1009 : Cond.code yX8_any cX8_any 3 (some FieldType.boolean) ∈ wA := wA_of (tb4 _ (List.mem_of_getElem? (i := 218) rfl)) rfl
theorem kw_1010 : Cond.methodLink "GatesBentModel" 161 yX8_both ∈ wA := wA_of (tb4 _ (List.mem_of_getElem? (i := 219) rfl)) rfl
theorem kw_1012 : Cond.instanceMethod yX8_both ∈ wA := wA_of (tb4 _ (List.mem_of_getElem? (i := 221) rfl)) rfl
theorem kw_1013 : Cond.code yX8_both cX8_both 3 (some FieldType.boolean) ∈ wA := wA_of (tb4 _ (List.mem_of_getElem? (i := 222) rfl)) rfl
theorem kw_1014 : Cond.methodLink "GatesBentModel" 152 yX8_factor ∈ wA := wA_of (tb4 _ (List.mem_of_getElem? (i := 223) rfl)) rfl
theorem kw_1016 : Cond.instanceMethod yX8_factor ∈ wA := wA_of (tb4 _ (List.mem_of_getElem? (i := 225) rfl)) rfl
theorem kw_1017 : Cond.code yX8_factor cX8_factor 2 (some FieldType.boolean) ∈ wA := wA_of (tb4 _ (List.mem_of_getElem? (i := 226) rfl)) rfl
theorem kw_1018 : Cond.methodLink "GatesBentModel" 158 yX8_test ∈ wA := wA_of (tb4 _ (List.mem_of_getElem? (i := 227) rfl)) rfl
theorem kw_1020 : Cond.instanceMethod yX8_test ∈ wA := wA_of (tb4 _ (List.mem_of_getElem? (i := 229) rfl)) rfl
theorem kw_1021 : Cond.code yX8_test cX8_test 4 (some FieldType.boolean) ∈ wA := wA_of (tb4 _ (List.mem_of_getElem? (i := 230) rfl)) rfl
theorem kw_1022 : Cond.methodLink "GatesBentModel" 108 yX8_known ∈ wA := wA_of (tb4 _ (List.mem_of_getElem? (i := 231) rfl)) rfl
theorem kw_1024 : Cond.instanceMethod yX8_known ∈ wA := wA_of (tb4 _ (List.mem_of_getElem? (i := 233) rfl)) rfl
theorem kw_1025 : Cond.code yX8_known cX8_known 2 (some FieldType.int) ∈ wA := wA_of (tb4 _ (List.mem_of_getElem? (i := 234) rfl)) rfl
theorem kw_1026 : Cond.methodLink "GatesBentModel" 111 yX8_walkAt ∈ wA := wA_of (tb4 _ (List.mem_of_getElem? (i := 235) rfl)) rfl
theorem kw_1028 : Cond.instanceMethod yX8_walkAt ∈ wA := wA_of (tb4 _ (List.mem_of_getElem? (i := 237) rfl)) rfl
theorem kw_1029 : Cond.code yX8_walkAt cX8_walkAt 3 (some FieldType.int) ∈ wA := wA_of (tb4 _ (List.mem_of_getElem? (i := 238) rfl)) rfl
theorem kw_1030 : Cond.methodLink "GatesBentModel" 117 yX8_likeTo ∈ wA := wA_of (tb4 _ (List.mem_of_getElem? (i := 239) rfl)) rfl
theorem kw_1032 : Cond.instanceMethod yX8_likeTo ∈ wA := wA_of (tb5 _ (List.mem_of_getElem? (i := 1) rfl)) rfl
theorem kw_1033 : Cond.code yX8_likeTo cX8_likeTo 7 (some FieldType.int) ∈ wA := wA_of (tb5 _ (List.mem_of_getElem? (i := 2) rfl)) rfl
theorem kw_1034 : Cond.methodLink "GatesBentModel" 186 yX8_many ∈ wA := wA_of (tb5 _ (List.mem_of_getElem? (i := 3) rfl)) rfl
theorem kw_1035 : Cond.static yX8_many ∈ wA := wA_of (tb5 _ (List.mem_of_getElem? (i := 4) rfl)) rfl
theorem kw_1036 : Cond.code yX8_many cX8_many 3 (some FieldType.int) ∈ wA := wA_of (tb5 _ (List.mem_of_getElem? (i := 5) rfl)) rfl
theorem kw_1037 : Cond.methodLink "GatesBentModel" 189 yJ9_min_7cf53 ∈ wA := wA_of (tb5 _ (List.mem_of_getElem? (i := 6) rfl)) rfl
theorem kw_1038 : Cond.methodLink "GatesBentModel" 203 yX8_day ∈ wA := wA_of (tb5 _ (List.mem_of_getElem? (i := 7) rfl)) rfl
theorem kw_1040 : Cond.instanceMethod yX8_day ∈ wA := wA_of (tb5 _ (List.mem_of_getElem? (i := 9) rfl)) rfl
theorem kw_1041 : Cond.code yX8_day cX8_day 3 none ∈ wA := wA_of (tb5 _ (List.mem_of_getElem? (i := 10) rfl)) rfl
theorem kw_1042 : Cond.methodLink "GatesBentModel" 200 yX8_ageNow ∈ wA := wA_of (tb5 _ (List.mem_of_getElem? (i := 11) rfl)) rfl
theorem kw_1044 : Cond.instanceMethod yX8_ageNow ∈ wA := wA_of (tb5 _ (List.mem_of_getElem? (i := 13) rfl)) rfl
theorem kw_1045 : Cond.code yX8_ageNow cX8_ageNow 1 (some FieldType.int) ∈ wA := wA_of (tb5 _ (List.mem_of_getElem? (i := 14) rfl)) rfl
theorem kw_1046 : Cond.methodLink "GatesBentModel" 209 yX8_lay ∈ wA := wA_of (tb5 _ (List.mem_of_getElem? (i := 15) rfl)) rfl
theorem kw_1048 : Cond.instanceMethod yX8_lay ∈ wA := wA_of (tb5 _ (List.mem_of_getElem? (i := 17) rfl)) rfl
theorem kw_1049 : Cond.code yX8_lay cX8_lay 3 none ∈ wA := wA_of (tb5 _ (List.mem_of_getElem? (i := 18) rfl)) rfl
theorem kw_1050 : Cond.methodLink "GatesBentModel" 105 yX8_nearest ∈ wA := wA_of (tb5 _ (List.mem_of_getElem? (i := 19) rfl)) rfl
theorem kw_1052 : Cond.instanceMethod yX8_nearest ∈ wA := wA_of (tb5 _ (List.mem_of_getElem? (i := 21) rfl)) rfl
theorem kw_1053 : Cond.code yX8_nearest cX8_nearest 8 (some FieldType.int) ∈ wA := wA_of (tb5 _ (List.mem_of_getElem? (i := 22) rfl)) rfl
theorem kw_1054 : Cond.methodLink "GatesBentLaw" 27 yX8_set ∈ wA := wA_of (tb5 _ (List.mem_of_getElem? (i := 23) rfl)) rfl
theorem kw_1055 : Cond.instanceMethod yX8_set ∈ wA := wA_of (tb5 _ (List.mem_of_getElem? (i := 24) rfl)) rfl
theorem kw_1056 : Cond.selects "GatesBentModel" yX8_set yX8_set ∈ wA := wA_of (tb5 _ (List.mem_of_getElem? (i := 25) rfl)) rfl
theorem kw_1057 : Cond.code yX8_set cX8_set 4 (some FieldType.int) ∈ wA := wA_of (tb5 _ (List.mem_of_getElem? (i := 26) rfl)) rfl
theorem kw_1058 : Cond.methodLink "GatesBentLaw" 31 yX8_like ∈ wA := wA_of (tb5 _ (List.mem_of_getElem? (i := 27) rfl)) rfl
theorem kw_1059 : Cond.instanceMethod yX8_like ∈ wA := wA_of (tb5 _ (List.mem_of_getElem? (i := 28) rfl)) rfl
theorem kw_1060 : Cond.selects "GatesBentModel" yX8_like yX8_like ∈ wA := wA_of (tb5 _ (List.mem_of_getElem? (i := 29) rfl)) rfl
theorem kw_1061 : Cond.code yX8_like cX8_like 4 (some FieldType.int) ∈ wA := wA_of (tb5 _ (List.mem_of_getElem? (i := 30) rfl)) rfl
theorem kw_1062 : Cond.methodLink "GatesBentLaw" 40 yX8_forget ∈ wA := wA_of (tb5 _ (List.mem_of_getElem? (i := 31) rfl)) rfl
theorem kw_1063 : Cond.instanceMethod yX8_forget ∈ wA := wA_of (tb5 _ (List.mem_of_getElem? (i := 32) rfl)) rfl
theorem kw_1064 : Cond.selects "GatesBentModel" yX8_forget yX8_forget ∈ wA := wA_of (tb5 _ (List.mem_of_getElem? (i := 33) rfl)) rfl
theorem kw_1065 : Cond.code yX8_forget cX8_forget 3 (some FieldType.int) ∈ wA := wA_of (tb5 _ (List.mem_of_getElem? (i := 34) rfl)) rfl
theorem kw_1066 : Cond.methodLink "GatesBentLaw" 44 yX8_row ∈ wA := wA_of (tb5 _ (List.mem_of_getElem? (i := 35) rfl)) rfl
theorem kw_1067 : Cond.instanceMethod yX8_row ∈ wA := wA_of (tb5 _ (List.mem_of_getElem? (i := 36) rfl)) rfl
theorem kw_1068 : Cond.selects "GatesBentModel" yX8_row yX8_row ∈ wA := wA_of (tb5 _ (List.mem_of_getElem? (i := 37) rfl)) rfl
theorem kw_1069 : Cond.code yX8_row cX8_row 4 (some FieldType.int) ∈ wA := wA_of (tb5 _ (List.mem_of_getElem? (i := 38) rfl)) rfl
theorem kw_1070 : Cond.methodLink "GatesBentLaw" 48 yX8_feed ∈ wA := wA_of (tb5 _ (List.mem_of_getElem? (i := 39) rfl)) rfl
theorem kw_1071 : Cond.instanceMethod yX8_feed ∈ wA := wA_of (tb5 _ (List.mem_of_getElem? (i := 40) rfl)) rfl
theorem kw_1072 : Cond.selects "GatesBentModel" yX8_feed yX8_feed ∈ wA := wA_of (tb5 _ (List.mem_of_getElem? (i := 41) rfl)) rfl
theorem kw_1073 : Cond.code yX8_feed cX8_feed 2 (some FieldType.int) ∈ wA := wA_of (tb5 _ (List.mem_of_getElem? (i := 42) rfl)) rfl
theorem kw_1074 : Cond.methodLink "GatesBentLaw" 53 yX8_house ∈ wA := wA_of (tb5 _ (List.mem_of_getElem? (i := 43) rfl)) rfl
theorem kw_1075 : Cond.instanceMethod yX8_house ∈ wA := wA_of (tb5 _ (List.mem_of_getElem? (i := 44) rfl)) rfl
theorem kw_1076 : Cond.selects "GatesBentModel" yX8_house yX8_house ∈ wA := wA_of (tb5 _ (List.mem_of_getElem? (i := 45) rfl)) rfl
theorem kw_1077 : Cond.code yX8_house cX8_house 2 (some FieldType.int) ∈ wA := wA_of (tb5 _ (List.mem_of_getElem? (i := 46) rfl)) rfl
theorem kw_1078 : Cond.methodLink "GatesBentLaw" 35 yX8_teach ∈ wA := wA_of (tb5 _ (List.mem_of_getElem? (i := 47) rfl)) rfl
theorem kw_1079 : Cond.instanceMethod yX8_teach ∈ wA := wA_of (tb5 _ (List.mem_of_getElem? (i := 48) rfl)) rfl
theorem kw_1080 : Cond.selects "GatesBentModel" yX8_teach yX8_teach ∈ wA := wA_of (tb5 _ (List.mem_of_getElem? (i := 49) rfl)) rfl
theorem kw_1081 : Cond.code yX8_teach cX8_teach 3 (some FieldType.int) ∈ wA := wA_of (tb5 _ (List.mem_of_getElem? (i := 50) rfl)) rfl
theorem kw_1082 : Cond.methodLink "GatesBentModel" 197 yX8_taught ∈ wA := wA_of (tb5 _ (List.mem_of_getElem? (i := 51) rfl)) rfl
theorem kw_1084 : Cond.instanceMethod yX8_taught ∈ wA := wA_of (tb5 _ (List.mem_of_getElem? (i := 53) rfl)) rfl
theorem kw_1085 : Cond.code yX8_taught cX8_taught 6 (some FieldType.int) ∈ wA := wA_of (tb5 _ (List.mem_of_getElem? (i := 54) rfl)) rfl
theorem kw_1086 : Cond.methodLink "GatesBentLaw" 57 yX8_told ∈ wA := wA_of (tb5 _ (List.mem_of_getElem? (i := 55) rfl)) rfl
theorem kw_1087 : Cond.instanceMethod yX8_told ∈ wA := wA_of (tb5 _ (List.mem_of_getElem? (i := 56) rfl)) rfl
theorem kw_1088 : Cond.selects "GatesBentModel" yX8_told yX8_told ∈ wA := wA_of (tb5 _ (List.mem_of_getElem? (i := 57) rfl)) rfl
theorem kw_1089 : Cond.code yX8_told cX8_told 4 (some FieldType.int) ∈ wA := wA_of (tb5 _ (List.mem_of_getElem? (i := 58) rfl)) rfl
theorem kw_1090 : Cond.methodLink "GatesBentModel" 212 yX8_needNow ∈ wA := wA_of (tb5 _ (List.mem_of_getElem? (i := 59) rfl)) rfl
theorem kw_1092 : Cond.instanceMethod yX8_needNow ∈ wA := wA_of (tb5 _ (List.mem_of_getElem? (i := 61) rfl)) rfl
theorem kw_1093 : Cond.code yX8_needNow cX8_needNow 1 (some FieldType.int) ∈ wA := wA_of (tb5 _ (List.mem_of_getElem? (i := 62) rfl)) rfl
theorem kw_1094 : Cond.methodLink "GatesBentModel" 215 yX8_bys ∈ wA := wA_of (tb5 _ (List.mem_of_getElem? (i := 63) rfl)) rfl
theorem kw_1096 : Cond.instanceMethod yX8_bys ∈ wA := wA_of (tb5 _ (List.mem_of_getElem? (i := 65) rfl)) rfl
theorem kw_1097 : Cond.code yX8_bys cX8_bys 3 (some FieldType.int) ∈ wA := wA_of (tb5 _ (List.mem_of_getElem? (i := 66) rfl)) rfl
theorem kw_1098 : Cond.methodLink "GatesBentModel" 218 yX8_passes ∈ wA := wA_of (tb5 _ (List.mem_of_getElem? (i := 67) rfl)) rfl
theorem kw_1100 : Cond.instanceMethod yX8_passes ∈ wA := wA_of (tb5 _ (List.mem_of_getElem? (i := 69) rfl)) rfl
theorem kw_1101 : Cond.code yX8_passes cX8_passes 3 (some FieldType.int) ∈ wA := wA_of (tb5 _ (List.mem_of_getElem? (i := 70) rfl)) rfl
theorem kw_1102 : Cond.methodLink "GatesBentModel" 221 yX8_master ∈ wA := wA_of (tb5 _ (List.mem_of_getElem? (i := 71) rfl)) rfl
theorem kw_1104 : Cond.instanceMethod yX8_master ∈ wA := wA_of (tb5 _ (List.mem_of_getElem? (i := 73) rfl)) rfl
theorem kw_1105 : Cond.code yX8_master cX8_master 9 (some FieldType.int) ∈ wA := wA_of (tb5 _ (List.mem_of_getElem? (i := 74) rfl)) rfl
theorem kw_1106 : Cond.methodLink "GatesBentModel" 238 yJ9_max_7cf53 ∈ wA := wA_of (tb5 _ (List.mem_of_getElem? (i := 75) rfl)) rfl
theorem kw_1107 : Cond.methodLink "GatesBentLaw" 61 yX8_pass ∈ wA := wA_of (tb5 _ (List.mem_of_getElem? (i := 76) rfl)) rfl
theorem kw_1108 : Cond.instanceMethod yX8_pass ∈ wA := wA_of (tb5 _ (List.mem_of_getElem? (i := 77) rfl)) rfl
theorem kw_1109 : Cond.selects "GatesBentModel" yX8_pass yX8_pass ∈ wA := wA_of (tb5 _ (List.mem_of_getElem? (i := 78) rfl)) rfl
theorem kw_1110 : Cond.code yX8_pass cX8_pass 2 (some FieldType.int) ∈ wA := wA_of (tb5 _ (List.mem_of_getElem? (i := 79) rfl)) rfl
theorem kw_1111 : Cond.methodLink "GatesBentModel" 225 yX8_days ∈ wA := wA_of (tb5 _ (List.mem_of_getElem? (i := 80) rfl)) rfl
theorem kw_1113 : Cond.instanceMethod yX8_days ∈ wA := wA_of (tb5 _ (List.mem_of_getElem? (i := 82) rfl)) rfl
theorem kw_1114 : Cond.code yX8_days cX8_days 3 none ∈ wA := wA_of (tb5 _ (List.mem_of_getElem? (i := 83) rfl)) rfl
theorem kw_1115 : Cond.methodLink "GatesBentLaw" 65 yX8_on ∈ wA := wA_of (tb5 _ (List.mem_of_getElem? (i := 84) rfl)) rfl
theorem kw_1116 : Cond.instanceMethod yX8_on ∈ wA := wA_of (tb5 _ (List.mem_of_getElem? (i := 85) rfl)) rfl
theorem kw_1117 : Cond.selects "GatesBentModel" yX8_on yX8_on ∈ wA := wA_of (tb5 _ (List.mem_of_getElem? (i := 86) rfl)) rfl
theorem kw_1118 : Cond.code yX8_on cX8_on 4 (some FieldType.int) ∈ wA := wA_of (tb5 _ (List.mem_of_getElem? (i := 87) rfl)) rfl
theorem kw_1119 : Cond.methodLink "GatesBentLaw" 69 yX8_lessons ∈ wA := wA_of (tb5 _ (List.mem_of_getElem? (i := 88) rfl)) rfl
theorem kw_1120 : Cond.instanceMethod yX8_lessons ∈ wA := wA_of (tb5 _ (List.mem_of_getElem? (i := 89) rfl)) rfl
theorem kw_1121 : Cond.selects "GatesBentModel" yX8_lessons yX8_lessons ∈ wA := wA_of (tb5 _ (List.mem_of_getElem? (i := 90) rfl)) rfl
theorem kw_1122 : Cond.code yX8_lessons cX8_lessons 4 (some FieldType.int) ∈ wA := wA_of (tb5 _ (List.mem_of_getElem? (i := 91) rfl)) rfl
theorem kw_1123 : Cond.methodLink "GatesBentModel" 234 yX8_learn ∈ wA := wA_of (tb5 _ (List.mem_of_getElem? (i := 92) rfl)) rfl
theorem kw_1125 : Cond.instanceMethod yX8_learn ∈ wA := wA_of (tb5 _ (List.mem_of_getElem? (i := 94) rfl)) rfl
theorem kw_1126 : Cond.code yX8_learn cX8_learn 6 none ∈ wA := wA_of (tb5 _ (List.mem_of_getElem? (i := 95) rfl)) rfl
theorem kw_1127 : Cond.methodLink "GatesBentModel" 228 yX8_letsAll ∈ wA := wA_of (tb5 _ (List.mem_of_getElem? (i := 96) rfl)) rfl
theorem kw_1129 : Cond.instanceMethod yX8_letsAll ∈ wA := wA_of (tb5 _ (List.mem_of_getElem? (i := 98) rfl)) rfl
theorem kw_1130 : Cond.code yX8_letsAll cX8_letsAll 4 (some FieldType.int) ∈ wA := wA_of (tb5 _ (List.mem_of_getElem? (i := 99) rfl)) rfl
theorem kw_1131 : Cond.methodLink "GatesBentLaw" 73 yX8_feign ∈ wA := wA_of (tb5 _ (List.mem_of_getElem? (i := 100) rfl)) rfl
theorem kw_1132 : Cond.instanceMethod yX8_feign ∈ wA := wA_of (tb5 _ (List.mem_of_getElem? (i := 101) rfl)) rfl
theorem kw_1133 : Cond.selects "GatesBentModel" yX8_feign yX8_feign ∈ wA := wA_of (tb5 _ (List.mem_of_getElem? (i := 102) rfl)) rfl
theorem kw_1134 : Cond.code yX8_feign cX8_feign 12 (some FieldType.int) ∈ wA := wA_of (tb5 _ (List.mem_of_getElem? (i := 103) rfl)) rfl
theorem kw_1135 : Cond.methodLink "GatesBentLaw" 78 yX8_see ∈ wA := wA_of (tb5 _ (List.mem_of_getElem? (i := 104) rfl)) rfl
theorem kw_1136 : Cond.instanceMethod yX8_see ∈ wA := wA_of (tb5 _ (List.mem_of_getElem? (i := 105) rfl)) rfl
theorem kw_1137 : Cond.selects "GatesBentModel" yX8_see yX8_see ∈ wA := wA_of (tb5 _ (List.mem_of_getElem? (i := 106) rfl)) rfl
theorem kw_1138 : Cond.code yX8_see cX8_see 5 (some FieldType.int) ∈ wA := wA_of (tb5 _ (List.mem_of_getElem? (i := 107) rfl)) rfl
theorem kw_1139 : Cond.methodLink "GatesBentLaw" 82 yX8_wrong ∈ wA := wA_of (tb5 _ (List.mem_of_getElem? (i := 108) rfl)) rfl
theorem kw_1140 : Cond.instanceMethod yX8_wrong ∈ wA := wA_of (tb5 _ (List.mem_of_getElem? (i := 109) rfl)) rfl
theorem kw_1141 : Cond.selects "GatesBentModel" yX8_wrong yX8_wrong ∈ wA := wA_of (tb5 _ (List.mem_of_getElem? (i := 110) rfl)) rfl
theorem kw_1142 : Cond.code yX8_wrong cX8_wrong 2 (some FieldType.int) ∈ wA := wA_of (tb5 _ (List.mem_of_getElem? (i := 111) rfl)) rfl
theorem kw_1143 : Cond.methodLink "GatesBentModel" 241 yX8_isSo ∈ wA := wA_of (tb5 _ (List.mem_of_getElem? (i := 112) rfl)) rfl
theorem kw_1145 : Cond.instanceMethod yX8_isSo ∈ wA := wA_of (tb5 _ (List.mem_of_getElem? (i := 114) rfl)) rfl
theorem kw_1146 : Cond.code yX8_isSo cX8_isSo 3 (some FieldType.boolean) ∈ wA := wA_of (tb5 _ (List.mem_of_getElem? (i := 115) rfl)) rfl
theorem kw_1147 : Cond.methodLink "GatesBentLaw" 86 yX8_can ∈ wA := wA_of (tb5 _ (List.mem_of_getElem? (i := 116) rfl)) rfl
theorem kw_1148 : Cond.instanceMethod yX8_can ∈ wA := wA_of (tb5 _ (List.mem_of_getElem? (i := 117) rfl)) rfl
theorem kw_1149 : Cond.selects "GatesBentModel" yX8_can yX8_can ∈ wA := wA_of (tb5 _ (List.mem_of_getElem? (i := 118) rfl)) rfl
theorem kw_1150 : Cond.code yX8_can cX8_can 10 (some FieldType.int) ∈ wA := wA_of (tb5 _ (List.mem_of_getElem? (i := 119) rfl)) rfl
theorem kw_1151 : Cond.methodLink "GatesBentModel" 244 yX8_isAllSo ∈ wA := wA_of (tb5 _ (List.mem_of_getElem? (i := 120) rfl)) rfl
theorem kw_1153 : Cond.instanceMethod yX8_isAllSo ∈ wA := wA_of (tb5 _ (List.mem_of_getElem? (i := 122) rfl)) rfl
theorem kw_1154 : Cond.code yX8_isAllSo cX8_isAllSo 3 (some FieldType.boolean) ∈ wA := wA_of (tb5 _ (List.mem_of_getElem? (i := 123) rfl)) rfl
theorem kw_1155 : Cond.methodLink "GatesBentLaw" 91 yX8_odds ∈ wA := wA_of (tb5 _ (List.mem_of_getElem? (i := 124) rfl)) rfl
theorem kw_1156 : Cond.instanceMethod yX8_odds ∈ wA := wA_of (tb5 _ (List.mem_of_getElem? (i := 125) rfl)) rfl
theorem kw_1157 : Cond.selects "GatesBentModel" yX8_odds yX8_odds ∈ wA := wA_of (tb5 _ (List.mem_of_getElem? (i := 126) rfl)) rfl
theorem kw_1158 : Cond.code yX8_odds cX8_odds 7 (some FieldType.long) ∈ wA := wA_of (tb5 _ (List.mem_of_getElem? (i := 127) rfl)) rfl
theorem kw_1159 : Cond.constantLong "GatesBentModel" 247 (-9223372036854775808 : Int64) ∈ wA := wA_of (tb5 _ (List.mem_of_getElem? (i := 128) rfl)) rfl
theorem kw_1160 : Cond.constantLong "GatesBentModel" 249 (12 : Int64) ∈ wA := wA_of (tb5 _ (List.mem_of_getElem? (i := 129) rfl)) rfl
theorem kw_1161 : Cond.methodLink "GatesBentModel" 251 yX8_fraction ∈ wA := wA_of (tb5 _ (List.mem_of_getElem? (i := 130) rfl)) rfl
theorem kw_1162 : Cond.static yX8_fraction ∈ wA := wA_of (tb5 _ (List.mem_of_getElem? (i := 131) rfl)) rfl
theorem kw_1163 : Cond.code yX8_fraction cX8_fraction 11 (some FieldType.long) ∈ wA := wA_of (tb5 _ (List.mem_of_getElem? (i := 132) rfl)) rfl
theorem kw_1164 : Cond.methodLink "GatesBentLaw" 96 yX8_mean ∈ wA := wA_of (tb5 _ (List.mem_of_getElem? (i := 133) rfl)) rfl
theorem kw_1165 : Cond.instanceMethod yX8_mean ∈ wA := wA_of (tb5 _ (List.mem_of_getElem? (i := 134) rfl)) rfl
theorem kw_1166 : Cond.selects "GatesBentModel" yX8_mean yX8_mean ∈ wA := wA_of (tb5 _ (List.mem_of_getElem? (i := 135) rfl)) rfl
theorem kw_1167 : Cond.code yX8_mean cX8_mean 4 (some FieldType.long) ∈ wA := wA_of (tb5 _ (List.mem_of_getElem? (i := 136) rfl)) rfl
theorem kw_1168 : Cond.methodLink "GatesBentLaw" 100 yX8_plan ∈ wA := wA_of (tb5 _ (List.mem_of_getElem? (i := 137) rfl)) rfl
theorem kw_1169 : Cond.instanceMethod yX8_plan ∈ wA := wA_of (tb5 _ (List.mem_of_getElem? (i := 138) rfl)) rfl
theorem kw_1170 : Cond.selects "GatesBentModel" yX8_plan yX8_plan ∈ wA := wA_of (tb5 _ (List.mem_of_getElem? (i := 139) rfl)) rfl
theorem kw_1171 : Cond.code yX8_plan cX8_plan 4 (some FieldType.int) ∈ wA := wA_of (tb5 _ (List.mem_of_getElem? (i := 140) rfl)) rfl
theorem kw_1172 : Cond.methodLink "GatesBentLaw" 104 yX8_ends ∈ wA := wA_of (tb5 _ (List.mem_of_getElem? (i := 141) rfl)) rfl
theorem kw_1173 : Cond.instanceMethod yX8_ends ∈ wA := wA_of (tb5 _ (List.mem_of_getElem? (i := 142) rfl)) rfl
theorem kw_1174 : Cond.selects "GatesBentModel" yX8_ends yX8_ends ∈ wA := wA_of (tb5 _ (List.mem_of_getElem? (i := 143) rfl)) rfl
theorem kw_1175 : Cond.code yX8_ends cX8_ends 5 (some FieldType.int) ∈ wA := wA_of (tb5 _ (List.mem_of_getElem? (i := 144) rfl)) rfl
theorem kw_1176 : Cond.methodLink "GatesBentLaw" 108 yX8_book ∈ wA := wA_of (tb5 _ (List.mem_of_getElem? (i := 145) rfl)) rfl
theorem kw_1177 : Cond.instanceMethod yX8_book ∈ wA := wA_of (tb5 _ (List.mem_of_getElem? (i := 146) rfl)) rfl
theorem kw_1178 : Cond.selects "GatesBentModel" yX8_book yX8_book ∈ wA := wA_of (tb5 _ (List.mem_of_getElem? (i := 147) rfl)) rfl
theorem kw_1179 : Cond.code yX8_book cX8_book 3 (some FieldType.int) ∈ wA := wA_of (tb5 _ (List.mem_of_getElem? (i := 148) rfl)) rfl
theorem kw_1180 : Cond.methodLink "GatesBentLaw" 112 yX8_looked ∈ wA := wA_of (tb5 _ (List.mem_of_getElem? (i := 149) rfl)) rfl
theorem kw_1181 : Cond.instanceMethod yX8_looked ∈ wA := wA_of (tb5 _ (List.mem_of_getElem? (i := 150) rfl)) rfl
theorem kw_1182 : Cond.selects "GatesBentModel" yX8_looked yX8_looked ∈ wA := wA_of (tb5 _ (List.mem_of_getElem? (i := 151) rfl)) rfl
theorem kw_1183 : Cond.code yX8_looked cX8_looked 2 (some FieldType.int) ∈ wA := wA_of (tb5 _ (List.mem_of_getElem? (i := 152) rfl)) rfl
theorem kw_1184 : Cond.methodLink "GatesBentLaw" 128 yX8_act ∈ wA := wA_of (tb5 _ (List.mem_of_getElem? (i := 153) rfl)) rfl
theorem kw_1185 : Cond.instanceMethod yX8_act ∈ wA := wA_of (tb5 _ (List.mem_of_getElem? (i := 154) rfl)) rfl
theorem kw_1186 : Cond.selects "GatesBentModel" yX8_act yX8_act ∈ wA := wA_of (tb5 _ (List.mem_of_getElem? (i := 155) rfl)) rfl
theorem kw_1187 : Cond.code yX8_act cX8_act 4 (some FieldType.int) ∈ wA := wA_of (tb5 _ (List.mem_of_getElem? (i := 156) rfl)) rfl
theorem kw_1188 : Cond.methodLink "GatesBentModel" 264 yX8_all ∈ wA := wA_of (tb5 _ (List.mem_of_getElem? (i := 157) rfl)) rfl
theorem kw_1190 : Cond.instanceMethod yX8_all ∈ wA := wA_of (tb5 _ (List.mem_of_getElem? (i := 159) rfl)) rfl
theorem kw_1191 : Cond.code yX8_all cX8_all 4 (some FieldType.int) ∈ wA := wA_of (tb5 _ (List.mem_of_getElem? (i := 160) rfl)) rfl
theorem kw_1192 : Cond.methodLink "GatesBentModel" 258 yX8_byKind ∈ wA := wA_of (tb5 _ (List.mem_of_getElem? (i := 161) rfl)) rfl
theorem kw_1194 : Cond.instanceMethod yX8_byKind ∈ wA := wA_of (tb5 _ (List.mem_of_getElem? (i := 163) rfl)) rfl
theorem kw_1195 : Cond.code yX8_byKind cX8_byKind 7 (some FieldType.int) ∈ wA := wA_of (tb5 _ (List.mem_of_getElem? (i := 164) rfl)) rfl
theorem kw_1196 : Cond.methodLink "GatesBentModel" 261 yX8_body ∈ wA := wA_of (tb5 _ (List.mem_of_getElem? (i := 165) rfl)) rfl
theorem kw_1198 : Cond.instanceMethod yX8_body ∈ wA := wA_of (tb5 _ (List.mem_of_getElem? (i := 167) rfl)) rfl
theorem kw_1199 : Cond.code yX8_body cX8_body 2 (some FieldType.int) ∈ wA := wA_of (tb5 _ (List.mem_of_getElem? (i := 168) rfl)) rfl
theorem kw_1200 : Cond.methodLink "GatesBentLaw" 132 yX8_trace ∈ wA := wA_of (tb5 _ (List.mem_of_getElem? (i := 169) rfl)) rfl
theorem kw_1201 : Cond.instanceMethod yX8_trace ∈ wA := wA_of (tb5 _ (List.mem_of_getElem? (i := 170) rfl)) rfl
theorem kw_1202 : Cond.selects "GatesBentModel" yX8_trace yX8_trace ∈ wA := wA_of (tb5 _ (List.mem_of_getElem? (i := 171) rfl)) rfl
theorem kw_1203 : Cond.code yX8_trace cX8_trace 2 (some FieldType.int) ∈ wA := wA_of (tb5 _ (List.mem_of_getElem? (i := 172) rfl)) rfl
theorem kw_1204 : Cond.methodLink "GatesBentLaw" 136 yX8_taken ∈ wA := wA_of (tb5 _ (List.mem_of_getElem? (i := 173) rfl)) rfl
theorem kw_1205 : Cond.instanceMethod yX8_taken ∈ wA := wA_of (tb5 _ (List.mem_of_getElem? (i := 174) rfl)) rfl
theorem kw_1206 : Cond.selects "GatesBentModel" yX8_taken yX8_taken ∈ wA := wA_of (tb5 _ (List.mem_of_getElem? (i := 175) rfl)) rfl
theorem kw_1207 : Cond.code yX8_taken cX8_taken 4 (some FieldType.int) ∈ wA := wA_of (tb5 _ (List.mem_of_getElem? (i := 176) rfl)) rfl
theorem kw_1208 : Cond.methodLink "GatesBentLaw" 140 yX8_count ∈ wA := wA_of (tb5 _ (List.mem_of_getElem? (i := 177) rfl)) rfl
theorem kw_1209 : Cond.instanceMethod yX8_count ∈ wA := wA_of (tb5 _ (List.mem_of_getElem? (i := 178) rfl)) rfl
theorem kw_1210 : Cond.selects "GatesBentModel" yX8_count yX8_count ∈ wA := wA_of (tb5 _ (List.mem_of_getElem? (i := 179) rfl)) rfl
theorem kw_1211 : Cond.code yX8_count cX8_count 2 (some FieldType.int) ∈ wA := wA_of (tb5 _ (List.mem_of_getElem? (i := 180) rfl)) rfl
theorem kw_1212 : Cond.methodLink "GatesBentLaw" 144 yX8_tape ∈ wA := wA_of (tb5 _ (List.mem_of_getElem? (i := 181) rfl)) rfl
theorem kw_1213 : Cond.instanceMethod yX8_tape ∈ wA := wA_of (tb5 _ (List.mem_of_getElem? (i := 182) rfl)) rfl
theorem kw_1214 : Cond.selects "GatesBentModel" yX8_tape yX8_tape ∈ wA := wA_of (tb5 _ (List.mem_of_getElem? (i := 183) rfl)) rfl
theorem kw_1215 : Cond.code yX8_tape cX8_tape 5 (some FieldType.int) ∈ wA := wA_of (tb5 _ (List.mem_of_getElem? (i := 184) rfl)) rfl
theorem kw_1216 : Cond.methodLink "GatesBentModel" 267 yX8_isTape ∈ wA := wA_of (tb5 _ (List.mem_of_getElem? (i := 185) rfl)) rfl
theorem kw_1217 : Cond.static yX8_isTape ∈ wA := wA_of (tb5 _ (List.mem_of_getElem? (i := 186) rfl)) rfl
theorem kw_1218 : Cond.code yX8_isTape cX8_isTape 1 (some FieldType.boolean) ∈ wA := wA_of (tb5 _ (List.mem_of_getElem? (i := 187) rfl)) rfl
theorem kw_1219 : Cond.methodLink "GatesBentLaw" 151 yX8_item ∈ wA := wA_of (tb5 _ (List.mem_of_getElem? (i := 188) rfl)) rfl
theorem kw_1220 : Cond.instanceMethod yX8_item ∈ wA := wA_of (tb5 _ (List.mem_of_getElem? (i := 189) rfl)) rfl
theorem kw_1221 : Cond.selects "GatesBentModel" yX8_item yX8_item ∈ wA := wA_of (tb5 _ (List.mem_of_getElem? (i := 190) rfl)) rfl
theorem kw_1222 : Cond.code yX8_item cX8_item 6 (some FieldType.int) ∈ wA := wA_of (tb5 _ (List.mem_of_getElem? (i := 191) rfl)) rfl
theorem kw_1223 : Cond.methodLink "GatesBentLaw" 155 yX8_read ∈ wA := wA_of (tb5 _ (List.mem_of_getElem? (i := 192) rfl)) rfl
theorem kw_1224 : Cond.instanceMethod yX8_read ∈ wA := wA_of (tb5 _ (List.mem_of_getElem? (i := 193) rfl)) rfl
theorem kw_1225 : Cond.selects "GatesBentModel" yX8_read yX8_read ∈ wA := wA_of (tb5 _ (List.mem_of_getElem? (i := 194) rfl)) rfl
theorem kw_1226 : Cond.code yX8_read cX8_read 3 (some FieldType.long) ∈ wA := wA_of (tb5 _ (List.mem_of_getElem? (i := 195) rfl)) rfl
theorem kw_1227 : Cond.methodLink "GatesBentLaw" 160 yX8_shift ∈ wA := wA_of (tb5 _ (List.mem_of_getElem? (i := 196) rfl)) rfl
theorem kw_1228 : Cond.instanceMethod yX8_shift ∈ wA := wA_of (tb5 _ (List.mem_of_getElem? (i := 197) rfl)) rfl
theorem kw_1229 : Cond.selects "GatesBentModel" yX8_shift yX8_shift ∈ wA := wA_of (tb5 _ (List.mem_of_getElem? (i := 198) rfl)) rfl
theorem kw_1230 : Cond.code yX8_shift cX8_shift 7 (some FieldType.int) ∈ wA := wA_of (tb5 _ (List.mem_of_getElem? (i := 199) rfl)) rfl
theorem kw_1231 : Cond.methodLink "GatesBentLaw" 116 yX8_judge ∈ wA := wA_of (tb5 _ (List.mem_of_getElem? (i := 200) rfl)) rfl
theorem kw_1232 : Cond.instanceMethod yX8_judge ∈ wA := wA_of (tb5 _ (List.mem_of_getElem? (i := 201) rfl)) rfl
theorem kw_1233 : Cond.selects "GatesBentModel" yX8_judge yX8_judge ∈ wA := wA_of (tb5 _ (List.mem_of_getElem? (i := 202) rfl)) rfl
theorem kw_1234 : Cond.code yX8_judge cX8_judge 6 (some FieldType.int) ∈ wA := wA_of (tb5 _ (List.mem_of_getElem? (i := 203) rfl)) rfl
theorem kw_1235 : Cond.constantLong "GatesBentLaw" 145 (4294967295 : Int64) ∈ wA := wA_of (tb5 _ (List.mem_of_getElem? (i := 204) rfl)) rfl
theorem kw_1236 : Cond.fieldLink "java/lang/String" 9 "java/lang/String" "value" "[B" ∈ wA := wA_of (tb5 _ (List.mem_of_getElem? (i := 205) rfl)) rfl
theorem kw_1237 : Cond.fieldLink "java/lang/String" 15 "java/lang/String" "coder" "B" ∈ wA := wA_of (tb5 _ (List.mem_of_getElem? (i := 206) rfl)) rfl
