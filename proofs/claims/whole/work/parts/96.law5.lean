/-! ===== the law's cases, on ===== -/
section LCASE
variable {Γ : Ct} {P : Pq} {nh i : Int} {ad : Ob → Nat} {μc μm : Me} {cs sl b n : Nat} {xs : Nat → Int32}

theorem law_26 (F : Fx Γ cL_law "GatesBentLaw" 4 (some .boolean) P 2000 600000 7302250) (hS : Scr Γ b n xs) (hi : 0 ≤ i ∧ i + 6 ≤ n ∧ n ≤ 3072) (hcs : cs ≤ 500000) (hsl : sl ≤ 7000000) (hI : INV μc μm nh) (kk : LN0 Γ nh i ad cs sl b) : XX Γ 4 (VL nh) ad (vl ad (mx μc μm)) cs sl 1010 [(0, .ref b), (1, .ref (ad (0, 0, 0))), (2, .ref (ad (30, 0, 0))), (3, .int (I i))] [] := by
  obtain ⟨hc, im, tl, T, K, tx, sT, ln, it, Hm, Lb, hC, hM, hP⟩ := hI
  have hR0 := hC.1
  have hTI := hP.1.1
  have hd := hP.1.2.1
  have h78 := hTI.2.2.2.2.1.1
  have hH := hC.2.2.2.2.2.2.2.2 (T 78) h78 hP.1.2.2
  have hE : MEn μm T (Hm (T 78)) := ⟨hM.1, hM.2.2.2.2.2.2.2.2.2 (T 78) h78 hP.1.2.2, hM.2.2.2.2.2.2.2.1⟩
  have hSB := hP.2.2.2.2.2.2.2 (T 78)
  have hMA := hM.2.2.2.2.2.2.2.2.1
  have hX1 := i32_rg (xs (i + 1).toNat)
  have hX2 := i32_rg (xs (i + 2).toNat)
  have hX3 := i32_rg (xs (i + 3).toNat)
  refine x_aload_n (i := 1) (pc := 1010) F dL_law_1010 rfl rfl ?_
  refine x_aload_n (i := 0) (pc := 1011) F dL_law_1011 rfl rfl ?_
  refine x_iload_n (i := 3) (pc := 1012) F dL_law_1012 rfl rfl ?_
  refine x_iconst (pc := 1013) F dL_law_1013 ?_
  refine x_iadd (pc := 1014) F dL_law_1014 ?_
  refine x_sld (pc := 1015) F hS dL_law_1015 (by omega) ?_
  refine x_aload_n (i := 0) (pc := 1016) F dL_law_1016 rfl rfl ?_
  refine x_iload_n (i := 3) (pc := 1017) F dL_law_1017 rfl rfl ?_
  refine x_iconst (pc := 1018) F dL_law_1018 ?_
  refine x_iadd (pc := 1019) F dL_law_1019 ?_
  refine x_sld (pc := 1020) F hS dL_law_1020 (by omega) ?_
  refine x_aload_n (i := 0) (pc := 1021) F dL_law_1021 rfl rfl ?_
  refine x_iload_n (i := 3) (pc := 1022) F dL_law_1022 rfl rfl ?_
  refine x_iconst (pc := 1023) F dL_law_1023 ?_
  refine x_iadd (pc := 1024) F dL_law_1024 ?_
  refine x_sld (pc := 1025) F hS dL_law_1025 (by omega) ?_
  refine lc_Ci (As := [.int (I ((xs (i + 1).toNat).toInt)), .int (I ((xs (i + 2).toNat).toInt)), .int (I ((xs (i + 3).toNat).toInt))]) (pc := 1026) F dL_law_1026 lk_L_125 rfl rfl rfl (by omega) (by omega) (by omega) (c_X7_act ((xs (i + 1).toNat).toInt) ((xs (i + 2).toNat).toInt) ((xs (i + 3).toNat).toInt) hX1 hX2 hR0 hTI) ?_
  rintro _ μ1 ⟨rfl, c1, c2⟩
  refine x_aload_n (i := 2) (pc := 1029) F dL_law_1029 rfl rfl ?_
  refine x_aload_n (i := 0) (pc := 1030) F dL_law_1030 rfl rfl ?_
  refine x_iload_n (i := 3) (pc := 1031) F dL_law_1031 rfl rfl ?_
  refine x_iconst (pc := 1032) F dL_law_1032 ?_
  refine x_iadd (pc := 1033) F dL_law_1033 ?_
  refine x_sld (pc := 1034) F hS dL_law_1034 (by omega) ?_
  refine x_aload_n (i := 0) (pc := 1035) F dL_law_1035 rfl rfl ?_
  refine x_iload_n (i := 3) (pc := 1036) F dL_law_1036 rfl rfl ?_
  refine x_iconst (pc := 1037) F dL_law_1037 ?_
  refine x_iadd (pc := 1038) F dL_law_1038 ?_
  refine x_sld (pc := 1039) F hS dL_law_1039 (by omega) ?_
  refine x_aload_n (i := 0) (pc := 1040) F dL_law_1040 rfl rfl ?_
  refine x_iload_n (i := 3) (pc := 1041) F dL_law_1041 rfl rfl ?_
  refine x_iconst (pc := 1042) F dL_law_1042 ?_
  refine x_iadd (pc := 1043) F dL_law_1043 ?_
  refine x_sld (pc := 1044) F hS dL_law_1044 (by omega) ?_
  refine lc_Mi (As := [.int (I ((xs (i + 1).toNat).toInt)), .int (I ((xs (i + 2).toNat).toInt)), .int (I ((xs (i + 3).toNat).toInt))]) (pc := 1045) F dL_law_1045 lk_L_128 rfl rfl rfl (by omega) (by omega) (by omega) (c_X8_act ((xs (i + 2).toNat).toInt) ((xs (i + 3).toNat).toInt) hX1 hX2 hM.1 hTI hMA) ?_
  rintro _ μ2 ⟨rfl, m1, m2⟩
  refine x_icmp_same (tgt := 1345) (pc := 1048) F dL_law_1048 rfl ?_
  exact kk _ _ ⟨_, _, _, _, _, _, _, _, _, _, _, hC.act c1 c2, hM.act m1 m2, ⟨hP.1, hP.2.1, hP.2.2.1, hP.2.2.2.1, by have := actL_len T ((xs (i + 1).toNat).toInt) ((xs (i + 2).toNat).toInt); omega, hP.2.2.2.2.2⟩⟩
theorem law_27 (F : Fx Γ cL_law "GatesBentLaw" 4 (some .boolean) P 2000 600000 7302250) (hS : Scr Γ b n xs) (hi : 0 ≤ i ∧ i + 6 ≤ n ∧ n ≤ 3072) (hcs : cs ≤ 500000) (hsl : sl ≤ 7000000) (hI : INV μc μm nh) (kk : LN0 Γ nh i ad cs sl b) : XX Γ 4 (VL nh) ad (vl ad (mx μc μm)) cs sl 1053 [(0, .ref b), (1, .ref (ad (0, 0, 0))), (2, .ref (ad (30, 0, 0))), (3, .int (I i))] [] := by
  obtain ⟨hc, im, tl, T, K, tx, sT, ln, it, Hm, Lb, hC, hM, hP⟩ := hI
  have hR0 := hC.1
  have hTI := hP.1.1
  have hd := hP.1.2.1
  have h78 := hTI.2.2.2.2.1.1
  have hH := hC.2.2.2.2.2.2.2.2 (T 78) h78 hP.1.2.2
  have hE : MEn μm T (Hm (T 78)) := ⟨hM.1, hM.2.2.2.2.2.2.2.2.2 (T 78) h78 hP.1.2.2, hM.2.2.2.2.2.2.2.1⟩
  have hSB := hP.2.2.2.2.2.2.2 (T 78)
  have hMA := hM.2.2.2.2.2.2.2.2.1
  have hX1 := i32_rg (xs (i + 1).toNat)
  refine x_aload_n (i := 1) (pc := 1053) F dL_law_1053 rfl rfl ?_
  refine x_aload_n (i := 0) (pc := 1054) F dL_law_1054 rfl rfl ?_
  refine x_iload_n (i := 3) (pc := 1055) F dL_law_1055 rfl rfl ?_
  refine x_iconst (pc := 1056) F dL_law_1056 ?_
  refine x_iadd (pc := 1057) F dL_law_1057 ?_
  refine x_sld (pc := 1058) F hS dL_law_1058 (by omega) ?_
  refine lc_Ci (As := [.int (I ((xs (i + 1).toNat).toInt))]) (pc := 1059) F dL_law_1059 lk_L_129 rfl rfl rfl (by omega) (by omega) (by omega) (c_X7_trace ((xs (i + 1).toNat).toInt) hX1 hC.2.2.2.2.2.1 hP.2.2.2.2.1) ?_
  rintro _ μ1 ⟨rfl, rfl⟩
  refine x_aload_n (i := 2) (pc := 1062) F dL_law_1062 rfl rfl ?_
  refine x_aload_n (i := 0) (pc := 1063) F dL_law_1063 rfl rfl ?_
  refine x_iload_n (i := 3) (pc := 1064) F dL_law_1064 rfl rfl ?_
  refine x_iconst (pc := 1065) F dL_law_1065 ?_
  refine x_iadd (pc := 1066) F dL_law_1066 ?_
  refine x_sld (pc := 1067) F hS dL_law_1067 (by omega) ?_
  refine lc_Mi (As := [.int (I ((xs (i + 1).toNat).toInt))]) (pc := 1068) F dL_law_1068 lk_L_132 rfl rfl rfl (by omega) (by omega) (by omega) (c_X8_trace ((xs (i + 1).toNat).toInt) hX1 hM.2.2.2.2.2.1 hP.2.2.2.2.1) ?_
  rintro _ μ2 ⟨rfl, rfl⟩
  refine x_icmp_same (tgt := 1345) (pc := 1071) F dL_law_1071 rfl ?_
  exact kk _ _ ⟨_, _, _, _, _, _, _, _, _, _, _, hC, hM, hP⟩
theorem law_28 (F : Fx Γ cL_law "GatesBentLaw" 4 (some .boolean) P 2000 600000 7302250) (hS : Scr Γ b n xs) (hi : 0 ≤ i ∧ i + 6 ≤ n ∧ n ≤ 3072) (hcs : cs ≤ 500000) (hsl : sl ≤ 7000000) (hI : INV μc μm nh) (kk : LN0 Γ nh i ad cs sl b) : XX Γ 4 (VL nh) ad (vl ad (mx μc μm)) cs sl 1076 [(0, .ref b), (1, .ref (ad (0, 0, 0))), (2, .ref (ad (30, 0, 0))), (3, .int (I i))] [] := by
  obtain ⟨hc, im, tl, T, K, tx, sT, ln, it, Hm, Lb, hC, hM, hP⟩ := hI
  have hR0 := hC.1
  have hTI := hP.1.1
  have hd := hP.1.2.1
  have h78 := hTI.2.2.2.2.1.1
  have hH := hC.2.2.2.2.2.2.2.2 (T 78) h78 hP.1.2.2
  have hE : MEn μm T (Hm (T 78)) := ⟨hM.1, hM.2.2.2.2.2.2.2.2.2 (T 78) h78 hP.1.2.2, hM.2.2.2.2.2.2.2.1⟩
  have hSB := hP.2.2.2.2.2.2.2 (T 78)
  have hMA := hM.2.2.2.2.2.2.2.2.1
  have hX1 := i32_rg (xs (i + 1).toNat)
  have hX2 := i32_rg (xs (i + 2).toNat)
  refine x_aload_n (i := 1) (pc := 1076) F dL_law_1076 rfl rfl ?_
  refine x_aload_n (i := 0) (pc := 1077) F dL_law_1077 rfl rfl ?_
  refine x_iload_n (i := 3) (pc := 1078) F dL_law_1078 rfl rfl ?_
  refine x_iconst (pc := 1079) F dL_law_1079 ?_
  refine x_iadd (pc := 1080) F dL_law_1080 ?_
  refine x_sld (pc := 1081) F hS dL_law_1081 (by omega) ?_
  refine x_aload_n (i := 0) (pc := 1082) F dL_law_1082 rfl rfl ?_
  refine x_iload_n (i := 3) (pc := 1083) F dL_law_1083 rfl rfl ?_
  refine x_iconst (pc := 1084) F dL_law_1084 ?_
  refine x_iadd (pc := 1085) F dL_law_1085 ?_
  refine x_sld (pc := 1086) F hS dL_law_1086 (by omega) ?_
  refine lc_Ci (As := [.int (I ((xs (i + 1).toNat).toInt)), .int (I ((xs (i + 2).toNat).toInt))]) (pc := 1087) F dL_law_1087 lk_L_133 rfl rfl rfl (by omega) (by omega) (by omega) (c_X7_taken ((xs (i + 1).toNat).toInt) ((xs (i + 2).toNat).toInt) hX1 hX2 hR0 hTI) ?_
  rintro _ μ1 ⟨rfl, rfl⟩
  refine x_aload_n (i := 2) (pc := 1090) F dL_law_1090 rfl rfl ?_
  refine x_aload_n (i := 0) (pc := 1091) F dL_law_1091 rfl rfl ?_
  refine x_iload_n (i := 3) (pc := 1092) F dL_law_1092 rfl rfl ?_
  refine x_iconst (pc := 1093) F dL_law_1093 ?_
  refine x_iadd (pc := 1094) F dL_law_1094 ?_
  refine x_sld (pc := 1095) F hS dL_law_1095 (by omega) ?_
  refine x_aload_n (i := 0) (pc := 1096) F dL_law_1096 rfl rfl ?_
  refine x_iload_n (i := 3) (pc := 1097) F dL_law_1097 rfl rfl ?_
  refine x_iconst (pc := 1098) F dL_law_1098 ?_
  refine x_iadd (pc := 1099) F dL_law_1099 ?_
  refine x_sld (pc := 1100) F hS dL_law_1100 (by omega) ?_
  refine lc_Mi (As := [.int (I ((xs (i + 1).toNat).toInt)), .int (I ((xs (i + 2).toNat).toInt))]) (pc := 1101) F dL_law_1101 lk_L_136 rfl rfl rfl (by omega) (by omega) (by omega) (c_X8_taken ((xs (i + 1).toNat).toInt) ((xs (i + 2).toNat).toInt) hX1 hX2 hM.1 hTI hMA) ?_
  rintro _ μ2 ⟨rfl, rfl⟩
  refine x_icmp_same (tgt := 1345) (pc := 1104) F dL_law_1104 rfl ?_
  exact kk _ _ ⟨_, _, _, _, _, _, _, _, _, _, _, hC, hM, hP⟩
theorem law_29 (F : Fx Γ cL_law "GatesBentLaw" 4 (some .boolean) P 2000 600000 7302250) (hS : Scr Γ b n xs) (hi : 0 ≤ i ∧ i + 6 ≤ n ∧ n ≤ 3072) (hcs : cs ≤ 500000) (hsl : sl ≤ 7000000) (hI : INV μc μm nh) (kk : LN0 Γ nh i ad cs sl b) : XX Γ 4 (VL nh) ad (vl ad (mx μc μm)) cs sl 1109 [(0, .ref b), (1, .ref (ad (0, 0, 0))), (2, .ref (ad (30, 0, 0))), (3, .int (I i))] [] := by
  obtain ⟨hc, im, tl, T, K, tx, sT, ln, it, Hm, Lb, hC, hM, hP⟩ := hI
  have hR0 := hC.1
  have hTI := hP.1.1
  have hd := hP.1.2.1
  have h78 := hTI.2.2.2.2.1.1
  have hH := hC.2.2.2.2.2.2.2.2 (T 78) h78 hP.1.2.2
  have hE : MEn μm T (Hm (T 78)) := ⟨hM.1, hM.2.2.2.2.2.2.2.2.2 (T 78) h78 hP.1.2.2, hM.2.2.2.2.2.2.2.1⟩
  have hSB := hP.2.2.2.2.2.2.2 (T 78)
  have hMA := hM.2.2.2.2.2.2.2.2.1
  have hX1 := i32_rg (xs (i + 1).toNat)
  have q1 := hC.2.2.2.2.2.2.1
  have q2 := hC.2.2.2.1.1.1
  have q3 := hC.2.2.2.2.2.1.1
  have r1 := hM.2.2.2.2.2.2.1
  have r2 := hM.2.2.2.1.1.1
  have r3 := hM.2.2.2.2.2.1.1
  refine x_aload_n (i := 1) (pc := 1109) F dL_law_1109 rfl rfl ?_
  refine x_aload_n (i := 0) (pc := 1110) F dL_law_1110 rfl rfl ?_
  refine x_iload_n (i := 3) (pc := 1111) F dL_law_1111 rfl rfl ?_
  refine x_iconst (pc := 1112) F dL_law_1112 ?_
  refine x_iadd (pc := 1113) F dL_law_1113 ?_
  refine x_sld (pc := 1114) F hS dL_law_1114 (by omega) ?_
  refine lc_Ci (As := [.int (I ((xs (i + 1).toNat).toInt))]) (pc := 1115) F dL_law_1115 lk_L_137 rfl rfl rfl (by omega) (by omega) (by omega) (c_X7_count ((xs (i + 1).toNat).toInt) hX1 hR0) ?_
  rintro _ μ1 ⟨rfl, rfl⟩
  refine x_aload_n (i := 2) (pc := 1118) F dL_law_1118 rfl rfl ?_
  refine x_aload_n (i := 0) (pc := 1119) F dL_law_1119 rfl rfl ?_
  refine x_iload_n (i := 3) (pc := 1120) F dL_law_1120 rfl rfl ?_
  refine x_iconst (pc := 1121) F dL_law_1121 ?_
  refine x_iadd (pc := 1122) F dL_law_1122 ?_
  refine x_sld (pc := 1123) F hS dL_law_1123 (by omega) ?_
  refine lc_Mi (As := [.int (I ((xs (i + 1).toNat).toInt))]) (pc := 1124) F dL_law_1124 lk_L_140 rfl rfl rfl (by omega) (by omega) (by omega) (c_X8_count ((xs (i + 1).toNat).toInt) hX1 hM.1) ?_
  rintro _ μ2 ⟨rfl, rfl⟩
  rw [q1, q2, q3, r1, r2, r3]
  refine x_icmp_same (tgt := 1345) (pc := 1127) F dL_law_1127 rfl ?_
  exact kk _ _ ⟨_, _, _, _, _, _, _, _, _, _, _, hC, hM, hP⟩
theorem law_30 (F : Fx Γ cL_law "GatesBentLaw" 4 (some .boolean) P 2000 600000 7302250) (hS : Scr Γ b n xs) (hi : 0 ≤ i ∧ i + 6 ≤ n ∧ n ≤ 3072) (hcs : cs ≤ 500000) (hsl : sl ≤ 7000000) (hI : INV μc μm nh) (kk : LN0 Γ nh i ad cs sl b) : XX Γ 4 (VL nh) ad (vl ad (mx μc μm)) cs sl 1132 [(0, .ref b), (1, .ref (ad (0, 0, 0))), (2, .ref (ad (30, 0, 0))), (3, .int (I i))] [] := by
  obtain ⟨hc, im, tl, T, K, tx, sT, ln, it, Hm, Lb, hC, hM, hP⟩ := hI
  have hR0 := hC.1
  have hTI := hP.1.1
  have hd := hP.1.2.1
  have h78 := hTI.2.2.2.2.1.1
  have hH := hC.2.2.2.2.2.2.2.2 (T 78) h78 hP.1.2.2
  have hE : MEn μm T (Hm (T 78)) := ⟨hM.1, hM.2.2.2.2.2.2.2.2.2 (T 78) h78 hP.1.2.2, hM.2.2.2.2.2.2.2.1⟩
  have hSB := hP.2.2.2.2.2.2.2 (T 78)
  have hMA := hM.2.2.2.2.2.2.2.2.1
  have hX1 := i32_rg (xs (i + 1).toNat)
  have hX2 := i32_rg (xs (i + 2).toNat)
  have hX3 := i32_rg (xs (i + 3).toNat)
  refine x_aload_n (i := 1) (pc := 1132) F dL_law_1132 rfl rfl ?_
  refine x_aload_n (i := 0) (pc := 1133) F dL_law_1133 rfl rfl ?_
  refine x_iload_n (i := 3) (pc := 1134) F dL_law_1134 rfl rfl ?_
  refine x_iconst (pc := 1135) F dL_law_1135 ?_
  refine x_iadd (pc := 1136) F dL_law_1136 ?_
  refine x_sld (pc := 1137) F hS dL_law_1137 (by omega) ?_
  refine x_aload_n (i := 0) (pc := 1138) F dL_law_1138 rfl rfl ?_
  refine x_iload_n (i := 3) (pc := 1139) F dL_law_1139 rfl rfl ?_
  refine x_iconst (pc := 1140) F dL_law_1140 ?_
  refine x_iadd (pc := 1141) F dL_law_1141 ?_
  refine x_sld (pc := 1142) F hS dL_law_1142 (by omega) ?_
  refine x_aload_n (i := 0) (pc := 1143) F dL_law_1143 rfl rfl ?_
  refine x_iload_n (i := 3) (pc := 1144) F dL_law_1144 rfl rfl ?_
  refine x_iconst (pc := 1145) F dL_law_1145 ?_
  refine x_iadd (pc := 1146) F dL_law_1146 ?_
  refine x_sld (pc := 1147) F hS dL_law_1147 (by omega) ?_
  refine lc_Ci (As := [.int (I ((xs (i + 1).toNat).toInt)), .int (I ((xs (i + 2).toNat).toInt)), .int (I ((xs (i + 3).toNat).toInt))]) (pc := 1148) F dL_law_1148 lk_L_141 rfl rfl rfl (by omega) (by omega) (by omega) (c_X7_tape ((xs (i + 1).toNat).toInt) ((xs (i + 2).toNat).toInt) ((xs (i + 3).toNat).toInt) hX1 hX2 hX3 hC.2.2.2.2.1) ?_
  rintro _ μ1 ⟨rfl, c1, c2⟩
  refine x_aload_n (i := 2) (pc := 1151) F dL_law_1151 rfl rfl ?_
  refine x_aload_n (i := 0) (pc := 1152) F dL_law_1152 rfl rfl ?_
  refine x_iload_n (i := 3) (pc := 1153) F dL_law_1153 rfl rfl ?_
  refine x_iconst (pc := 1154) F dL_law_1154 ?_
  refine x_iadd (pc := 1155) F dL_law_1155 ?_
  refine x_sld (pc := 1156) F hS dL_law_1156 (by omega) ?_
  refine x_aload_n (i := 0) (pc := 1157) F dL_law_1157 rfl rfl ?_
  refine x_iload_n (i := 3) (pc := 1158) F dL_law_1158 rfl rfl ?_
  refine x_iconst (pc := 1159) F dL_law_1159 ?_
  refine x_iadd (pc := 1160) F dL_law_1160 ?_
  refine x_sld (pc := 1161) F hS dL_law_1161 (by omega) ?_
  refine x_aload_n (i := 0) (pc := 1162) F dL_law_1162 rfl rfl ?_
  refine x_iload_n (i := 3) (pc := 1163) F dL_law_1163 rfl rfl ?_
  refine x_iconst (pc := 1164) F dL_law_1164 ?_
  refine x_iadd (pc := 1165) F dL_law_1165 ?_
  refine x_sld (pc := 1166) F hS dL_law_1166 (by omega) ?_
  refine lc_Mi (As := [.int (I ((xs (i + 1).toNat).toInt)), .int (I ((xs (i + 2).toNat).toInt)), .int (I ((xs (i + 3).toNat).toInt))]) (pc := 1167) F dL_law_1167 lk_L_144 rfl rfl rfl (by omega) (by omega) (by omega) (c_X8_tape ((xs (i + 1).toNat).toInt) ((xs (i + 2).toNat).toInt) ((xs (i + 3).toNat).toInt) hX1 hX2 hX3 hM.2.2.2.2.1) ?_
  rintro _ μ2 ⟨rfl, m1, m2⟩
  refine x_icmp_same (tgt := 1345) (pc := 1170) F dL_law_1170 rfl ?_
  exact kk _ _ ⟨_, _, _, _, _, _, _, _, _, _, _, hC.tp c1 c2, hM.tp m1 m2, ⟨hP.1, hP.2.1, hP.2.2.1, tape_ok hP.2.2.2.1, hP.2.2.2.2⟩⟩
theorem i64_rg (x : Int64) : -9223372036854775808 ≤ x.toInt ∧ x.toInt < 9223372036854775808 := ⟨by have := Int64.le_toInt x; omega, by have := Int64.toInt_lt x; omega⟩
theorem law_31 (F : Fx Γ cL_law "GatesBentLaw" 4 (some .boolean) P 2000 600000 7302250) (hS : Scr Γ b n xs) (hi : 0 ≤ i ∧ i + 6 ≤ n ∧ n ≤ 3072) (hcs : cs ≤ 500000) (hsl : sl ≤ 7000000) (hI : INV μc μm nh) (kk : LN0 Γ nh i ad cs sl b) : XX Γ 4 (VL nh) ad (vl ad (mx μc μm)) cs sl 1175 [(0, .ref b), (1, .ref (ad (0, 0, 0))), (2, .ref (ad (30, 0, 0))), (3, .int (I i))] [] := by
  obtain ⟨hc, im, tl, T, K, tx, sT, ln, it, Hm, Lb, hC, hM, hP⟩ := hI
  have hR0 := hC.1
  have hTI := hP.1.1
  have hd := hP.1.2.1
  have h78 := hTI.2.2.2.2.1.1
  have hH := hC.2.2.2.2.2.2.2.2 (T 78) h78 hP.1.2.2
  have hE : MEn μm T (Hm (T 78)) := ⟨hM.1, hM.2.2.2.2.2.2.2.2.2 (T 78) h78 hP.1.2.2, hM.2.2.2.2.2.2.2.1⟩
  have hSB := hP.2.2.2.2.2.2.2 (T 78)
  have hMA := hM.2.2.2.2.2.2.2.2.1
  have hX1 := i32_rg (xs (i + 1).toNat)
  have hX2 := i32_rg (xs (i + 2).toNat)
  have hX3 := i32_rg (xs (i + 3).toNat)
  have hX4 := i32_rg (xs (i + 4).toNat)
  refine x_aload_n (i := 1) (pc := 1175) F dL_law_1175 rfl rfl ?_
  refine x_aload_n (i := 0) (pc := 1176) F dL_law_1176 rfl rfl ?_
  refine x_iload_n (i := 3) (pc := 1177) F dL_law_1177 rfl rfl ?_
  refine x_iconst (pc := 1178) F dL_law_1178 ?_
  refine x_iadd (pc := 1179) F dL_law_1179 ?_
  refine x_sld (pc := 1180) F hS dL_law_1180 (by omega) ?_
  refine x_aload_n (i := 0) (pc := 1181) F dL_law_1181 rfl rfl ?_
  refine x_iload_n (i := 3) (pc := 1182) F dL_law_1182 rfl rfl ?_
  refine x_iconst (pc := 1183) F dL_law_1183 ?_
  refine x_iadd (pc := 1184) F dL_law_1184 ?_
  refine x_sld (pc := 1185) F hS dL_law_1185 (by omega) ?_
  refine x_aload_n (i := 0) (pc := 1186) F dL_law_1186 rfl rfl ?_
  refine x_iload_n (i := 3) (pc := 1187) F dL_law_1187 rfl rfl ?_
  refine x_iconst (pc := 1188) F dL_law_1188 ?_
  refine x_iadd (pc := 1189) F dL_law_1189 ?_
  refine x_sld (pc := 1190) F hS dL_law_1190 (by omega) ?_
  refine r_i2l (pc := 1191) F dL_law_1191 rfl ?_
  refine x_bipush (pc := 1192) F dL_law_1192 (by decide) ?_
  refine r_lshl (pc := 1194) F dL_law_1194 (fun z hz => ?_)
  subst hz
  refine x_aload_n (i := 0) (pc := 1195) F dL_law_1195 rfl rfl ?_
  refine x_iload_n (i := 3) (pc := 1196) F dL_law_1196 rfl rfl ?_
  refine x_iconst (pc := 1197) F dL_law_1197 ?_
  refine x_iadd (pc := 1198) F dL_law_1198 ?_
  refine x_sld (pc := 1199) F hS dL_law_1199 (by omega) ?_
  refine r_i2l (pc := 1200) F dL_law_1200 rfl ?_
  refine x_ldc2 (z := 4294967295) (pc := 1201) F dL_law_1201 kw_1235 rfl ?_
  refine r_land (pc := 1204) F dL_law_1204 rfl ?_
  refine r_lor (pc := 1205) F dL_law_1205 rfl ?_
  refine x_lJ ?_
  generalize hw : Int64.toInt _ = w
  have hwr : -9223372036854775808 ≤ w ∧ w < 9223372036854775808 := by
    rw [← hw]
    exact i64_rg _
  refine lc_Ci (As := [.int (I ((xs (i + 1).toNat).toInt)), .int (I ((xs (i + 2).toNat).toInt)), .long (J w)]) (pc := 1206) F dL_law_1206 lk_L_147 rfl rfl rfl (by omega) (by omega) (by omega) (c_X7_item ((xs (i + 1).toNat).toInt) ((xs (i + 2).toNat).toInt) w hX1 hX2 hC.2.2.2.2.1 hP.2.2.2.1) ?_
  rintro _ μ1 ⟨rfl, c1, c2⟩
  refine x_aload_n (i := 2) (pc := 1209) F dL_law_1209 rfl rfl ?_
  refine x_aload_n (i := 0) (pc := 1210) F dL_law_1210 rfl rfl ?_
  refine x_iload_n (i := 3) (pc := 1211) F dL_law_1211 rfl rfl ?_
  refine x_iconst (pc := 1212) F dL_law_1212 ?_
  refine x_iadd (pc := 1213) F dL_law_1213 ?_
  refine x_sld (pc := 1214) F hS dL_law_1214 (by omega) ?_
  refine x_aload_n (i := 0) (pc := 1215) F dL_law_1215 rfl rfl ?_
  refine x_iload_n (i := 3) (pc := 1216) F dL_law_1216 rfl rfl ?_
  refine x_iconst (pc := 1217) F dL_law_1217 ?_
  refine x_iadd (pc := 1218) F dL_law_1218 ?_
  refine x_sld (pc := 1219) F hS dL_law_1219 (by omega) ?_
  refine x_aload_n (i := 0) (pc := 1220) F dL_law_1220 rfl rfl ?_
  refine x_iload_n (i := 3) (pc := 1221) F dL_law_1221 rfl rfl ?_
  refine x_iconst (pc := 1222) F dL_law_1222 ?_
  refine x_iadd (pc := 1223) F dL_law_1223 ?_
  refine x_sld (pc := 1224) F hS dL_law_1224 (by omega) ?_
  refine r_i2l (pc := 1225) F dL_law_1225 rfl ?_
  refine x_bipush (pc := 1226) F dL_law_1226 (by decide) ?_
  refine r_lshl (pc := 1228) F dL_law_1228 (fun z hz => ?_)
  subst hz
  refine x_aload_n (i := 0) (pc := 1229) F dL_law_1229 rfl rfl ?_
  refine x_iload_n (i := 3) (pc := 1230) F dL_law_1230 rfl rfl ?_
  refine x_iconst (pc := 1231) F dL_law_1231 ?_
  refine x_iadd (pc := 1232) F dL_law_1232 ?_
  refine x_sld (pc := 1233) F hS dL_law_1233 (by omega) ?_
  refine r_i2l (pc := 1234) F dL_law_1234 rfl ?_
  refine x_ldc2 (z := 4294967295) (pc := 1235) F dL_law_1235 kw_1235 rfl ?_
  refine r_land (pc := 1238) F dL_law_1238 rfl ?_
  refine r_lor (pc := 1239) F dL_law_1239 rfl ?_
  refine x_lJ ?_
  rw [hw]
  refine lc_Mi (As := [.int (I ((xs (i + 1).toNat).toInt)), .int (I ((xs (i + 2).toNat).toInt)), .long (J w)]) (pc := 1240) F dL_law_1240 lk_L_151 rfl rfl rfl (by omega) (by omega) (by omega) (c_X8_item ((xs (i + 1).toNat).toInt) ((xs (i + 2).toNat).toInt) w hX1 hX2 hM.2.2.2.2.1 hP.2.2.2.1) ?_
  rintro _ μ2 ⟨rfl, m1, m2⟩
  refine x_icmp_same (tgt := 1345) (pc := 1243) F dL_law_1243 rfl ?_
  exact kk _ _ ⟨_, _, _, _, _, _, _, _, _, _, _, hC.tp c1 c2, hM.tp m1 m2, ⟨hP.1, hP.2.1, hP.2.2.1, item_ok hwr hP.2.2.2.1, hP.2.2.2.2⟩⟩
theorem law_32 (F : Fx Γ cL_law "GatesBentLaw" 4 (some .boolean) P 2000 600000 7302250) (hS : Scr Γ b n xs) (hi : 0 ≤ i ∧ i + 6 ≤ n ∧ n ≤ 3072) (hcs : cs ≤ 500000) (hsl : sl ≤ 7000000) (hI : INV μc μm nh) (kk : LN0 Γ nh i ad cs sl b) : XX Γ 4 (VL nh) ad (vl ad (mx μc μm)) cs sl 1248 [(0, .ref b), (1, .ref (ad (0, 0, 0))), (2, .ref (ad (30, 0, 0))), (3, .int (I i))] [] := by
  obtain ⟨hc, im, tl, T, K, tx, sT, ln, it, Hm, Lb, hC, hM, hP⟩ := hI
  have hR0 := hC.1
  have hTI := hP.1.1
  have hd := hP.1.2.1
  have h78 := hTI.2.2.2.2.1.1
  have hH := hC.2.2.2.2.2.2.2.2 (T 78) h78 hP.1.2.2
  have hE : MEn μm T (Hm (T 78)) := ⟨hM.1, hM.2.2.2.2.2.2.2.2.2 (T 78) h78 hP.1.2.2, hM.2.2.2.2.2.2.2.1⟩
  have hSB := hP.2.2.2.2.2.2.2 (T 78)
  have hMA := hM.2.2.2.2.2.2.2.2.1
  have hX1 := i32_rg (xs (i + 1).toNat)
  have hX2 := i32_rg (xs (i + 2).toNat)
  refine x_aload_n (i := 1) (pc := 1248) F dL_law_1248 rfl rfl ?_
  refine x_aload_n (i := 0) (pc := 1249) F dL_law_1249 rfl rfl ?_
  refine x_iload_n (i := 3) (pc := 1250) F dL_law_1250 rfl rfl ?_
  refine x_iconst (pc := 1251) F dL_law_1251 ?_
  refine x_iadd (pc := 1252) F dL_law_1252 ?_
  refine x_sld (pc := 1253) F hS dL_law_1253 (by omega) ?_
  refine x_aload_n (i := 0) (pc := 1254) F dL_law_1254 rfl rfl ?_
  refine x_iload_n (i := 3) (pc := 1255) F dL_law_1255 rfl rfl ?_
  refine x_iconst (pc := 1256) F dL_law_1256 ?_
  refine x_iadd (pc := 1257) F dL_law_1257 ?_
  refine x_sld (pc := 1258) F hS dL_law_1258 (by omega) ?_
  refine lc_Cl (As := [.int (I ((xs (i + 1).toNat).toInt)), .int (I ((xs (i + 2).toNat).toInt))]) (pc := 1259) F dL_law_1259 lk_L_152 rfl rfl rfl (by omega) (by omega) (by omega) (c_X7_read ((xs (i + 1).toNat).toInt) ((xs (i + 2).toNat).toInt) hX1 hX2 hC.2.2.2.2.1 hP.2.2.2.1) ?_
  rintro _ μ1 ⟨rfl, rfl⟩
  refine x_aload_n (i := 2) (pc := 1262) F dL_law_1262 rfl rfl ?_
  refine x_aload_n (i := 0) (pc := 1263) F dL_law_1263 rfl rfl ?_
  refine x_iload_n (i := 3) (pc := 1264) F dL_law_1264 rfl rfl ?_
  refine x_iconst (pc := 1265) F dL_law_1265 ?_
  refine x_iadd (pc := 1266) F dL_law_1266 ?_
  refine x_sld (pc := 1267) F hS dL_law_1267 (by omega) ?_
  refine x_aload_n (i := 0) (pc := 1268) F dL_law_1268 rfl rfl ?_
  refine x_iload_n (i := 3) (pc := 1269) F dL_law_1269 rfl rfl ?_
  refine x_iconst (pc := 1270) F dL_law_1270 ?_
  refine x_iadd (pc := 1271) F dL_law_1271 ?_
  refine x_sld (pc := 1272) F hS dL_law_1272 (by omega) ?_
  refine lc_Ml (As := [.int (I ((xs (i + 1).toNat).toInt)), .int (I ((xs (i + 2).toNat).toInt))]) (pc := 1273) F dL_law_1273 lk_L_155 rfl rfl rfl (by omega) (by omega) (by omega) (c_X8_read ((xs (i + 1).toNat).toInt) ((xs (i + 2).toNat).toInt) hX1 hX2 hM.2.2.2.2.1 hP.2.2.2.1) ?_
  rintro _ μ2 ⟨rfl, rfl⟩
  refine x_lcmp_same (pc := 1276) F dL_law_1276 ?_
  refine x_if_eq (tgt := 1345) (pc := 1277) F dL_law_1277 rfl (by omega) (fun _ => ?_) (fun hq => absurd rfl hq)
  exact kk _ _ ⟨_, _, _, _, _, _, _, _, _, _, _, hC, hM, hP⟩
theorem law_33 (F : Fx Γ cL_law "GatesBentLaw" 4 (some .boolean) P 2000 600000 7302250) (hS : Scr Γ b n xs) (hi : 0 ≤ i ∧ i + 6 ≤ n ∧ n ≤ 3072) (hcs : cs ≤ 500000) (hsl : sl ≤ 7000000) (hI : INV μc μm nh) (kk : LN0 Γ nh i ad cs sl b) : XX Γ 4 (VL nh) ad (vl ad (mx μc μm)) cs sl 1282 [(0, .ref b), (1, .ref (ad (0, 0, 0))), (2, .ref (ad (30, 0, 0))), (3, .int (I i))] [] := by
  obtain ⟨hc, im, tl, T, K, tx, sT, ln, it, Hm, Lb, hC, hM, hP⟩ := hI
  have hR0 := hC.1
  have hTI := hP.1.1
  have hd := hP.1.2.1
  have h78 := hTI.2.2.2.2.1.1
  have hH := hC.2.2.2.2.2.2.2.2 (T 78) h78 hP.1.2.2
  have hE : MEn μm T (Hm (T 78)) := ⟨hM.1, hM.2.2.2.2.2.2.2.2.2 (T 78) h78 hP.1.2.2, hM.2.2.2.2.2.2.2.1⟩
  have hSB := hP.2.2.2.2.2.2.2 (T 78)
  have hMA := hM.2.2.2.2.2.2.2.2.1
  have hX1 := i32_rg (xs (i + 1).toNat)
  have hX2 := i32_rg (xs (i + 2).toNat)
  have hX3 := i32_rg (xs (i + 3).toNat)
  have hX4 := i32_rg (xs (i + 4).toNat)
  have hX5 := i32_rg (xs (i + 5).toNat)
  refine x_aload_n (i := 1) (pc := 1282) F dL_law_1282 rfl rfl ?_
  refine x_aload_n (i := 0) (pc := 1283) F dL_law_1283 rfl rfl ?_
  refine x_iload_n (i := 3) (pc := 1284) F dL_law_1284 rfl rfl ?_
  refine x_iconst (pc := 1285) F dL_law_1285 ?_
  refine x_iadd (pc := 1286) F dL_law_1286 ?_
  refine x_sld (pc := 1287) F hS dL_law_1287 (by omega) ?_
  refine x_aload_n (i := 0) (pc := 1288) F dL_law_1288 rfl rfl ?_
  refine x_iload_n (i := 3) (pc := 1289) F dL_law_1289 rfl rfl ?_
  refine x_iconst (pc := 1290) F dL_law_1290 ?_
  refine x_iadd (pc := 1291) F dL_law_1291 ?_
  refine x_sld (pc := 1292) F hS dL_law_1292 (by omega) ?_
  refine x_aload_n (i := 0) (pc := 1293) F dL_law_1293 rfl rfl ?_
  refine x_iload_n (i := 3) (pc := 1294) F dL_law_1294 rfl rfl ?_
  refine x_iconst (pc := 1295) F dL_law_1295 ?_
  refine x_iadd (pc := 1296) F dL_law_1296 ?_
  refine x_sld (pc := 1297) F hS dL_law_1297 (by omega) ?_
  refine x_aload_n (i := 0) (pc := 1298) F dL_law_1298 rfl rfl ?_
  refine x_iload_n (i := 3) (pc := 1299) F dL_law_1299 rfl rfl ?_
  refine x_iconst (pc := 1300) F dL_law_1300 ?_
  refine x_iadd (pc := 1301) F dL_law_1301 ?_
  refine x_sld (pc := 1302) F hS dL_law_1302 (by omega) ?_
  refine x_aload_n (i := 0) (pc := 1303) F dL_law_1303 rfl rfl ?_
  refine x_iload_n (i := 3) (pc := 1304) F dL_law_1304 rfl rfl ?_
  refine x_iconst (pc := 1305) F dL_law_1305 ?_
  refine x_iadd (pc := 1306) F dL_law_1306 ?_
  refine x_sld (pc := 1307) F hS dL_law_1307 (by omega) ?_
  refine lc_Ci (As := [.int (I ((xs (i + 1).toNat).toInt)), .int (I ((xs (i + 2).toNat).toInt)), .int (I ((xs (i + 3).toNat).toInt)), .int (I ((xs (i + 4).toNat).toInt)), .int (I ((xs (i + 5).toNat).toInt))]) (pc := 1308) F dL_law_1308 lk_L_156 rfl rfl rfl (by omega) (by omega) (by omega) (c_X7_shift ((xs (i + 1).toNat).toInt) ((xs (i + 2).toNat).toInt) ((xs (i + 3).toNat).toInt) ((xs (i + 4).toNat).toInt) ((xs (i + 5).toNat).toInt) hX1 hX2 hX3 hX4 hX5 hC.2.2.2.2.1 hP.2.2.2.1) ?_
  rintro _ μ1 ⟨rfl, c1, c2⟩
  refine x_aload_n (i := 2) (pc := 1311) F dL_law_1311 rfl rfl ?_
  refine x_aload_n (i := 0) (pc := 1312) F dL_law_1312 rfl rfl ?_
  refine x_iload_n (i := 3) (pc := 1313) F dL_law_1313 rfl rfl ?_
  refine x_iconst (pc := 1314) F dL_law_1314 ?_
  refine x_iadd (pc := 1315) F dL_law_1315 ?_
  refine x_sld (pc := 1316) F hS dL_law_1316 (by omega) ?_
  refine x_aload_n (i := 0) (pc := 1317) F dL_law_1317 rfl rfl ?_
  refine x_iload_n (i := 3) (pc := 1318) F dL_law_1318 rfl rfl ?_
  refine x_iconst (pc := 1319) F dL_law_1319 ?_
  refine x_iadd (pc := 1320) F dL_law_1320 ?_
  refine x_sld (pc := 1321) F hS dL_law_1321 (by omega) ?_
  refine x_aload_n (i := 0) (pc := 1322) F dL_law_1322 rfl rfl ?_
  refine x_iload_n (i := 3) (pc := 1323) F dL_law_1323 rfl rfl ?_
  refine x_iconst (pc := 1324) F dL_law_1324 ?_
  refine x_iadd (pc := 1325) F dL_law_1325 ?_
  refine x_sld (pc := 1326) F hS dL_law_1326 (by omega) ?_
  refine x_aload_n (i := 0) (pc := 1327) F dL_law_1327 rfl rfl ?_
  refine x_iload_n (i := 3) (pc := 1328) F dL_law_1328 rfl rfl ?_
  refine x_iconst (pc := 1329) F dL_law_1329 ?_
  refine x_iadd (pc := 1330) F dL_law_1330 ?_
  refine x_sld (pc := 1331) F hS dL_law_1331 (by omega) ?_
  refine x_aload_n (i := 0) (pc := 1332) F dL_law_1332 rfl rfl ?_
  refine x_iload_n (i := 3) (pc := 1333) F dL_law_1333 rfl rfl ?_
  refine x_iconst (pc := 1334) F dL_law_1334 ?_
  refine x_iadd (pc := 1335) F dL_law_1335 ?_
  refine x_sld (pc := 1336) F hS dL_law_1336 (by omega) ?_
  refine lc_Mi (As := [.int (I ((xs (i + 1).toNat).toInt)), .int (I ((xs (i + 2).toNat).toInt)), .int (I ((xs (i + 3).toNat).toInt)), .int (I ((xs (i + 4).toNat).toInt)), .int (I ((xs (i + 5).toNat).toInt))]) (pc := 1337) F dL_law_1337 lk_L_160 rfl rfl rfl (by omega) (by omega) (by omega) (c_X8_shift ((xs (i + 1).toNat).toInt) ((xs (i + 2).toNat).toInt) ((xs (i + 3).toNat).toInt) ((xs (i + 4).toNat).toInt) ((xs (i + 5).toNat).toInt) hX1 hX2 hX3 hX4 hX5 hM.2.2.2.2.1 hP.2.2.2.1) ?_
  rintro _ μ2 ⟨rfl, m1, m2⟩
  refine x_icmp_same (tgt := 1345) (pc := 1340) F dL_law_1340 rfl ?_
  exact kk _ _ ⟨_, _, _, _, _, _, _, _, _, _, _, hC.tp c1 c2, hM.tp m1 m2, ⟨hP.1, hP.2.1, hP.2.2.1, shift_ok hP.2.2.2.1, hP.2.2.2.2⟩⟩
end LCASE
