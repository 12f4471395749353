/-! ===== the Model's constructor ===== -/
def NM2 (o : Ob) : Prop := o = (31, 0, 0) ∨ o = (32, 0, 0) ∨ o = (33, 0, 0) ∨ o = (34, 0, 0) ∨ o = (35, 0, 0) ∨ o = (36, 0, 0) ∨ o = (37, 0, 0) ∨ o = (38, 0, 0) ∨ o = (39, 0, 0) ∨ o = (40, 0, 0) ∨ o = (41, 0, 0) ∨ o = (42, 0, 0) ∨ o = (43, 0, 0) ∨ o = (44, 0, 0) ∨ o = (45, 0, 0) ∨ o = (46, 0, 0) ∨ o = (47, 0, 0) ∨ o = (48, 0, 0) ∨ o = (49, 0, 0) ∨ o = (50, 0, 0)
theorem NM2_iff (o : Ob) : VM o ↔ (o = (30, 0, 0) ∨ NM2 o) := by
  obtain ⟨t, i, j⟩ := o
  unfold VM NM2
  simp only [Prod.mk.injEq]
  omega
theorem c_X8_init {V : Ob → Prop} {ad : Ob → Nat} {κ : Ka} (ho : V (30, 0, 0)) (hc : clo V κ) (h0 : ∀ k, k < nsl (30, 0, 0) → κ (30, 0, 0) k = dfl (30, 0, 0) k) (hn : ∀ o : Ob, Nat.ble 31 o.1 = true → ¬ V o) : ∀ (l : Launch) (E : Ev) (A : Nat → Prop), ctor l E 1 m_X8_init A V ad κ NM2 (30, 0, 0) [.ref (ad (30, 0, 0))] 20 2132 := by
  intro l E A
  refine conI (own := "GatesBentModel") (by decide +kernel) rfl rfl rfl rfl (fun Γ F hin2 => ?_)
  refine kt_0 (30, 0, 0) hc ho h0 (fun hk0 => ?_)
  refine x_aload_n (i := 0) (pc := 0) F dX8_init_0 rfl rfl ?_
  refine x_objI (pc := 1) F dX8_init_1 kw_825 (by omega) rfl ?_
  refine x_aload_n (i := 0) (pc := 4) F dX8_init_4 rfl rfl ?_
  refine x_sipush (pc := 5) F dX8_init_5 (by decide) ?_
  refine kt_A (ti := 0) (31, 0, 0) (rvI 0) (pc := 8) F dX8_init_8 rfl (by decide) kw_139 (fun _ => rfl) (fun _ h => by cases h) (fun _ => rfl) hk0 (fun h => h.elim (hn (31, 0, 0) (by decide)) (by simp)) rfl rfl (by decide) (by omega) (by omega) ?_
  intro a1 e1 hk1
  rw [← e1 (30, 0, 0) (Or.inr (by simp))]
  refine kt_F (o := (30, 0, 0)) (k := 0) (r := rvO (31, 0, 0)) (by simp) hk1 rfl (fun o' e => by cases e; exact Or.inr (by simp)) rfl (pc := 10) F hin2 dX8_init_10 rfl inx8 tyX8 tyX8_ok nmX8 (by decide) kw_826 rfl rfl rfl rfl rfl rfl ?_
  intro hk2
  refine x_aload_n (i := 0) (pc := 13) F dX8_init_13 rfl rfl ?_
  refine x_sipush (pc := 14) F dX8_init_14 (by decide) ?_
  refine kt_A (ti := 0) (32, 0, 0) (rvI 0) (pc := 17) F dX8_init_17 rfl (by decide) kw_139 (fun _ => rfl) (fun _ h => by cases h) (fun _ => rfl) hk2 (fun h => h.elim (hn (32, 0, 0) (by decide)) (by simp)) rfl rfl (by decide) (by omega) (by omega) ?_
  intro a3 e3 hk3
  rw [← e3 (30, 0, 0) (Or.inr (by simp))]
  refine kt_F (o := (30, 0, 0)) (k := 1) (r := rvO (32, 0, 0)) (by simp) hk3 rfl (fun o' e => by cases e; exact Or.inr (by simp)) rfl (pc := 19) F hin2 dX8_init_19 rfl inx8 tyX8 tyX8_ok nmX8 (by decide) kw_827 rfl rfl rfl rfl rfl rfl ?_
  intro hk4
  refine x_aload_n (i := 0) (pc := 22) F dX8_init_22 rfl rfl ?_
  refine x_sipush (pc := 23) F dX8_init_23 (by decide) ?_
  refine kt_A (ti := 0) (33, 0, 0) (rvI 0) (pc := 26) F dX8_init_26 rfl (by decide) kw_139 (fun _ => rfl) (fun _ h => by cases h) (fun _ => rfl) hk4 (fun h => h.elim (hn (33, 0, 0) (by decide)) (by simp)) rfl rfl (by decide) (by omega) (by omega) ?_
  intro a5 e5 hk5
  rw [← e5 (30, 0, 0) (Or.inr (by simp))]
  refine kt_F (o := (30, 0, 0)) (k := 2) (r := rvO (33, 0, 0)) (by simp) hk5 rfl (fun o' e => by cases e; exact Or.inr (by simp)) rfl (pc := 28) F hin2 dX8_init_28 rfl inx8 tyX8 tyX8_ok nmX8 (by decide) kw_828 rfl rfl rfl rfl rfl rfl ?_
  intro hk6
  refine x_aload_n (i := 0) (pc := 31) F dX8_init_31 rfl rfl ?_
  refine x_bipush (pc := 32) F dX8_init_32 (by decide) ?_
  refine kt_A (ti := 0) (34, 0, 0) (rvI 0) (pc := 34) F dX8_init_34 rfl (by decide) kw_139 (fun _ => rfl) (fun _ h => by cases h) (fun _ => rfl) hk6 (fun h => h.elim (hn (34, 0, 0) (by decide)) (by simp)) rfl rfl (by decide) (by omega) (by omega) ?_
  intro a7 e7 hk7
  rw [← e7 (30, 0, 0) (Or.inr (by simp))]
  refine kt_F (o := (30, 0, 0)) (k := 4) (r := rvO (34, 0, 0)) (by simp) hk7 rfl (fun o' e => by cases e; exact Or.inr (by simp)) rfl (pc := 36) F hin2 dX8_init_36 rfl inx8 tyX8 tyX8_ok nmX8 (by decide) kw_830 rfl rfl rfl rfl rfl rfl ?_
  intro hk8
  refine x_aload_n (i := 0) (pc := 39) F dX8_init_39 rfl rfl ?_
  refine x_sipush (pc := 40) F dX8_init_40 (by decide) ?_
  refine kt_A (ti := 0) (35, 0, 0) (rvI 0) (pc := 43) F dX8_init_43 rfl (by decide) kw_139 (fun _ => rfl) (fun _ h => by cases h) (fun _ => rfl) hk8 (fun h => h.elim (hn (35, 0, 0) (by decide)) (by simp)) rfl rfl (by decide) (by omega) (by omega) ?_
  intro a9 e9 hk9
  rw [← e9 (30, 0, 0) (Or.inr (by simp))]
  refine kt_F (o := (30, 0, 0)) (k := 6) (r := rvO (35, 0, 0)) (by simp) hk9 rfl (fun o' e => by cases e; exact Or.inr (by simp)) rfl (pc := 45) F hin2 dX8_init_45 rfl inx8 tyX8 tyX8_ok nmX8 (by decide) kw_832 rfl rfl rfl rfl rfl rfl ?_
  intro hk10
  refine x_aload_n (i := 0) (pc := 48) F dX8_init_48 rfl rfl ?_
  refine x_bipush (pc := 49) F dX8_init_49 (by decide) ?_
  refine kt_A (ti := 0) (36, 0, 0) (rvI 0) (pc := 51) F dX8_init_51 rfl (by decide) kw_139 (fun _ => rfl) (fun _ h => by cases h) (fun _ => rfl) hk10 (fun h => h.elim (hn (36, 0, 0) (by decide)) (by simp)) rfl rfl (by decide) (by omega) (by omega) ?_
  intro a11 e11 hk11
  rw [← e11 (30, 0, 0) (Or.inr (by simp))]
  refine kt_F (o := (30, 0, 0)) (k := 7) (r := rvO (36, 0, 0)) (by simp) hk11 rfl (fun o' e => by cases e; exact Or.inr (by simp)) rfl (pc := 53) F hin2 dX8_init_53 rfl inx8 tyX8 tyX8_ok nmX8 (by decide) kw_833 rfl rfl rfl rfl rfl rfl ?_
  intro hk12
  refine x_aload_n (i := 0) (pc := 56) F dX8_init_56 rfl rfl ?_
  refine x_bipush (pc := 57) F dX8_init_57 (by decide) ?_
  refine kt_A (ti := 0) (37, 0, 0) (rvI 0) (pc := 59) F dX8_init_59 rfl (by decide) kw_139 (fun _ => rfl) (fun _ h => by cases h) (fun _ => rfl) hk12 (fun h => h.elim (hn (37, 0, 0) (by decide)) (by simp)) rfl rfl (by decide) (by omega) (by omega) ?_
  intro a13 e13 hk13
  rw [← e13 (30, 0, 0) (Or.inr (by simp))]
  refine kt_F (o := (30, 0, 0)) (k := 9) (r := rvO (37, 0, 0)) (by simp) hk13 rfl (fun o' e => by cases e; exact Or.inr (by simp)) rfl (pc := 61) F hin2 dX8_init_61 rfl inx8 tyX8 tyX8_ok nmX8 (by decide) kw_835 rfl rfl rfl rfl rfl rfl ?_
  intro hk14
  refine x_aload_n (i := 0) (pc := 64) F dX8_init_64 rfl rfl ?_
  refine x_bipush (pc := 65) F dX8_init_65 (by decide) ?_
  refine kt_A (ti := 0) (38, 0, 0) (rvI 0) (pc := 67) F dX8_init_67 rfl (by decide) kw_139 (fun _ => rfl) (fun _ h => by cases h) (fun _ => rfl) hk14 (fun h => h.elim (hn (38, 0, 0) (by decide)) (by simp)) rfl rfl (by decide) (by omega) (by omega) ?_
  intro a15 e15 hk15
  rw [← e15 (30, 0, 0) (Or.inr (by simp))]
  refine kt_F (o := (30, 0, 0)) (k := 17) (r := rvO (38, 0, 0)) (by simp) hk15 rfl (fun o' e => by cases e; exact Or.inr (by simp)) rfl (pc := 69) F hin2 dX8_init_69 rfl inx8 tyX8 tyX8_ok nmX8 (by decide) kw_843 rfl rfl rfl rfl rfl rfl ?_
  intro hk16
  refine x_aload_n (i := 0) (pc := 72) F dX8_init_72 rfl rfl ?_
  refine x_bipush (pc := 73) F dX8_init_73 (by decide) ?_
  refine kt_A (ti := 3) (39, 0, 0) (rvI 0) (pc := 75) F dX8_init_75 rfl (by decide) kw_923 (fun _ => rfl) (fun _ h => by cases h) (fun _ => rfl) hk16 (fun h => h.elim (hn (39, 0, 0) (by decide)) (by simp)) rfl rfl (by decide) (by omega) (by omega) ?_
  intro a17 e17 hk17
  rw [← e17 (30, 0, 0) (Or.inr (by simp))]
  refine x_dup (pc := 77) F dX8_init_77 rfl ?_
  refine x_iconst (pc := 78) F dX8_init_78 ?_
  refine x_bipush (pc := 79) F dX8_init_79 (by decide) ?_
  refine kt_ca (o := (39, 0, 0)) (j := 0) (z := 112) (by simp) hk17 rfl (pc := 81) F dX8_init_81 rfl (by decide) rfl ?_
  intro hk18
  refine x_dup (pc := 82) F dX8_init_82 rfl ?_
  refine x_iconst (pc := 83) F dX8_init_83 ?_
  refine x_bipush (pc := 84) F dX8_init_84 (by decide) ?_
  refine kt_ca (o := (39, 0, 0)) (j := 1) (z := 107) (by simp) hk18 rfl (pc := 86) F dX8_init_86 rfl (by decide) rfl ?_
  intro hk19
  refine x_dup (pc := 87) F dX8_init_87 rfl ?_
  refine x_iconst (pc := 88) F dX8_init_88 ?_
  refine x_bipush (pc := 89) F dX8_init_89 (by decide) ?_
  refine kt_ca (o := (39, 0, 0)) (j := 2) (z := 118) (by simp) hk19 rfl (pc := 91) F dX8_init_91 rfl (by decide) rfl ?_
  intro hk20
  refine x_dup (pc := 92) F dX8_init_92 rfl ?_
  refine x_iconst (pc := 93) F dX8_init_93 ?_
  refine x_bipush (pc := 94) F dX8_init_94 (by decide) ?_
  refine kt_ca (o := (39, 0, 0)) (j := 3) (z := 103) (by simp) hk20 rfl (pc := 96) F dX8_init_96 rfl (by decide) rfl ?_
  intro hk21
  refine x_dup (pc := 97) F dX8_init_97 rfl ?_
  refine x_iconst (pc := 98) F dX8_init_98 ?_
  refine x_bipush (pc := 99) F dX8_init_99 (by decide) ?_
  refine kt_ca (o := (39, 0, 0)) (j := 4) (z := 116) (by simp) hk21 rfl (pc := 101) F dX8_init_101 rfl (by decide) rfl ?_
  intro hk22
  refine x_dup (pc := 102) F dX8_init_102 rfl ?_
  refine x_iconst (pc := 103) F dX8_init_103 ?_
  refine x_bipush (pc := 104) F dX8_init_104 (by decide) ?_
  refine kt_ca (o := (39, 0, 0)) (j := 5) (z := 100) (by simp) hk22 rfl (pc := 106) F dX8_init_106 rfl (by decide) rfl ?_
  intro hk23
  refine kt_F (o := (30, 0, 0)) (k := 18) (r := rvO (39, 0, 0)) (by simp) hk23 rfl (fun o' e => by cases e; exact Or.inr (by simp)) rfl (pc := 107) F hin2 dX8_init_107 rfl inx8 tyX8 tyX8_ok nmX8 (by decide) kw_844 rfl rfl rfl rfl rfl rfl ?_
  intro hk24
  refine x_aload_n (i := 0) (pc := 110) F dX8_init_110 rfl rfl ?_
  refine x_bipush (pc := 111) F dX8_init_111 (by decide) ?_
  refine kt_A (ti := 3) (40, 0, 0) (rvI 0) (pc := 113) F dX8_init_113 rfl (by decide) kw_923 (fun _ => rfl) (fun _ h => by cases h) (fun _ => rfl) hk24 (fun h => h.elim (hn (40, 0, 0) (by decide)) (by simp)) rfl rfl (by decide) (by omega) (by omega) ?_
  intro a25 e25 hk25
  rw [← e25 (30, 0, 0) (Or.inr (by simp))]
  refine x_dup (pc := 115) F dX8_init_115 rfl ?_
  refine x_iconst (pc := 116) F dX8_init_116 ?_
  refine x_bipush (pc := 117) F dX8_init_117 (by decide) ?_
  refine kt_ca (o := (40, 0, 0)) (j := 0) (z := 104) (by simp) hk25 rfl (pc := 119) F dX8_init_119 rfl (by decide) rfl ?_
  intro hk26
  refine x_dup (pc := 120) F dX8_init_120 rfl ?_
  refine x_iconst (pc := 121) F dX8_init_121 ?_
  refine x_bipush (pc := 122) F dX8_init_122 (by decide) ?_
  refine kt_ca (o := (40, 0, 0)) (j := 1) (z := 101) (by simp) hk26 rfl (pc := 124) F dX8_init_124 rfl (by decide) rfl ?_
  intro hk27
  refine x_dup (pc := 125) F dX8_init_125 rfl ?_
  refine x_iconst (pc := 126) F dX8_init_126 ?_
  refine x_bipush (pc := 127) F dX8_init_127 (by decide) ?_
  refine kt_ca (o := (40, 0, 0)) (j := 2) (z := 108) (by simp) hk27 rfl (pc := 129) F dX8_init_129 rfl (by decide) rfl ?_
  intro hk28
  refine x_dup (pc := 130) F dX8_init_130 rfl ?_
  refine x_iconst (pc := 131) F dX8_init_131 ?_
  refine x_bipush (pc := 132) F dX8_init_132 (by decide) ?_
  refine kt_ca (o := (40, 0, 0)) (j := 3) (z := 112) (by simp) hk28 rfl (pc := 134) F dX8_init_134 rfl (by decide) rfl ?_
  intro hk29
  refine x_dup (pc := 135) F dX8_init_135 rfl ?_
  refine x_iconst (pc := 136) F dX8_init_136 ?_
  refine x_iconst (pc := 137) F dX8_init_137 ?_
  refine kt_ca (o := (40, 0, 0)) (j := 4) (z := 0) (by simp) hk29 rfl (pc := 138) F dX8_init_138 rfl (by decide) rfl ?_
  intro hk30
  refine x_dup (pc := 139) F dX8_init_139 rfl ?_
  refine x_iconst (pc := 140) F dX8_init_140 ?_
  refine x_iconst (pc := 141) F dX8_init_141 ?_
  refine kt_ca (o := (40, 0, 0)) (j := 5) (z := 0) (by simp) hk30 rfl (pc := 142) F dX8_init_142 rfl (by decide) rfl ?_
  intro hk31
  refine x_dup (pc := 143) F dX8_init_143 rfl ?_
  refine x_bipush (pc := 144) F dX8_init_144 (by decide) ?_
  refine x_bipush (pc := 146) F dX8_init_146 (by decide) ?_
  refine kt_ca (o := (40, 0, 0)) (j := 6) (z := 104) (by simp) hk31 rfl (pc := 148) F dX8_init_148 rfl (by decide) rfl ?_
  intro hk32
  refine x_dup (pc := 149) F dX8_init_149 rfl ?_
  refine x_bipush (pc := 150) F dX8_init_150 (by decide) ?_
  refine x_bipush (pc := 152) F dX8_init_152 (by decide) ?_
  refine kt_ca (o := (40, 0, 0)) (j := 7) (z := 105) (by simp) hk32 rfl (pc := 154) F dX8_init_154 rfl (by decide) rfl ?_
  intro hk33
  refine x_dup (pc := 155) F dX8_init_155 rfl ?_
  refine x_bipush (pc := 156) F dX8_init_156 (by decide) ?_
  refine x_bipush (pc := 158) F dX8_init_158 (by decide) ?_
  refine kt_ca (o := (40, 0, 0)) (j := 8) (z := 110) (by simp) hk33 rfl (pc := 160) F dX8_init_160 rfl (by decide) rfl ?_
  intro hk34
  refine x_dup (pc := 161) F dX8_init_161 rfl ?_
  refine x_bipush (pc := 162) F dX8_init_162 (by decide) ?_
  refine x_bipush (pc := 164) F dX8_init_164 (by decide) ?_
  refine kt_ca (o := (40, 0, 0)) (j := 9) (z := 100) (by simp) hk34 rfl (pc := 166) F dX8_init_166 rfl (by decide) rfl ?_
  intro hk35
  refine x_dup (pc := 167) F dX8_init_167 rfl ?_
  refine x_bipush (pc := 168) F dX8_init_168 (by decide) ?_
  refine x_bipush (pc := 170) F dX8_init_170 (by decide) ?_
  refine kt_ca (o := (40, 0, 0)) (j := 10) (z := 101) (by simp) hk35 rfl (pc := 172) F dX8_init_172 rfl (by decide) rfl ?_
  intro hk36
  refine x_dup (pc := 173) F dX8_init_173 rfl ?_
  refine x_bipush (pc := 174) F dX8_init_174 (by decide) ?_
  refine x_bipush (pc := 176) F dX8_init_176 (by decide) ?_
  refine kt_ca (o := (40, 0, 0)) (j := 11) (z := 114) (by simp) hk36 rfl (pc := 178) F dX8_init_178 rfl (by decide) rfl ?_
  intro hk37
  refine x_dup (pc := 179) F dX8_init_179 rfl ?_
  refine x_bipush (pc := 180) F dX8_init_180 (by decide) ?_
  refine x_bipush (pc := 182) F dX8_init_182 (by decide) ?_
  refine kt_ca (o := (40, 0, 0)) (j := 12) (z := 110) (by simp) hk37 rfl (pc := 184) F dX8_init_184 rfl (by decide) rfl ?_
  intro hk38
  refine x_dup (pc := 185) F dX8_init_185 rfl ?_
  refine x_bipush (pc := 186) F dX8_init_186 (by decide) ?_
  refine x_bipush (pc := 188) F dX8_init_188 (by decide) ?_
  refine kt_ca (o := (40, 0, 0)) (j := 13) (z := 101) (by simp) hk38 rfl (pc := 190) F dX8_init_190 rfl (by decide) rfl ?_
  intro hk39
  refine x_dup (pc := 191) F dX8_init_191 rfl ?_
  refine x_bipush (pc := 192) F dX8_init_192 (by decide) ?_
  refine x_bipush (pc := 194) F dX8_init_194 (by decide) ?_
  refine kt_ca (o := (40, 0, 0)) (j := 14) (z := 101) (by simp) hk39 rfl (pc := 196) F dX8_init_196 rfl (by decide) rfl ?_
  intro hk40
  refine x_dup (pc := 197) F dX8_init_197 rfl ?_
  refine x_bipush (pc := 198) F dX8_init_198 (by decide) ?_
  refine x_bipush (pc := 200) F dX8_init_200 (by decide) ?_
  refine kt_ca (o := (40, 0, 0)) (j := 15) (z := 100) (by simp) hk40 rfl (pc := 202) F dX8_init_202 rfl (by decide) rfl ?_
  intro hk41
  refine x_dup (pc := 203) F dX8_init_203 rfl ?_
  refine x_bipush (pc := 204) F dX8_init_204 (by decide) ?_
  refine x_iconst (pc := 206) F dX8_init_206 ?_
  refine kt_ca (o := (40, 0, 0)) (j := 16) (z := 0) (by simp) hk41 rfl (pc := 207) F dX8_init_207 rfl (by decide) rfl ?_
  intro hk42
  refine x_dup (pc := 208) F dX8_init_208 rfl ?_
  refine x_bipush (pc := 209) F dX8_init_209 (by decide) ?_
  refine x_iconst (pc := 211) F dX8_init_211 ?_
  refine kt_ca (o := (40, 0, 0)) (j := 17) (z := 0) (by simp) hk42 rfl (pc := 212) F dX8_init_212 rfl (by decide) rfl ?_
  intro hk43
  refine x_dup (pc := 213) F dX8_init_213 rfl ?_
  refine x_bipush (pc := 214) F dX8_init_214 (by decide) ?_
  refine x_bipush (pc := 216) F dX8_init_216 (by decide) ?_
  refine kt_ca (o := (40, 0, 0)) (j := 18) (z := 97) (by simp) hk43 rfl (pc := 218) F dX8_init_218 rfl (by decide) rfl ?_
  intro hk44
  refine x_dup (pc := 219) F dX8_init_219 rfl ?_
  refine x_bipush (pc := 220) F dX8_init_220 (by decide) ?_
  refine x_bipush (pc := 222) F dX8_init_222 (by decide) ?_
  refine kt_ca (o := (40, 0, 0)) (j := 19) (z := 103) (by simp) hk44 rfl (pc := 224) F dX8_init_224 rfl (by decide) rfl ?_
  intro hk45
  refine x_dup (pc := 225) F dX8_init_225 rfl ?_
  refine x_bipush (pc := 226) F dX8_init_226 (by decide) ?_
  refine x_bipush (pc := 228) F dX8_init_228 (by decide) ?_
  refine kt_ca (o := (40, 0, 0)) (j := 20) (z := 101) (by simp) hk45 rfl (pc := 230) F dX8_init_230 rfl (by decide) rfl ?_
  intro hk46
  refine x_dup (pc := 231) F dX8_init_231 rfl ?_
  refine x_bipush (pc := 232) F dX8_init_232 (by decide) ?_
  refine x_iconst (pc := 234) F dX8_init_234 ?_
  refine kt_ca (o := (40, 0, 0)) (j := 21) (z := 0) (by simp) hk46 rfl (pc := 235) F dX8_init_235 rfl (by decide) rfl ?_
  intro hk47
  refine x_dup (pc := 236) F dX8_init_236 rfl ?_
  refine x_bipush (pc := 237) F dX8_init_237 (by decide) ?_
  refine x_iconst (pc := 239) F dX8_init_239 ?_
  refine kt_ca (o := (40, 0, 0)) (j := 22) (z := 0) (by simp) hk47 rfl (pc := 240) F dX8_init_240 rfl (by decide) rfl ?_
  intro hk48
  refine x_dup (pc := 241) F dX8_init_241 rfl ?_
  refine x_bipush (pc := 242) F dX8_init_242 (by decide) ?_
  refine x_iconst (pc := 244) F dX8_init_244 ?_
  refine kt_ca (o := (40, 0, 0)) (j := 23) (z := 0) (by simp) hk48 rfl (pc := 245) F dX8_init_245 rfl (by decide) rfl ?_
  intro hk49
  refine kt_F (o := (30, 0, 0)) (k := 19) (r := rvO (40, 0, 0)) (by simp) hk49 rfl (fun o' e => by cases e; exact Or.inr (by simp)) rfl (pc := 246) F hin2 dX8_init_246 rfl inx8 tyX8 tyX8_ok nmX8 (by decide) kw_845 rfl rfl rfl rfl rfl rfl ?_
  intro hk50
  refine x_aload_n (i := 0) (pc := 249) F dX8_init_249 rfl rfl ?_
  refine x_iconst (pc := 250) F dX8_init_250 ?_
  refine kt_A (ti := 0) (41, 0, 0) (rvI 0) (pc := 251) F dX8_init_251 rfl (by decide) kw_139 (fun _ => rfl) (fun _ h => by cases h) (fun _ => rfl) hk50 (fun h => h.elim (hn (41, 0, 0) (by decide)) (by simp)) rfl rfl (by decide) (by omega) (by omega) ?_
  intro a51 e51 hk51
  rw [← e51 (30, 0, 0) (Or.inr (by simp))]
  refine kt_F (o := (30, 0, 0)) (k := 20) (r := rvO (41, 0, 0)) (by simp) hk51 rfl (fun o' e => by cases e; exact Or.inr (by simp)) rfl (pc := 253) F hin2 dX8_init_253 rfl inx8 tyX8 tyX8_ok nmX8 (by decide) kw_846 rfl rfl rfl rfl rfl rfl ?_
  intro hk52
  refine x_aload_n (i := 0) (pc := 256) F dX8_init_256 rfl rfl ?_
  refine x_iconst (pc := 257) F dX8_init_257 ?_
  refine kt_A (ti := 0) (42, 0, 0) (rvI 0) (pc := 258) F dX8_init_258 rfl (by decide) kw_139 (fun _ => rfl) (fun _ h => by cases h) (fun _ => rfl) hk52 (fun h => h.elim (hn (42, 0, 0) (by decide)) (by simp)) rfl rfl (by decide) (by omega) (by omega) ?_
  intro a53 e53 hk53
  rw [← e53 (30, 0, 0) (Or.inr (by simp))]
  refine kt_F (o := (30, 0, 0)) (k := 21) (r := rvO (42, 0, 0)) (by simp) hk53 rfl (fun o' e => by cases e; exact Or.inr (by simp)) rfl (pc := 260) F hin2 dX8_init_260 rfl inx8 tyX8 tyX8_ok nmX8 (by decide) kw_847 rfl rfl rfl rfl rfl rfl ?_
  intro hk54
  refine x_aload_n (i := 0) (pc := 263) F dX8_init_263 rfl rfl ?_
  refine x_bipush (pc := 264) F dX8_init_264 (by decide) ?_
  refine kt_A (ti := 0) (43, 0, 0) (rvI 0) (pc := 266) F dX8_init_266 rfl (by decide) kw_139 (fun _ => rfl) (fun _ h => by cases h) (fun _ => rfl) hk54 (fun h => h.elim (hn (43, 0, 0) (by decide)) (by simp)) rfl rfl (by decide) (by omega) (by omega) ?_
  intro a55 e55 hk55
  rw [← e55 (30, 0, 0) (Or.inr (by simp))]
  refine kt_F (o := (30, 0, 0)) (k := 23) (r := rvO (43, 0, 0)) (by simp) hk55 rfl (fun o' e => by cases e; exact Or.inr (by simp)) rfl (pc := 268) F hin2 dX8_init_268 rfl inx8 tyX8 tyX8_ok nmX8 (by decide) kw_849 rfl rfl rfl rfl rfl rfl ?_
  intro hk56
  refine x_aload_n (i := 0) (pc := 271) F dX8_init_271 rfl rfl ?_
  refine x_bipush (pc := 272) F dX8_init_272 (by decide) ?_
  refine kt_A (ti := 0) (44, 0, 0) (rvI 0) (pc := 274) F dX8_init_274 rfl (by decide) kw_139 (fun _ => rfl) (fun _ h => by cases h) (fun _ => rfl) hk56 (fun h => h.elim (hn (44, 0, 0) (by decide)) (by simp)) rfl rfl (by decide) (by omega) (by omega) ?_
  intro a57 e57 hk57
  rw [← e57 (30, 0, 0) (Or.inr (by simp))]
  refine x_dup (pc := 276) F dX8_init_276 rfl ?_
  refine x_iconst (pc := 277) F dX8_init_277 ?_
  refine x_iconst (pc := 278) F dX8_init_278 ?_
  refine kt_ia (o := (44, 0, 0)) (j := 0) (z := -1) (by simp) hk57 rfl (pc := 279) F dX8_init_279 rfl (by decide) ?_
  intro hk58
  refine x_dup (pc := 280) F dX8_init_280 rfl ?_
  refine x_iconst (pc := 281) F dX8_init_281 ?_
  refine x_iconst (pc := 282) F dX8_init_282 ?_
  refine kt_ia (o := (44, 0, 0)) (j := 1) (z := 0) (by simp) hk58 rfl (pc := 283) F dX8_init_283 rfl (by decide) ?_
  intro hk59
  refine x_dup (pc := 284) F dX8_init_284 rfl ?_
  refine x_iconst (pc := 285) F dX8_init_285 ?_
  refine x_iconst (pc := 286) F dX8_init_286 ?_
  refine kt_ia (o := (44, 0, 0)) (j := 2) (z := 0) (by simp) hk59 rfl (pc := 287) F dX8_init_287 rfl (by decide) ?_
  intro hk60
  refine x_dup (pc := 288) F dX8_init_288 rfl ?_
  refine x_iconst (pc := 289) F dX8_init_289 ?_
  refine x_iconst (pc := 290) F dX8_init_290 ?_
  refine kt_ia (o := (44, 0, 0)) (j := 3) (z := 0) (by simp) hk60 rfl (pc := 291) F dX8_init_291 rfl (by decide) ?_
  intro hk61
  refine x_dup (pc := 292) F dX8_init_292 rfl ?_
  refine x_iconst (pc := 293) F dX8_init_293 ?_
  refine x_iconst (pc := 294) F dX8_init_294 ?_
  refine kt_ia (o := (44, 0, 0)) (j := 4) (z := 1) (by simp) hk61 rfl (pc := 295) F dX8_init_295 rfl (by decide) ?_
  intro hk62
  refine x_dup (pc := 296) F dX8_init_296 rfl ?_
  refine x_iconst (pc := 297) F dX8_init_297 ?_
  refine x_iconst (pc := 298) F dX8_init_298 ?_
  refine kt_ia (o := (44, 0, 0)) (j := 5) (z := 2) (by simp) hk62 rfl (pc := 299) F dX8_init_299 rfl (by decide) ?_
  intro hk63
  refine x_dup (pc := 300) F dX8_init_300 rfl ?_
  refine x_bipush (pc := 301) F dX8_init_301 (by decide) ?_
  refine x_iconst (pc := 303) F dX8_init_303 ?_
  refine kt_ia (o := (44, 0, 0)) (j := 6) (z := 3) (by simp) hk63 rfl (pc := 304) F dX8_init_304 rfl (by decide) ?_
  intro hk64
  refine kt_F (o := (30, 0, 0)) (k := 24) (r := rvO (44, 0, 0)) (by simp) hk64 rfl (fun o' e => by cases e; exact Or.inr (by simp)) rfl (pc := 305) F hin2 dX8_init_305 rfl inx8 tyX8 tyX8_ok nmX8 (by decide) kw_850 rfl rfl rfl rfl rfl rfl ?_
  intro hk65
  refine x_aload_n (i := 0) (pc := 308) F dX8_init_308 rfl rfl ?_
  refine x_bipush (pc := 309) F dX8_init_309 (by decide) ?_
  refine kt_A (ti := 0) (45, 0, 0) (rvI 0) (pc := 311) F dX8_init_311 rfl (by decide) kw_139 (fun _ => rfl) (fun _ h => by cases h) (fun _ => rfl) hk65 (fun h => h.elim (hn (45, 0, 0) (by decide)) (by simp)) rfl rfl (by decide) (by omega) (by omega) ?_
  intro a66 e66 hk66
  rw [← e66 (30, 0, 0) (Or.inr (by simp))]
  refine x_dup (pc := 313) F dX8_init_313 rfl ?_
  refine x_iconst (pc := 314) F dX8_init_314 ?_
  refine x_bipush (pc := 315) F dX8_init_315 (by decide) ?_
  refine kt_ia (o := (45, 0, 0)) (j := 0) (z := 10) (by simp) hk66 rfl (pc := 317) F dX8_init_317 rfl (by decide) ?_
  intro hk67
  refine x_dup (pc := 318) F dX8_init_318 rfl ?_
  refine x_iconst (pc := 319) F dX8_init_319 ?_
  refine x_bipush (pc := 320) F dX8_init_320 (by decide) ?_
  refine kt_ia (o := (45, 0, 0)) (j := 1) (z := 11) (by simp) hk67 rfl (pc := 322) F dX8_init_322 rfl (by decide) ?_
  intro hk68
  refine x_dup (pc := 323) F dX8_init_323 rfl ?_
  refine x_iconst (pc := 324) F dX8_init_324 ?_
  refine x_bipush (pc := 325) F dX8_init_325 (by decide) ?_
  refine kt_ia (o := (45, 0, 0)) (j := 2) (z := 12) (by simp) hk68 rfl (pc := 327) F dX8_init_327 rfl (by decide) ?_
  intro hk69
  refine x_dup (pc := 328) F dX8_init_328 rfl ?_
  refine x_iconst (pc := 329) F dX8_init_329 ?_
  refine x_iconst (pc := 330) F dX8_init_330 ?_
  refine kt_ia (o := (45, 0, 0)) (j := 3) (z := 0) (by simp) hk69 rfl (pc := 331) F dX8_init_331 rfl (by decide) ?_
  intro hk70
  refine x_dup (pc := 332) F dX8_init_332 rfl ?_
  refine x_iconst (pc := 333) F dX8_init_333 ?_
  refine x_bipush (pc := 334) F dX8_init_334 (by decide) ?_
  refine kt_ia (o := (45, 0, 0)) (j := 4) (z := 20) (by simp) hk70 rfl (pc := 336) F dX8_init_336 rfl (by decide) ?_
  intro hk71
  refine x_dup (pc := 337) F dX8_init_337 rfl ?_
  refine x_iconst (pc := 338) F dX8_init_338 ?_
  refine x_iconst (pc := 339) F dX8_init_339 ?_
  refine kt_ia (o := (45, 0, 0)) (j := 5) (z := 0) (by simp) hk71 rfl (pc := 340) F dX8_init_340 rfl (by decide) ?_
  intro hk72
  refine x_dup (pc := 341) F dX8_init_341 rfl ?_
  refine x_bipush (pc := 342) F dX8_init_342 (by decide) ?_
  refine x_bipush (pc := 344) F dX8_init_344 (by decide) ?_
  refine kt_ia (o := (45, 0, 0)) (j := 6) (z := 30) (by simp) hk72 rfl (pc := 346) F dX8_init_346 rfl (by decide) ?_
  intro hk73
  refine x_dup (pc := 347) F dX8_init_347 rfl ?_
  refine x_bipush (pc := 348) F dX8_init_348 (by decide) ?_
  refine x_iconst (pc := 350) F dX8_init_350 ?_
  refine kt_ia (o := (45, 0, 0)) (j := 7) (z := 0) (by simp) hk73 rfl (pc := 351) F dX8_init_351 rfl (by decide) ?_
  intro hk74
  refine x_dup (pc := 352) F dX8_init_352 rfl ?_
  refine x_bipush (pc := 353) F dX8_init_353 (by decide) ?_
  refine x_iconst (pc := 355) F dX8_init_355 ?_
  refine kt_ia (o := (45, 0, 0)) (j := 8) (z := 0) (by simp) hk74 rfl (pc := 356) F dX8_init_356 rfl (by decide) ?_
  intro hk75
  refine x_dup (pc := 357) F dX8_init_357 rfl ?_
  refine x_bipush (pc := 358) F dX8_init_358 (by decide) ?_
  refine x_iconst (pc := 360) F dX8_init_360 ?_
  refine kt_ia (o := (45, 0, 0)) (j := 9) (z := 0) (by simp) hk75 rfl (pc := 361) F dX8_init_361 rfl (by decide) ?_
  intro hk76
  refine x_dup (pc := 362) F dX8_init_362 rfl ?_
  refine x_bipush (pc := 363) F dX8_init_363 (by decide) ?_
  refine x_iconst (pc := 365) F dX8_init_365 ?_
  refine kt_ia (o := (45, 0, 0)) (j := 10) (z := 0) (by simp) hk76 rfl (pc := 366) F dX8_init_366 rfl (by decide) ?_
  intro hk77
  refine x_dup (pc := 367) F dX8_init_367 rfl ?_
  refine x_bipush (pc := 368) F dX8_init_368 (by decide) ?_
  refine x_bipush (pc := 370) F dX8_init_370 (by decide) ?_
  refine kt_ia (o := (45, 0, 0)) (j := 11) (z := 40) (by simp) hk77 rfl (pc := 372) F dX8_init_372 rfl (by decide) ?_
  intro hk78
  refine x_dup (pc := 373) F dX8_init_373 rfl ?_
  refine x_bipush (pc := 374) F dX8_init_374 (by decide) ?_
  refine x_bipush (pc := 376) F dX8_init_376 (by decide) ?_
  refine kt_ia (o := (45, 0, 0)) (j := 12) (z := 50) (by simp) hk78 rfl (pc := 378) F dX8_init_378 rfl (by decide) ?_
  intro hk79
  refine x_dup (pc := 379) F dX8_init_379 rfl ?_
  refine x_bipush (pc := 380) F dX8_init_380 (by decide) ?_
  refine x_bipush (pc := 382) F dX8_init_382 (by decide) ?_
  refine kt_ia (o := (45, 0, 0)) (j := 13) (z := 51) (by simp) hk79 rfl (pc := 384) F dX8_init_384 rfl (by decide) ?_
  intro hk80
  refine x_dup (pc := 385) F dX8_init_385 rfl ?_
  refine x_bipush (pc := 386) F dX8_init_386 (by decide) ?_
  refine x_iconst (pc := 388) F dX8_init_388 ?_
  refine kt_ia (o := (45, 0, 0)) (j := 14) (z := 0) (by simp) hk80 rfl (pc := 389) F dX8_init_389 rfl (by decide) ?_
  intro hk81
  refine x_dup (pc := 390) F dX8_init_390 rfl ?_
  refine x_bipush (pc := 391) F dX8_init_391 (by decide) ?_
  refine x_iconst (pc := 393) F dX8_init_393 ?_
  refine kt_ia (o := (45, 0, 0)) (j := 15) (z := 0) (by simp) hk81 rfl (pc := 394) F dX8_init_394 rfl (by decide) ?_
  intro hk82
  refine x_dup (pc := 395) F dX8_init_395 rfl ?_
  refine x_bipush (pc := 396) F dX8_init_396 (by decide) ?_
  refine x_iconst (pc := 398) F dX8_init_398 ?_
  refine kt_ia (o := (45, 0, 0)) (j := 16) (z := 0) (by simp) hk82 rfl (pc := 399) F dX8_init_399 rfl (by decide) ?_
  intro hk83
  refine x_dup (pc := 400) F dX8_init_400 rfl ?_
  refine x_bipush (pc := 401) F dX8_init_401 (by decide) ?_
  refine x_bipush (pc := 403) F dX8_init_403 (by decide) ?_
  refine kt_ia (o := (45, 0, 0)) (j := 17) (z := 60) (by simp) hk83 rfl (pc := 405) F dX8_init_405 rfl (by decide) ?_
  intro hk84
  refine x_dup (pc := 406) F dX8_init_406 rfl ?_
  refine x_bipush (pc := 407) F dX8_init_407 (by decide) ?_
  refine x_bipush (pc := 409) F dX8_init_409 (by decide) ?_
  refine kt_ia (o := (45, 0, 0)) (j := 18) (z := 71) (by simp) hk84 rfl (pc := 411) F dX8_init_411 rfl (by decide) ?_
  intro hk85
  refine x_dup (pc := 412) F dX8_init_412 rfl ?_
  refine x_bipush (pc := 413) F dX8_init_413 (by decide) ?_
  refine x_bipush (pc := 415) F dX8_init_415 (by decide) ?_
  refine kt_ia (o := (45, 0, 0)) (j := 19) (z := 70) (by simp) hk85 rfl (pc := 417) F dX8_init_417 rfl (by decide) ?_
  intro hk86
  refine x_dup (pc := 418) F dX8_init_418 rfl ?_
  refine x_bipush (pc := 419) F dX8_init_419 (by decide) ?_
  refine x_iconst (pc := 421) F dX8_init_421 ?_
  refine kt_ia (o := (45, 0, 0)) (j := 20) (z := 0) (by simp) hk86 rfl (pc := 422) F dX8_init_422 rfl (by decide) ?_
  intro hk87
  refine kt_F (o := (30, 0, 0)) (k := 25) (r := rvO (45, 0, 0)) (by simp) hk87 rfl (fun o' e => by cases e; exact Or.inr (by simp)) rfl (pc := 423) F hin2 dX8_init_423 rfl inx8 tyX8 tyX8_ok nmX8 (by decide) kw_851 rfl rfl rfl rfl rfl rfl ?_
  intro hk88
  refine x_aload_n (i := 0) (pc := 426) F dX8_init_426 rfl rfl ?_
  refine x_bipush (pc := 427) F dX8_init_427 (by decide) ?_
  refine kt_A (ti := 0) (46, 0, 0) (rvI 0) (pc := 429) F dX8_init_429 rfl (by decide) kw_139 (fun _ => rfl) (fun _ h => by cases h) (fun _ => rfl) hk88 (fun h => h.elim (hn (46, 0, 0) (by decide)) (by simp)) rfl rfl (by decide) (by omega) (by omega) ?_
  intro a89 e89 hk89
  rw [← e89 (30, 0, 0) (Or.inr (by simp))]
  refine kt_F (o := (30, 0, 0)) (k := 26) (r := rvO (46, 0, 0)) (by simp) hk89 rfl (fun o' e => by cases e; exact Or.inr (by simp)) rfl (pc := 431) F hin2 dX8_init_431 rfl inx8 tyX8 tyX8_ok nmX8 (by decide) kw_852 rfl rfl rfl rfl rfl rfl ?_
  intro hk90
  refine x_aload_n (i := 0) (pc := 434) F dX8_init_434 rfl rfl ?_
  refine x_bipush (pc := 435) F dX8_init_435 (by decide) ?_
  refine kt_A (ti := 0) (47, 0, 0) (rvI 0) (pc := 437) F dX8_init_437 rfl (by decide) kw_139 (fun _ => rfl) (fun _ h => by cases h) (fun _ => rfl) hk90 (fun h => h.elim (hn (47, 0, 0) (by decide)) (by simp)) rfl rfl (by decide) (by omega) (by omega) ?_
  intro a91 e91 hk91
  rw [← e91 (30, 0, 0) (Or.inr (by simp))]
  refine x_dup (pc := 439) F dX8_init_439 rfl ?_
  refine x_iconst (pc := 440) F dX8_init_440 ?_
  refine x_iconst (pc := 441) F dX8_init_441 ?_
  refine kt_ia (o := (47, 0, 0)) (j := 0) (z := -1) (by simp) hk91 rfl (pc := 442) F dX8_init_442 rfl (by decide) ?_
  intro hk92
  refine x_dup (pc := 443) F dX8_init_443 rfl ?_
  refine x_iconst (pc := 444) F dX8_init_444 ?_
  refine x_iconst (pc := 445) F dX8_init_445 ?_
  refine kt_ia (o := (47, 0, 0)) (j := 1) (z := -1) (by simp) hk92 rfl (pc := 446) F dX8_init_446 rfl (by decide) ?_
  intro hk93
  refine x_dup (pc := 447) F dX8_init_447 rfl ?_
  refine x_iconst (pc := 448) F dX8_init_448 ?_
  refine x_iconst (pc := 449) F dX8_init_449 ?_
  refine kt_ia (o := (47, 0, 0)) (j := 2) (z := -1) (by simp) hk93 rfl (pc := 450) F dX8_init_450 rfl (by decide) ?_
  intro hk94
  refine x_dup (pc := 451) F dX8_init_451 rfl ?_
  refine x_iconst (pc := 452) F dX8_init_452 ?_
  refine x_iconst (pc := 453) F dX8_init_453 ?_
  refine kt_ia (o := (47, 0, 0)) (j := 3) (z := -1) (by simp) hk94 rfl (pc := 454) F dX8_init_454 rfl (by decide) ?_
  intro hk95
  refine x_dup (pc := 455) F dX8_init_455 rfl ?_
  refine x_iconst (pc := 456) F dX8_init_456 ?_
  refine x_iconst (pc := 457) F dX8_init_457 ?_
  refine kt_ia (o := (47, 0, 0)) (j := 4) (z := -1) (by simp) hk95 rfl (pc := 458) F dX8_init_458 rfl (by decide) ?_
  intro hk96
  refine x_dup (pc := 459) F dX8_init_459 rfl ?_
  refine x_iconst (pc := 460) F dX8_init_460 ?_
  refine x_iconst (pc := 461) F dX8_init_461 ?_
  refine kt_ia (o := (47, 0, 0)) (j := 5) (z := -1) (by simp) hk96 rfl (pc := 462) F dX8_init_462 rfl (by decide) ?_
  intro hk97
  refine kt_F (o := (30, 0, 0)) (k := 28) (r := rvO (47, 0, 0)) (by simp) hk97 rfl (fun o' e => by cases e; exact Or.inr (by simp)) rfl (pc := 463) F hin2 dX8_init_463 rfl inx8 tyX8 tyX8_ok nmX8 (by decide) kw_854 rfl rfl rfl rfl rfl rfl ?_
  intro hk98
  refine x_aload_n (i := 0) (pc := 466) F dX8_init_466 rfl rfl ?_
  refine x_bipush (pc := 467) F dX8_init_467 (by decide) ?_
  refine kt_A (ti := 0) (48, 0, 0) (rvI 0) (pc := 469) F dX8_init_469 rfl (by decide) kw_139 (fun _ => rfl) (fun _ h => by cases h) (fun _ => rfl) hk98 (fun h => h.elim (hn (48, 0, 0) (by decide)) (by simp)) rfl rfl (by decide) (by omega) (by omega) ?_
  intro a99 e99 hk99
  rw [← e99 (30, 0, 0) (Or.inr (by simp))]
  refine kt_F (o := (30, 0, 0)) (k := 29) (r := rvO (48, 0, 0)) (by simp) hk99 rfl (fun o' e => by cases e; exact Or.inr (by simp)) rfl (pc := 471) F hin2 dX8_init_471 rfl inx8 tyX8 tyX8_ok nmX8 (by decide) kw_855 rfl rfl rfl rfl rfl rfl ?_
  intro hk100
  refine x_aload_n (i := 0) (pc := 474) F dX8_init_474 rfl rfl ?_
  refine x_sipush (pc := 475) F dX8_init_475 (by decide) ?_
  refine kt_A (ti := 1) (49, 0, 0) (rvJ 0) (pc := 478) F dX8_init_478 rfl (by decide) kw_306 (fun _ => rfl) (fun _ h => by cases h) (fun _ => rfl) hk100 (fun h => h.elim (hn (49, 0, 0) (by decide)) (by simp)) rfl rfl (by decide) (by omega) (by omega) ?_
  intro a101 e101 hk101
  rw [← e101 (30, 0, 0) (Or.inr (by simp))]
  refine kt_F (o := (30, 0, 0)) (k := 30) (r := rvO (49, 0, 0)) (by simp) hk101 rfl (fun o' e => by cases e; exact Or.inr (by simp)) rfl (pc := 480) F hin2 dX8_init_480 rfl inx8 tyX8 tyX8_ok nmX8 (by decide) kw_856 rfl rfl rfl rfl rfl rfl ?_
  intro hk102
  refine x_aload_n (i := 0) (pc := 483) F dX8_init_483 rfl rfl ?_
  refine x_bipush (pc := 484) F dX8_init_484 (by decide) ?_
  refine kt_A (ti := 1) (50, 0, 0) (rvJ 0) (pc := 486) F dX8_init_486 rfl (by decide) kw_306 (fun _ => rfl) (fun _ h => by cases h) (fun _ => rfl) hk102 (fun h => h.elim (hn (50, 0, 0) (by decide)) (by simp)) rfl rfl (by decide) (by omega) (by omega) ?_
  intro a103 e103 hk103
  rw [← e103 (30, 0, 0) (Or.inr (by simp))]
  refine kt_F (o := (30, 0, 0)) (k := 31) (r := rvO (50, 0, 0)) (by simp) hk103 rfl (fun o' e => by cases e; exact Or.inr (by simp)) rfl (pc := 488) F hin2 dX8_init_488 rfl inx8 tyX8 tyX8_ok nmX8 (by decide) kw_857 rfl rfl rfl rfl rfl rfl ?_
  intro hk104
  refine kt_R (pc := 491) F dX8_init_491 ho (fun o => by simp only [NM2, or_assoc]) (fun o hM k hk hd => ?_) (fun o ho => by rw [e103 o (Or.inl ho), e101 o (Or.inl ho), e99 o (Or.inl ho), e91 o (Or.inl ho), e89 o (Or.inl ho), e66 o (Or.inl ho), e57 o (Or.inl ho), e55 o (Or.inl ho), e53 o (Or.inl ho), e51 o (Or.inl ho), e25 o (Or.inl ho), e17 o (Or.inl ho), e15 o (Or.inl ho), e13 o (Or.inl ho), e11 o (Or.inl ho), e9 o (Or.inl ho), e7 o (Or.inl ho), e5 o (Or.inl ho), e3 o (Or.inl ho), e1 o (Or.inl ho)]) hk104 (by omega) (by omega)
  simp only [or_assoc] at hM
  rcases hM with rfl | rfl | rfl | rfl | rfl | rfl | rfl | rfl | rfl | rfl | rfl | rfl | rfl | rfl | rfl | rfl | rfl | rfl | rfl | rfl | rfl
  · have hk : k < 32 := hk
    rcases (show k = 0 ∨ k = 1 ∨ k = 2 ∨ k = 3 ∨ k = 4 ∨ k = 5 ∨ k = 6 ∨ k = 7 ∨ k = 8 ∨ k = 9 ∨ k = 10 ∨ k = 11 ∨ k = 12 ∨ k = 13 ∨ k = 14 ∨ k = 15 ∨ k = 16 ∨ k = 17 ∨ k = 18 ∨ k = 19 ∨ k = 20 ∨ k = 21 ∨ k = 22 ∨ k = 23 ∨ k = 24 ∨ k = 25 ∨ k = 26 ∨ k = 27 ∨ k = 28 ∨ k = 29 ∨ k = 30 ∨ k = 31 by omega) with rfl | rfl | rfl | rfl | rfl | rfl | rfl | rfl | rfl | rfl | rfl | rfl | rfl | rfl | rfl | rfl | rfl | rfl | rfl | rfl | rfl | rfl | rfl | rfl | rfl | rfl | rfl | rfl | rfl | rfl | rfl | rfl <;> first | rfl | exact absurd (by simp) hd
  · rfl
  · rfl
  · rfl
  · rfl
  · rfl
  · rfl
  · rfl
  · rfl
  · have hk : k < 6 := hk
    rcases (show k = 0 ∨ k = 1 ∨ k = 2 ∨ k = 3 ∨ k = 4 ∨ k = 5 by omega) with rfl | rfl | rfl | rfl | rfl | rfl <;> exact absurd (by simp) hd
  · have hk : k < 24 := hk
    rcases (show k = 0 ∨ k = 1 ∨ k = 2 ∨ k = 3 ∨ k = 4 ∨ k = 5 ∨ k = 6 ∨ k = 7 ∨ k = 8 ∨ k = 9 ∨ k = 10 ∨ k = 11 ∨ k = 12 ∨ k = 13 ∨ k = 14 ∨ k = 15 ∨ k = 16 ∨ k = 17 ∨ k = 18 ∨ k = 19 ∨ k = 20 ∨ k = 21 ∨ k = 22 ∨ k = 23 by omega) with rfl | rfl | rfl | rfl | rfl | rfl | rfl | rfl | rfl | rfl | rfl | rfl | rfl | rfl | rfl | rfl | rfl | rfl | rfl | rfl | rfl | rfl | rfl | rfl <;> exact absurd (by simp) hd
  · rfl
  · rfl
  · rfl
  · have hk : k < 7 := hk
    rcases (show k = 0 ∨ k = 1 ∨ k = 2 ∨ k = 3 ∨ k = 4 ∨ k = 5 ∨ k = 6 by omega) with rfl | rfl | rfl | rfl | rfl | rfl | rfl <;> exact absurd (by simp) hd
  · have hk : k < 21 := hk
    rcases (show k = 0 ∨ k = 1 ∨ k = 2 ∨ k = 3 ∨ k = 4 ∨ k = 5 ∨ k = 6 ∨ k = 7 ∨ k = 8 ∨ k = 9 ∨ k = 10 ∨ k = 11 ∨ k = 12 ∨ k = 13 ∨ k = 14 ∨ k = 15 ∨ k = 16 ∨ k = 17 ∨ k = 18 ∨ k = 19 ∨ k = 20 by omega) with rfl | rfl | rfl | rfl | rfl | rfl | rfl | rfl | rfl | rfl | rfl | rfl | rfl | rfl | rfl | rfl | rfl | rfl | rfl | rfl | rfl <;> exact absurd (by simp) hd
  · rfl
  · have hk : k < 6 := hk
    rcases (show k = 0 ∨ k = 1 ∨ k = 2 ∨ k = 3 ∨ k = 4 ∨ k = 5 by omega) with rfl | rfl | rfl | rfl | rfl | rfl <;> exact absurd (by simp) hd
  · rfl
  · rfl
  · rfl
