/-! ===== the reference: what helps, how like, who is let ===== -/
def CJ (T : Tn) (p : Int) : Prop := (0 ≤ T (16 + 10 * p) ∧ T (16 + 10 * p) ≤ 6) ∧ (0 ≤ T (17 + 10 * p) ∧ T (17 + 10 * p) ≤ 9) ∧ (0 ≤ T (18 + 10 * p) ∧ T (18 + 10 * p) < 4096) ∧ (0 ≤ T (19 + 10 * p) ∧ T (19 + 10 * p) ≤ 3) ∧ (0 ≤ T (20 + 10 * p) ∧ T (20 + 10 * p) ≤ 9) ∧ ∀ k, 0 ≤ k → k < 4 → 0 ≤ T (22 + 10 * p + k) ∧ T (22 + 10 * p + k) ≤ 9
def TJ (T : Tn) : Prop := (∀ g, 0 ≤ g → g < 4 → GI T g) ∧ (∀ p, 0 ≤ p → p < 6 → CJ T p) ∧ (0 ≤ T 76 ∧ T 76 ≤ 6) ∧ (0 ≤ T 77 ∧ T 77 ≤ 20000) ∧ 0 ≤ T 78 ∧ T 78 ≤ 6
def SB (S : Hs) : Prop := (∀ vals, -9900 ≤ S.1 vals ∧ S.1 vals ≤ 9900) ∧ (0 ≤ S.2.1 ∧ S.2.1 ≤ 99) ∧ 0 ≤ S.2.2 ∧ S.2.2 ≤ 99
theorem TI.j {T : Tn} (h : TI T) (hd : T 77 ≤ 20000) : TJ T := ⟨h.1, fun p a b => ⟨(h.2.1 p a b).1, (h.2.1 p a b).2.1, (h.2.1 p a b).2.2.1, (h.2.1 p a b).2.2.2.1, (h.2.1 p a b).2.2.2.2.1, (h.2.1 p a b).2.2.2.2.2.2⟩, h.2.2.1, ⟨h.2.2.2.1, hd⟩, h.2.2.2.2.1⟩
/-- the reference's world -/
def MEn (μ : Me) (T : Tn) (S : Hs) : Prop := TN μ T ∧ MH μ (T 78) S ∧ MS μ
theorem MEn.fh {μ μ' : Me} {T : Tn} {S : Hs} (h : MEn μ T S) (e : FH μ μ') : MEn μ' T S := ⟨h.1.fh e, h.2.1.fh e, h.2.2.fh e⟩
theorem TN.ne {μ : Me} {T : Tn} {o : Ob} {k z : Int} (h : TN μ T) (ho : (31, 0, 0) ≠ o) : TN (upM μ o k z) T := by
  unfold TN
  rw [upM_ne ho]
  exact h
section ML
variable {ad : Ob → Nat} {μ : Me} {T : Tn} {S : Hs} {i g : Int}
set_option maxRecDepth 20000 in
theorem c_X8_readFor (hE : MEn μ T S) (hJ : TJ T) (hi : 0 ≤ i ∧ i < 6) (hg : 0 ≤ g ∧ g < 4) (l : Launch) (E : Ev) (A : Nat → Prop) : Con l E 20 m_X8_readFor A VM ad μ [.ref (ad (30, 0, 0)), .int (I i), .int (I g)] (pv fun μ' => FH μ μ' ∧ μ' (30, 0, 0) 14 = S.1 (vsT T i g) ∧ μ' (30, 0, 0) 15 = S.2.1 ∧ μ' (30, 0, 0) 16 = S.2.2) := by
  obtain ⟨hT, hH, hS⟩ := hE
  obtain ⟨j1, j2, j3, j4, j5⟩ := hJ
  obtain ⟨k1, k2, k3, k4, k5, k6⟩ := j2 i hi.1 hi.2
  refine con (own := RX8) (by decide +kernel) rfl rfl rfl (fun Γ F => ?_)
  have l116 : ∀ (tx : Tn) (tl : Int) (μ7 : Me), (0 ≤ tl ∧ tl ≤ 100) → (1 ≤ T 78 ∧ T 78 ≤ 6) → μ7 (30, 0, 0) 10 = tl → (∀ k, 0 ≤ k → k < tl → μ7 (35, 0, 0) (100 * (T 78 - 1) + k) = tx k ∧ 0 ≤ tx k ∧ tx k < 128) → (rdS tx tl).1 = true → S = hsS tx tl → FH μ μ7 → NM μ7 (vsT T i g) → ∀ (N k : Nat) (μ1 : Me), tl - k < N → k ≤ tl → (∀ j : Int, 0 ≤ j → j < k → μ1 (37, 0, 0) j = tx j) → (∀ o, o ≠ (37, 0, 0) → μ1 o = μ7 o) → XX Γ 5 VM ad (vl ad μ1) 0 0 116 [(0, .ref (ad (30, 0, 0))), (3, .int (I (T 78 - 1))), (4, .int (I k))] [] := by
    intro tx tl μ7 c1 c2 c3 c4 c5 c6 c7 c8 N
    induction N with
    | zero => intro k μ1 b1; omega
    | succ N ih =>
      intro k μ1 b1 b2 b4 b5
      have e10 : μ1 (30, 0, 0) 10 = tl := by rw [b5 _ (by simp), c3]
      have e35 : μ1 (35, 0, 0) = μ7 (35, 0, 0) := b5 _ (by simp)
      have f1 : FH μ μ1 := c7.trans ⟨fun k _ => by rw [b5 _ (by simp)], fun o _ h2 _ => b5 o h2⟩
      have n1 : NM μ1 (vsT T i g) := by unfold NM MS; rw [b5 _ (by simp), b5 _ (by simp), b5 _ (by simp)]; exact c8
      refine x_iload (i := 4) (pc := 116) F dX8_readFor_116 rfl ?_
      refine x_aload_n (i := 0) (pc := 118) F dX8_readFor_118 rfl rfl ?_
      refine gf_X8_131 (pc := 119) F dX8_readFor_119 (vm_ok rfl) ?_
      refine x_icmp_ge (tgt := 150) (pc := 122) F dX8_readFor_122 rfl (by omega) (fun h122 => ?_) (fun h122 => ?_)
      · have hRT : RT μ1 tx tl := ⟨⟨e10, c1⟩, fun j a b => ⟨b4 j a (by omega), (c4 j a b).2⟩⟩
        refine x_aload_n (i := 0) (pc := 150) F dX8_readFor_150 rfl rfl ?_
        refine x_V0z (ci := 8) (pc := 151) F dX8_readFor_151 lk_X8_176 rfl (vm_ok rfl) rfl rfl (c_X8_readAll hRT n1) rfl rfl rfl ?_
        rintro z μ3 ⟨p1, p2, p3, p4⟩
        refine x_pop (pc := 154) F dX8_readFor_154 rfl ?_
        refine tq_retv (pc := 155) F dX8_readFor_155 ?_ rfl rfl rfl
        rw [c6]
        exact ⟨f1.trans (FH.fs p3), p4 c5⟩
      · refine x_aload_n (i := 0) (pc := 125) F dX8_readFor_125 rfl rfl ?_
        refine gf_X8_30 (pc := 126) F dX8_readFor_126 (vm_ok rfl) ?_
        refine x_iload (i := 4) (pc := 129) F dX8_readFor_129 rfl ?_
        refine x_aload_n (i := 0) (pc := 131) F dX8_readFor_131 rfl rfl ?_
        refine gf_X8_24 (pc := 132) F dX8_readFor_132 (vm_ok rfl) ?_
        refine x_bipush (pc := 135) F dX8_readFor_135 (by decide) ?_
        refine x_iload_n (i := 3) (pc := 137) F dX8_readFor_137 rfl rfl ?_
        refine x_imul (pc := 138) F dX8_readFor_138 ?_
        refine x_iload (i := 4) (pc := 139) F dX8_readFor_139 rfl ?_
        refine x_iadd (pc := 141) F dX8_readFor_141 ?_
        refine tq_ia (pc := 142) F dX8_readFor_142 (vm_ok rfl) rfl (fun _ => rfl) (by omega) ?_
        rw [e35, (c4 k (by omega) (by omega)).1]
        refine tq_ias (pc := 143) F dX8_readFor_143 (vm_ok rfl) rfl (fun _ => rfl) (by omega) ?_
        refine x_iinc (pc := 144) F dX8_readFor_144 rfl rfl ?_
        refine x_goto (tgt := 116) (pc := 147) F dX8_readFor_147 rfl ?_
        exact x_sub (L' := [(0, .ref (ad (30, 0, 0))), (3, .int (I (T 78 - 1))), (4, .int (I ((k + 1 : Nat) : Int)))]) ⟨rfl, rfl, rfl, trivial⟩ (ih (k + 1) _ (by omega) (by omega) (fun j a b => by rw [upM_i]; by_cases e : j = k; (rw [e, if_pos rfl]); rw [if_neg e]; exact b4 j a (by omega)) (fun o ho => by rw [upM_ne ho]; exact b5 o ho))
  have l66 : ∀ μ6 : Me, (∀ k, 0 ≤ k → k < 6 → μ6 (38, 0, 0) k = vsT T i g k) → (∀ o, o ≠ (38, 0, 0) → μ6 o = μ o) → XX Γ 5 VM ad (vl ad μ6) 0 0 66 [(0, .ref (ad (30, 0, 0)))] [] := by
    intro μ6 h38 ho
    have hT6 : TN μ6 T := by unfold TN; rw [ho _ (by simp)]; exact hT
    have h78 := hT6 78 (by omega) (by omega)
    have hM6 : MS μ6 := by unfold MS; rw [ho _ (by simp), ho _ (by simp)]; exact hS
    have hvr : ∀ k, 0 ≤ k → k < 6 → -2147483648 ≤ vsT T i g k ∧ vsT T i g k < 2147483648 := fun k a b => by
      unfold vsT valS
      (repeat' split) <;> omega
    have fh6 : FH μ μ6 := ⟨fun k _ => by rw [ho _ (by simp)], fun o _ _ h3 => ho o h3⟩
    refine x_aload_n (i := 0) (pc := 66) F dX8_readFor_66 rfl rfl ?_
    refine gf_X8_9 (pc := 67) F dX8_readFor_67 (vm_ok rfl) ?_
    refine x_bipush (pc := 70) F dX8_readFor_70 (by decide) ?_
    refine tq_ia (pc := 72) F dX8_readFor_72 (vm_ok rfl) rfl (fun _ => rfl) (by omega) ?_
    rw [h78]
    refine x_if_ne (tgt := 93) (pc := 73) F dX8_readFor_73 rfl (by omega) (fun h73 => ?_) (fun h73 => ?_)
    · obtain ⟨r1, r2, tx, tl, hs, hr, hok, rfl⟩ := hH.resolve_left (fun z => by omega)
      refine x_aload_n (i := 0) (pc := 93) F dX8_readFor_93 rfl rfl ?_
      refine gf_X8_9 (pc := 94) F dX8_readFor_94 (vm_ok rfl) ?_
      refine x_bipush (pc := 97) F dX8_readFor_97 (by decide) ?_
      refine tq_ia (pc := 99) F dX8_readFor_99 (vm_ok rfl) rfl (fun _ => rfl) (by omega) ?_
      rw [h78]
      refine x_iconst (pc := 100) F dX8_readFor_100 ?_
      refine x_isub (pc := 101) F dX8_readFor_101 ?_
      refine x_istore_n (i := 3) (pc := 102) F dX8_readFor_102 rfl rfl ?_
      refine x_aload_n (i := 0) (pc := 103) F dX8_readFor_103 rfl rfl ?_
      refine x_aload_n (i := 0) (pc := 104) F dX8_readFor_104 rfl rfl ?_
      refine gf_X8_27 (pc := 105) F dX8_readFor_105 (vm_ok rfl) ?_
      refine x_iload_n (i := 3) (pc := 108) F dX8_readFor_108 rfl rfl ?_
      refine tq_ia (pc := 109) F dX8_readFor_109 (vm_ok rfl) rfl (fun _ => rfl) (by omega) ?_
      rw [ho _ (by simp), hs.1]
      refine pf_X8_131 (pc := 110) F dX8_readFor_110 (vm_ok rfl) ?_
      refine x_iconst (pc := 113) F dX8_readFor_113 ?_
      refine x_istore (i := 4) (pc := 114) F dX8_readFor_114 rfl ?_
      have f7 : FH μ (upM μ6 (30, 0, 0) 10 tl) := fh6.trans ⟨fun k hk => by rw [upM_i, if_neg (by omega)], fun o h1 _ _ => upM_ne h1⟩
      have hn7 : NM (upM μ6 (30, 0, 0) 10 tl) (vsT T i g) := ⟨by unfold MS; rw [upM_ne (by simp), upM_ne (by simp)]; exact hM6, fun k a b => by rw [upM_ne (by simp)]; exact ⟨h38 k a b, hvr k a b⟩⟩
      exact x_sub (L' := [(0, .ref (ad (30, 0, 0))), (3, .int (I (T 78 - 1))), (4, .int (I ((0 : Nat) : Int)))]) ⟨rfl, rfl, rfl, trivial⟩ (l116 tx tl _ hs.2 ⟨r1, r2⟩ (by rw [upM_i, if_pos rfl]) (by rw [upM_ne (by simp), ho _ (by simp)]; exact hr) hok rfl f7 hn7 101 0 _ (by omega) (by omega) (fun j a b => by omega) (fun _ _ => rfl))
    · refine x_aload_n (i := 0) (pc := 76) F dX8_readFor_76 rfl rfl ?_
      refine x_iconst (pc := 77) F dX8_readFor_77 ?_
      refine pf_X8_170 (pc := 78) F dX8_readFor_78 (vm_ok rfl) ?_
      refine x_aload_n (i := 0) (pc := 81) F dX8_readFor_81 rfl rfl ?_
      refine x_bipush (pc := 82) F dX8_readFor_82 (by decide) ?_
      refine pf_X8_164 (pc := 84) F dX8_readFor_84 (vm_ok rfl) ?_
      refine x_aload_n (i := 0) (pc := 87) F dX8_readFor_87 rfl rfl ?_
      refine x_iconst (pc := 88) F dX8_readFor_88 ?_
      refine pf_X8_167 (pc := 89) F dX8_readFor_89 (vm_ok rfl) ?_
      refine tq_retv (pc := 92) F dX8_readFor_92 ?_ rfl rfl rfl
      have hS0 : S = (fun _ => 0, 10, 0) := by rcases hH with h | h; exact h.2; (exfalso; omega)
      rw [hS0]
      exact ⟨fh6.trans (FH.fs (((FS.up (by decide)).trans (FS.up (by decide))).trans (FS.up (by decide)))), by simp [upM], by simp [upM], by simp [upM]⟩
  refine x_aload_n (i := 0) (pc := 0) F dX8_readFor_0 rfl rfl ?_
  refine gf_X8_33 (pc := 1) F dX8_readFor_1 (vm_ok rfl) ?_
  refine x_iconst (pc := 4) F dX8_readFor_4 ?_
  refine x_iload_n (i := 1) (pc := 5) F dX8_readFor_5 rfl rfl ?_
  refine tq_ias (pc := 6) F dX8_readFor_6 (vm_ok rfl) rfl (fun _ => rfl) (by omega) ?_
  refine x_aload_n (i := 0) (pc := 7) F dX8_readFor_7 rfl rfl ?_
  refine gf_X8_33 (pc := 8) F dX8_readFor_8 (vm_ok rfl) ?_
  refine x_iconst (pc := 11) F dX8_readFor_11 ?_
  refine x_aload_n (i := 0) (pc := 12) F dX8_readFor_12 rfl rfl ?_
  refine x_iload_n (i := 1) (pc := 13) F dX8_readFor_13 rfl rfl ?_
  refine x_iconst (pc := 14) F dX8_readFor_14 ?_
  refine x_V2i (ci := 8) (pc := 15) F dX8_readFor_15 lk_X8_82 rfl (vm_ok rfl) rfl rfl (c_X8_one (hT.ne (by simp)) (16 + 10 * i) i 0 (by omega)) rfl rfl rfl ?_
  rintro _ _ ⟨rfl, rfl⟩
  refine tq_ias (pc := 18) F dX8_readFor_18 (vm_ok rfl) rfl (fun _ => rfl) (by omega) ?_
  refine x_aload_n (i := 0) (pc := 19) F dX8_readFor_19 rfl rfl ?_
  refine gf_X8_33 (pc := 20) F dX8_readFor_20 (vm_ok rfl) ?_
  refine x_iconst (pc := 23) F dX8_readFor_23 ?_
  refine x_aload_n (i := 0) (pc := 24) F dX8_readFor_24 rfl rfl ?_
  refine x_iload_n (i := 1) (pc := 25) F dX8_readFor_25 rfl rfl ?_
  refine x_iconst (pc := 26) F dX8_readFor_26 ?_
  refine x_V2i (ci := 8) (pc := 27) F dX8_readFor_27 lk_X8_82 rfl (vm_ok rfl) rfl rfl (c_X8_one ((hT.ne (by simp)).ne (by simp)) (17 + 10 * i) i 1 (by omega)) rfl rfl rfl ?_
  rintro _ _ ⟨rfl, rfl⟩
  refine tq_ias (pc := 30) F dX8_readFor_30 (vm_ok rfl) rfl (fun _ => rfl) (by omega) ?_
  refine x_aload_n (i := 0) (pc := 31) F dX8_readFor_31 rfl rfl ?_
  refine gf_X8_33 (pc := 32) F dX8_readFor_32 (vm_ok rfl) ?_
  refine x_iconst (pc := 35) F dX8_readFor_35 ?_
  refine x_iload_n (i := 2) (pc := 36) F dX8_readFor_36 rfl rfl ?_
  refine tq_ias (pc := 37) F dX8_readFor_37 (vm_ok rfl) rfl (fun _ => rfl) (by omega) ?_
  refine x_aload_n (i := 0) (pc := 38) F dX8_readFor_38 rfl rfl ?_
  refine gf_X8_33 (pc := 39) F dX8_readFor_39 (vm_ok rfl) ?_
  refine x_iconst (pc := 42) F dX8_readFor_42 ?_
  refine x_aload_n (i := 0) (pc := 43) F dX8_readFor_43 rfl rfl ?_
  refine x_iload_n (i := 1) (pc := 44) F dX8_readFor_44 rfl rfl ?_
  refine x_iconst (pc := 45) F dX8_readFor_45 ?_
  refine x_V2i (ci := 8) (pc := 46) F dX8_readFor_46 lk_X8_82 rfl (vm_ok rfl) rfl rfl (c_X8_one ((((hT.ne (by simp)).ne (by simp)).ne (by simp)).ne (by simp)) (20 + 10 * i) i 4 (by omega)) rfl rfl rfl ?_
  rintro _ _ ⟨rfl, rfl⟩
  refine tq_ias (pc := 49) F dX8_readFor_49 (vm_ok rfl) rfl (fun _ => rfl) (by omega) ?_
  refine x_aload_n (i := 0) (pc := 50) F dX8_readFor_50 rfl rfl ?_
  refine gf_X8_33 (pc := 51) F dX8_readFor_51 (vm_ok rfl) ?_
  refine x_iconst (pc := 54) F dX8_readFor_54 ?_
  refine x_aload_n (i := 0) (pc := 55) F dX8_readFor_55 rfl rfl ?_
  refine gf_X8_9 (pc := 56) F dX8_readFor_56 (vm_ok rfl) ?_
  refine x_bipush (pc := 59) F dX8_readFor_59 (by decide) ?_
  refine tq_ia (pc := 61) F dX8_readFor_61 (vm_ok rfl) rfl (fun _ => rfl) (by omega) ?_
  rw [(((((hT.ne (by simp)).ne (by simp)).ne (by simp)).ne (by simp)).ne (by simp)) 77 (by omega) (by omega)]
  refine x_bipush (pc := 62) F dX8_readFor_62 (by decide) ?_
  refine tq_irem (pc := 64) F dX8_readFor_64 (by omega) ?_
  refine tq_ias (pc := 65) F dX8_readFor_65 (vm_ok rfl) rfl (fun _ => rfl) (by omega) ?_
  refine x_sub (L' := [(0, .ref (ad (30, 0, 0)))]) ⟨rfl, trivial⟩ (l66 _ (fun k a b => ?_) (fun o ho => ?_))
  · unfold vsT valS
    rcases (show k = 0 ∨ k = 1 ∨ k = 2 ∨ k = 3 ∨ k = 4 ∨ k = 5 by omega) with rfl | rfl | rfl | rfl | rfl | rfl <;> simp [upM]
  · rw [upM_ne ho, upM_ne ho, upM_ne ho, upM_ne ho, upM_ne ho, upM_ne ho]
set_option maxRecDepth 20000 in
theorem c_X8_helps (hE : MEn μ T S) (hJ : TJ T) (hi : 0 ≤ i ∧ i < 6) (hg : 0 ≤ g ∧ g < 4) (l : Launch) (E : Ev) (A : Nat → Prop) : Con l E 21 m_X8_helps A VM ad μ [.ref (ad (30, 0, 0)), .int (I i), .int (I g)] (pi fun z μ' => z = S.1 (vsT T i g) ∧ FH μ μ' ∧ μ' (30, 0, 0) 15 = S.2.1 ∧ μ' (30, 0, 0) 16 = S.2.2) := by
  refine con (own := RX8) (by decide +kernel) rfl rfl rfl (fun Γ F => ?_)
  refine x_aload_n (i := 0) (pc := 0) F dX8_helps_0 rfl rfl ?_
  refine x_iload_n (i := 1) (pc := 1) F dX8_helps_1 rfl rfl ?_
  refine x_iload_n (i := 2) (pc := 2) F dX8_helps_2 rfl rfl ?_
  refine x_V2v (ci := 8) (pc := 3) F dX8_helps_3 lk_X8_182 rfl (vm_ok rfl) rfl rfl (c_X8_readFor hE hJ (by omega) (by omega)) rfl rfl rfl ?_
  rintro μ1 ⟨fh1, sm1, nd1, ag1⟩
  refine x_aload_n (i := 0) (pc := 6) F dX8_helps_6 rfl rfl ?_
  refine gf_X8_170 (pc := 7) F dX8_helps_7 (vm_ok rfl) ?_
  refine tq_reti (pc := 10) F dX8_helps_10 ?_ rfl rfl rfl
  exact ⟨sm1, fh1, nd1, ag1⟩
set_option maxRecDepth 20000 in
theorem c_X8_needNow (hE : MEn μ T S) (hJ : TJ T) (l : Launch) (E : Ev) (A : Nat → Prop) : Con l E 21 m_X8_needNow A VM ad μ [.ref (ad (30, 0, 0))] (pi fun z μ' => z = S.2.1 ∧ FH μ μ') := by
  refine con (own := RX8) (by decide +kernel) rfl rfl rfl (fun Γ F => ?_)
  refine x_aload_n (i := 0) (pc := 0) F dX8_needNow_0 rfl rfl ?_
  refine x_iconst (pc := 1) F dX8_needNow_1 ?_
  refine x_iconst (pc := 2) F dX8_needNow_2 ?_
  refine x_V2v (ci := 8) (pc := 3) F dX8_needNow_3 lk_X8_182 rfl (vm_ok rfl) rfl rfl (c_X8_readFor hE hJ (by omega) (by omega)) rfl rfl rfl ?_
  rintro μ1 ⟨fh1, sm1, nd1, ag1⟩
  refine x_aload_n (i := 0) (pc := 6) F dX8_needNow_6 rfl rfl ?_
  refine gf_X8_164 (pc := 7) F dX8_needNow_7 (vm_ok rfl) ?_
  refine tq_reti (pc := 10) F dX8_needNow_10 ?_ rfl rfl rfl
  exact ⟨nd1, fh1⟩
set_option maxRecDepth 20000 in
theorem c_X8_ageNow (hE : MEn μ T S) (hJ : TJ T) (l : Launch) (E : Ev) (A : Nat → Prop) : Con l E 21 m_X8_ageNow A VM ad μ [.ref (ad (30, 0, 0))] (pi fun z μ' => z = S.2.2 ∧ FH μ μ') := by
  refine con (own := RX8) (by decide +kernel) rfl rfl rfl (fun Γ F => ?_)
  refine x_aload_n (i := 0) (pc := 0) F dX8_ageNow_0 rfl rfl ?_
  refine x_iconst (pc := 1) F dX8_ageNow_1 ?_
  refine x_iconst (pc := 2) F dX8_ageNow_2 ?_
  refine x_V2v (ci := 8) (pc := 3) F dX8_ageNow_3 lk_X8_182 rfl (vm_ok rfl) rfl rfl (c_X8_readFor hE hJ (by omega) (by omega)) rfl rfl rfl ?_
  rintro μ1 ⟨fh1, sm1, nd1, ag1⟩
  refine x_aload_n (i := 0) (pc := 6) F dX8_ageNow_6 rfl rfl ?_
  refine gf_X8_167 (pc := 7) F dX8_ageNow_7 (vm_ok rfl) ?_
  refine tq_reti (pc := 10) F dX8_ageNow_10 ?_ rfl rfl rfl
  exact ⟨ag1, fh1⟩
set_option maxRecDepth 20000 in
theorem c_X8_likeTo (hT : TN μ T) (hJ : TJ T) (hi : 0 ≤ i ∧ i < 6) (hg : 0 ≤ g ∧ g < 4) (w h : Int) (hw : 0 ≤ w ∧ w < 4096) (hh : -9900 ≤ h ∧ h ≤ 9900) (l : Launch) (E : Ev) (A : Nat → Prop) : Con l E 1 m_X8_likeTo A VM ad μ [.ref (ad (30, 0, 0)), .int (I i), .int (I g), .int (I w), .int (I h)] (pi fun z μ' => z = lbT T i g (alk w (T (18 + 10 * i)) + h) ∧ μ = μ') := by
  obtain ⟨j1, j2, j3, j4, j5⟩ := hJ
  obtain ⟨k1, k2, k3, k4, k5, k6⟩ := j2 i hi.1 hi.2
  have k6g := k6 g hg.1 hg.2
  have hal := alk_rg w (T (18 + 10 * i))
  have hx := wx_rg (a := T (18 + 10 * i)) (b := w) (by omega)
  have hpr := pop_rg (wx (T (18 + 10 * i)) w)
  have hpo : pop (wx (T (18 + 10 * i)) w) = 12 - alk w (T (18 + 10 * i)) := by rw [alk_c]; unfold alk; omega
  have h77 := hT 77 (by omega) (by omega)
  refine con (own := RX8) (by decide +kernel) rfl rfl rfl (fun Γ F => ?_)
  refine x_iload (i := 4) (pc := 0) F dX8_likeTo_0 rfl ?_
  refine x_bipush (pc := 2) F dX8_likeTo_2 (by decide) ?_
  refine x_iadd (pc := 4) F dX8_likeTo_4 ?_
  refine x_aload_n (i := 0) (pc := 5) F dX8_likeTo_5 rfl rfl ?_
  refine x_iload_n (i := 1) (pc := 6) F dX8_likeTo_6 rfl rfl ?_
  refine x_iconst (pc := 7) F dX8_likeTo_7 ?_
  refine x_V2i (ci := 8) (pc := 8) F dX8_likeTo_8 lk_X8_82 rfl (vm_ok rfl) rfl rfl (c_X8_one hT (18 + 10 * i) i 2 (by omega)) rfl rfl rfl ?_
  rintro _ _ ⟨rfl, rfl⟩
  refine x_iload_n (i := 3) (pc := 11) F dX8_likeTo_11 rfl rfl ?_
  refine tq_ixor (pc := 12) F dX8_likeTo_12 (by omega) ?_
  refine x_S1i (pc := 13) F dX8_likeTo_13 lk_X8_186 rfl (c_X8_many _ (by omega) _) rfl rfl rfl ?_
  rintro _ _ ⟨rfl, rfl⟩
  refine x_isub (pc := 16) F dX8_likeTo_16 ?_
  rw [hpo, show h + 12 - (12 - alk w (T (18 + 10 * i))) = alk w (T (18 + 10 * i)) + h by omega]
  refine x_istore (i := 5) (pc := 17) F dX8_likeTo_17 rfl ?_
  refine x_aload_n (i := 0) (pc := 19) F dX8_likeTo_19 rfl rfl ?_
  refine x_iload_n (i := 1) (pc := 20) F dX8_likeTo_20 rfl rfl ?_
  refine x_iconst (pc := 21) F dX8_likeTo_21 ?_
  refine x_V2i (ci := 8) (pc := 22) F dX8_likeTo_22 lk_X8_82 rfl (vm_ok rfl) rfl rfl (c_X8_one hT (19 + 10 * i) i 3 (by omega)) rfl rfl rfl ?_
  rintro _ _ ⟨rfl, rfl⟩
  refine x_iload_n (i := 2) (pc := 25) F dX8_likeTo_25 rfl rfl ?_
  refine x_icmp_ne (tgt := 34) (pc := 26) F dX8_likeTo_26 rfl (by omega) (fun h26 => ?_) (fun h26 => ?_)
  · refine x_iconst (pc := 34) F dX8_likeTo_34 ?_
    refine x_istore (i := 6) (pc := 35) F dX8_likeTo_35 rfl ?_
    refine x_aload_n (i := 0) (pc := 37) F dX8_likeTo_37 rfl rfl ?_
    refine x_iload_n (i := 1) (pc := 38) F dX8_likeTo_38 rfl rfl ?_
    refine x_iconst (pc := 39) F dX8_likeTo_39 ?_
    refine x_V2i (ci := 8) (pc := 40) F dX8_likeTo_40 lk_X8_82 rfl (vm_ok rfl) rfl rfl (c_X8_one hT (16 + 10 * i) i 0 (by omega)) rfl rfl rfl ?_
    rintro _ _ ⟨rfl, rfl⟩
    refine x_tab (ts := [80, 90, 97, 100, 126, 140]) (dt := 155) (pc := 43) F dX8_likeTo_43 rfl rfl (by omega) ⟨fun h43 => ?_, fun h43 => ?_, fun h43 => ?_, fun h43 => ?_, fun h43 => ?_, fun h43 => ?_, trivial⟩ (fun h43 => ?_)
    · refine x_iload (i := 5) (pc := 80) F dX8_likeTo_80 rfl ?_
      refine x_aload_n (i := 0) (pc := 82) F dX8_likeTo_82 rfl rfl ?_
      refine x_iload_n (i := 1) (pc := 83) F dX8_likeTo_83 rfl rfl ?_
      refine x_iconst (pc := 84) F dX8_likeTo_84 ?_
      refine x_V2i (ci := 8) (pc := 85) F dX8_likeTo_85 lk_X8_82 rfl (vm_ok rfl) rfl rfl (c_X8_one hT (17 + 10 * i) i 1 (by omega)) rfl rfl rfl ?_
      rintro _ _ ⟨rfl, rfl⟩
      refine x_iadd (pc := 88) F dX8_likeTo_88 ?_
      refine tq_reti (pc := 89) F dX8_likeTo_89 ?_ rfl rfl rfl
      refine ⟨?_, rfl⟩
      unfold lbT lbS
      first | (rw [if_pos (by omega)]; done) | (rw [if_neg (by omega), if_pos (by omega)]; done) | (rw [if_neg (by omega), if_neg (by omega), if_pos (by omega)]; first | rw [if_pos (by assumption)] | rw [if_neg (by assumption)]; done) | (rw [if_neg (by omega), if_neg (by omega), if_neg (by omega), if_pos (by omega)]; omega) | (rw [if_neg (by omega), if_neg (by omega), if_neg (by omega), if_neg (by omega), if_pos (by omega)]; done) | (rw [if_neg (by omega), if_neg (by omega), if_neg (by omega), if_neg (by omega), if_neg (by omega), if_pos (by omega)]; first | rw [if_pos (by assumption)] | rw [if_neg (by assumption)]; done) | (rw [if_neg (by omega), if_neg (by omega), if_neg (by omega), if_neg (by omega), if_neg (by omega), if_neg (by omega)]; done)
    · refine x_iload (i := 5) (pc := 90) F dX8_likeTo_90 rfl ?_
      refine x_iconst (pc := 92) F dX8_likeTo_92 ?_
      refine tq_idivT (pc := 93) F dX8_likeTo_93 (by omega) ?_
      refine x_iconst (pc := 94) F dX8_likeTo_94 ?_
      refine x_iadd (pc := 95) F dX8_likeTo_95 ?_
      refine tq_reti (pc := 96) F dX8_likeTo_96 ?_ rfl rfl rfl
      refine ⟨?_, rfl⟩
      unfold lbT lbS
      first | (rw [if_pos (by omega)]; done) | (rw [if_neg (by omega), if_pos (by omega)]; done) | (rw [if_neg (by omega), if_neg (by omega), if_pos (by omega)]; first | rw [if_pos (by assumption)] | rw [if_neg (by assumption)]; done) | (rw [if_neg (by omega), if_neg (by omega), if_neg (by omega), if_pos (by omega)]; omega) | (rw [if_neg (by omega), if_neg (by omega), if_neg (by omega), if_neg (by omega), if_pos (by omega)]; done) | (rw [if_neg (by omega), if_neg (by omega), if_neg (by omega), if_neg (by omega), if_neg (by omega), if_pos (by omega)]; first | rw [if_pos (by assumption)] | rw [if_neg (by assumption)]; done) | (rw [if_neg (by omega), if_neg (by omega), if_neg (by omega), if_neg (by omega), if_neg (by omega), if_neg (by omega)]; done)
    · refine x_iload (i := 6) (pc := 97) F dX8_likeTo_97 rfl ?_
      refine tq_reti (pc := 99) F dX8_likeTo_99 ?_ rfl rfl rfl
      refine ⟨?_, rfl⟩
      unfold lbT lbS
      first | (rw [if_pos (by omega)]; done) | (rw [if_neg (by omega), if_pos (by omega)]; done) | (rw [if_neg (by omega), if_neg (by omega), if_pos (by omega)]; first | rw [if_pos (by assumption)] | rw [if_neg (by assumption)]; done) | (rw [if_neg (by omega), if_neg (by omega), if_neg (by omega), if_pos (by omega)]; omega) | (rw [if_neg (by omega), if_neg (by omega), if_neg (by omega), if_neg (by omega), if_pos (by omega)]; done) | (rw [if_neg (by omega), if_neg (by omega), if_neg (by omega), if_neg (by omega), if_neg (by omega), if_pos (by omega)]; first | rw [if_pos (by assumption)] | rw [if_neg (by assumption)]; done) | (rw [if_neg (by omega), if_neg (by omega), if_neg (by omega), if_neg (by omega), if_neg (by omega), if_neg (by omega)]; done)
    · refine x_iload (i := 5) (pc := 100) F dX8_likeTo_100 rfl ?_
      refine x_aload_n (i := 0) (pc := 102) F dX8_likeTo_102 rfl rfl ?_
      refine x_iload_n (i := 1) (pc := 103) F dX8_likeTo_103 rfl rfl ?_
      refine x_iconst (pc := 104) F dX8_likeTo_104 ?_
      refine x_V2i (ci := 8) (pc := 105) F dX8_likeTo_105 lk_X8_82 rfl (vm_ok rfl) rfl rfl (c_X8_one hT (17 + 10 * i) i 1 (by omega)) rfl rfl rfl ?_
      rintro _ _ ⟨rfl, rfl⟩
      refine x_iadd (pc := 108) F dX8_likeTo_108 ?_
      refine x_bipush (pc := 109) F dX8_likeTo_109 (by decide) ?_
      refine x_aload_n (i := 0) (pc := 111) F dX8_likeTo_111 rfl rfl ?_
      refine gf_X8_9 (pc := 112) F dX8_likeTo_112 (vm_ok rfl) ?_
      refine x_bipush (pc := 115) F dX8_likeTo_115 (by decide) ?_
      refine tq_ia (pc := 117) F dX8_likeTo_117 (vm_ok rfl) rfl (fun _ => rfl) (by omega) ?_
      rw [h77]
      refine x_bipush (pc := 118) F dX8_likeTo_118 (by decide) ?_
      refine tq_idiv (pc := 120) F dX8_likeTo_120 (by omega) ?_
      refine tq_min (pc := 121) F dX8_likeTo_121 kw_1037 rfl rfl rfl rfl (by omega) ?_
      refine x_isub (pc := 124) F dX8_likeTo_124 ?_
      refine tq_reti (pc := 125) F dX8_likeTo_125 ?_ rfl rfl rfl
      refine ⟨?_, rfl⟩
      unfold lbT lbS
      first | (rw [if_pos (by omega)]; done) | (rw [if_neg (by omega), if_pos (by omega)]; done) | (rw [if_neg (by omega), if_neg (by omega), if_pos (by omega)]; first | rw [if_pos (by assumption)] | rw [if_neg (by assumption)]; done) | (rw [if_neg (by omega), if_neg (by omega), if_neg (by omega), if_pos (by omega)]; omega) | (rw [if_neg (by omega), if_neg (by omega), if_neg (by omega), if_neg (by omega), if_pos (by omega)]; done) | (rw [if_neg (by omega), if_neg (by omega), if_neg (by omega), if_neg (by omega), if_neg (by omega), if_pos (by omega)]; first | rw [if_pos (by assumption)] | rw [if_neg (by assumption)]; done) | (rw [if_neg (by omega), if_neg (by omega), if_neg (by omega), if_neg (by omega), if_neg (by omega), if_neg (by omega)]; done)
    · refine x_iload (i := 5) (pc := 126) F dX8_likeTo_126 rfl ?_
      refine x_iconst (pc := 128) F dX8_likeTo_128 ?_
      refine tq_idivT (pc := 129) F dX8_likeTo_129 (by omega) ?_
      refine x_iconst (pc := 130) F dX8_likeTo_130 ?_
      refine x_iadd (pc := 131) F dX8_likeTo_131 ?_
      refine x_aload_n (i := 0) (pc := 132) F dX8_likeTo_132 rfl rfl ?_
      refine x_iload_n (i := 1) (pc := 133) F dX8_likeTo_133 rfl rfl ?_
      refine x_iconst (pc := 134) F dX8_likeTo_134 ?_
      refine x_V2i (ci := 8) (pc := 135) F dX8_likeTo_135 lk_X8_82 rfl (vm_ok rfl) rfl rfl (c_X8_one hT (20 + 10 * i) i 4 (by omega)) rfl rfl rfl ?_
      rintro _ _ ⟨rfl, rfl⟩
      refine x_iadd (pc := 138) F dX8_likeTo_138 ?_
      refine tq_reti (pc := 139) F dX8_likeTo_139 ?_ rfl rfl rfl
      refine ⟨?_, rfl⟩
      unfold lbT lbS
      first | (rw [if_pos (by omega)]; done) | (rw [if_neg (by omega), if_pos (by omega)]; done) | (rw [if_neg (by omega), if_neg (by omega), if_pos (by omega)]; first | rw [if_pos (by assumption)] | rw [if_neg (by assumption)]; done) | (rw [if_neg (by omega), if_neg (by omega), if_neg (by omega), if_pos (by omega)]; omega) | (rw [if_neg (by omega), if_neg (by omega), if_neg (by omega), if_neg (by omega), if_pos (by omega)]; done) | (rw [if_neg (by omega), if_neg (by omega), if_neg (by omega), if_neg (by omega), if_neg (by omega), if_pos (by omega)]; first | rw [if_pos (by assumption)] | rw [if_neg (by assumption)]; done) | (rw [if_neg (by omega), if_neg (by omega), if_neg (by omega), if_neg (by omega), if_neg (by omega), if_neg (by omega)]; done)
    · refine x_iload (i := 6) (pc := 140) F dX8_likeTo_140 rfl ?_
      refine x_aload_n (i := 0) (pc := 142) F dX8_likeTo_142 rfl rfl ?_
      refine x_iload_n (i := 1) (pc := 143) F dX8_likeTo_143 rfl rfl ?_
      refine x_bipush (pc := 144) F dX8_likeTo_144 (by decide) ?_
      refine x_iload_n (i := 2) (pc := 146) F dX8_likeTo_146 rfl rfl ?_
      refine x_iconst (pc := 147) F dX8_likeTo_147 ?_
      refine tq_irem (pc := 148) F dX8_likeTo_148 (by omega) ?_
      refine x_iadd (pc := 149) F dX8_likeTo_149 ?_
      refine x_V2i (ci := 8) (pc := 150) F dX8_likeTo_150 lk_X8_82 rfl (vm_ok rfl) rfl rfl (c_X8_one hT (22 + 10 * i + g) i (6 + g % 4) (by omega)) rfl rfl rfl ?_
      rintro _ _ ⟨rfl, rfl⟩
      refine x_iadd (pc := 153) F dX8_likeTo_153 ?_
      refine tq_reti (pc := 154) F dX8_likeTo_154 ?_ rfl rfl rfl
      refine ⟨?_, rfl⟩
      unfold lbT lbS
      first | (rw [if_pos (by omega)]; done) | (rw [if_neg (by omega), if_pos (by omega)]; done) | (rw [if_neg (by omega), if_neg (by omega), if_pos (by omega)]; first | rw [if_pos (by assumption)] | rw [if_neg (by assumption)]; done) | (rw [if_neg (by omega), if_neg (by omega), if_neg (by omega), if_pos (by omega)]; omega) | (rw [if_neg (by omega), if_neg (by omega), if_neg (by omega), if_neg (by omega), if_pos (by omega)]; done) | (rw [if_neg (by omega), if_neg (by omega), if_neg (by omega), if_neg (by omega), if_neg (by omega), if_pos (by omega)]; first | rw [if_pos (by assumption)] | rw [if_neg (by assumption)]; done) | (rw [if_neg (by omega), if_neg (by omega), if_neg (by omega), if_neg (by omega), if_neg (by omega), if_neg (by omega)]; done)
    · refine x_iload (i := 5) (pc := 155) F dX8_likeTo_155 rfl ?_
      refine tq_reti (pc := 157) F dX8_likeTo_157 ?_ rfl rfl rfl
      refine ⟨?_, rfl⟩
      unfold lbT lbS
      first | (rw [if_pos (by omega)]; done) | (rw [if_neg (by omega), if_pos (by omega)]; done) | (rw [if_neg (by omega), if_neg (by omega), if_pos (by omega)]; first | rw [if_pos (by assumption)] | rw [if_neg (by assumption)]; done) | (rw [if_neg (by omega), if_neg (by omega), if_neg (by omega), if_pos (by omega)]; omega) | (rw [if_neg (by omega), if_neg (by omega), if_neg (by omega), if_neg (by omega), if_pos (by omega)]; done) | (rw [if_neg (by omega), if_neg (by omega), if_neg (by omega), if_neg (by omega), if_neg (by omega), if_pos (by omega)]; first | rw [if_pos (by assumption)] | rw [if_neg (by assumption)]; done) | (rw [if_neg (by omega), if_neg (by omega), if_neg (by omega), if_neg (by omega), if_neg (by omega), if_neg (by omega)]; done)
  · refine x_iload (i := 5) (pc := 29) F dX8_likeTo_29 rfl ?_
    refine x_goto (tgt := 35) (pc := 31) F dX8_likeTo_31 rfl ?_
    refine x_istore (i := 6) (pc := 35) F dX8_likeTo_35 rfl ?_
    refine x_aload_n (i := 0) (pc := 37) F dX8_likeTo_37 rfl rfl ?_
    refine x_iload_n (i := 1) (pc := 38) F dX8_likeTo_38 rfl rfl ?_
    refine x_iconst (pc := 39) F dX8_likeTo_39 ?_
    refine x_V2i (ci := 8) (pc := 40) F dX8_likeTo_40 lk_X8_82 rfl (vm_ok rfl) rfl rfl (c_X8_one hT (16 + 10 * i) i 0 (by omega)) rfl rfl rfl ?_
    rintro _ _ ⟨rfl, rfl⟩
    refine x_tab (ts := [80, 90, 97, 100, 126, 140]) (dt := 155) (pc := 43) F dX8_likeTo_43 rfl rfl (by omega) ⟨fun h43 => ?_, fun h43 => ?_, fun h43 => ?_, fun h43 => ?_, fun h43 => ?_, fun h43 => ?_, trivial⟩ (fun h43 => ?_)
    · refine x_iload (i := 5) (pc := 80) F dX8_likeTo_80 rfl ?_
      refine x_aload_n (i := 0) (pc := 82) F dX8_likeTo_82 rfl rfl ?_
      refine x_iload_n (i := 1) (pc := 83) F dX8_likeTo_83 rfl rfl ?_
      refine x_iconst (pc := 84) F dX8_likeTo_84 ?_
      refine x_V2i (ci := 8) (pc := 85) F dX8_likeTo_85 lk_X8_82 rfl (vm_ok rfl) rfl rfl (c_X8_one hT (17 + 10 * i) i 1 (by omega)) rfl rfl rfl ?_
      rintro _ _ ⟨rfl, rfl⟩
      refine x_iadd (pc := 88) F dX8_likeTo_88 ?_
      refine tq_reti (pc := 89) F dX8_likeTo_89 ?_ rfl rfl rfl
      refine ⟨?_, rfl⟩
      unfold lbT lbS
      first | (rw [if_pos (by omega)]; done) | (rw [if_neg (by omega), if_pos (by omega)]; done) | (rw [if_neg (by omega), if_neg (by omega), if_pos (by omega)]; first | rw [if_pos (by assumption)] | rw [if_neg (by assumption)]; done) | (rw [if_neg (by omega), if_neg (by omega), if_neg (by omega), if_pos (by omega)]; omega) | (rw [if_neg (by omega), if_neg (by omega), if_neg (by omega), if_neg (by omega), if_pos (by omega)]; done) | (rw [if_neg (by omega), if_neg (by omega), if_neg (by omega), if_neg (by omega), if_neg (by omega), if_pos (by omega)]; first | rw [if_pos (by assumption)] | rw [if_neg (by assumption)]; done) | (rw [if_neg (by omega), if_neg (by omega), if_neg (by omega), if_neg (by omega), if_neg (by omega), if_neg (by omega)]; done)
    · refine x_iload (i := 5) (pc := 90) F dX8_likeTo_90 rfl ?_
      refine x_iconst (pc := 92) F dX8_likeTo_92 ?_
      refine tq_idivT (pc := 93) F dX8_likeTo_93 (by omega) ?_
      refine x_iconst (pc := 94) F dX8_likeTo_94 ?_
      refine x_iadd (pc := 95) F dX8_likeTo_95 ?_
      refine tq_reti (pc := 96) F dX8_likeTo_96 ?_ rfl rfl rfl
      refine ⟨?_, rfl⟩
      unfold lbT lbS
      first | (rw [if_pos (by omega)]; done) | (rw [if_neg (by omega), if_pos (by omega)]; done) | (rw [if_neg (by omega), if_neg (by omega), if_pos (by omega)]; first | rw [if_pos (by assumption)] | rw [if_neg (by assumption)]; done) | (rw [if_neg (by omega), if_neg (by omega), if_neg (by omega), if_pos (by omega)]; omega) | (rw [if_neg (by omega), if_neg (by omega), if_neg (by omega), if_neg (by omega), if_pos (by omega)]; done) | (rw [if_neg (by omega), if_neg (by omega), if_neg (by omega), if_neg (by omega), if_neg (by omega), if_pos (by omega)]; first | rw [if_pos (by assumption)] | rw [if_neg (by assumption)]; done) | (rw [if_neg (by omega), if_neg (by omega), if_neg (by omega), if_neg (by omega), if_neg (by omega), if_neg (by omega)]; done)
    · refine x_iload (i := 6) (pc := 97) F dX8_likeTo_97 rfl ?_
      refine tq_reti (pc := 99) F dX8_likeTo_99 ?_ rfl rfl rfl
      refine ⟨?_, rfl⟩
      unfold lbT lbS
      first | (rw [if_pos (by omega)]; done) | (rw [if_neg (by omega), if_pos (by omega)]; done) | (rw [if_neg (by omega), if_neg (by omega), if_pos (by omega)]; first | rw [if_pos (by assumption)] | rw [if_neg (by assumption)]; done) | (rw [if_neg (by omega), if_neg (by omega), if_neg (by omega), if_pos (by omega)]; omega) | (rw [if_neg (by omega), if_neg (by omega), if_neg (by omega), if_neg (by omega), if_pos (by omega)]; done) | (rw [if_neg (by omega), if_neg (by omega), if_neg (by omega), if_neg (by omega), if_neg (by omega), if_pos (by omega)]; first | rw [if_pos (by assumption)] | rw [if_neg (by assumption)]; done) | (rw [if_neg (by omega), if_neg (by omega), if_neg (by omega), if_neg (by omega), if_neg (by omega), if_neg (by omega)]; done)
    · refine x_iload (i := 5) (pc := 100) F dX8_likeTo_100 rfl ?_
      refine x_aload_n (i := 0) (pc := 102) F dX8_likeTo_102 rfl rfl ?_
      refine x_iload_n (i := 1) (pc := 103) F dX8_likeTo_103 rfl rfl ?_
      refine x_iconst (pc := 104) F dX8_likeTo_104 ?_
      refine x_V2i (ci := 8) (pc := 105) F dX8_likeTo_105 lk_X8_82 rfl (vm_ok rfl) rfl rfl (c_X8_one hT (17 + 10 * i) i 1 (by omega)) rfl rfl rfl ?_
      rintro _ _ ⟨rfl, rfl⟩
      refine x_iadd (pc := 108) F dX8_likeTo_108 ?_
      refine x_bipush (pc := 109) F dX8_likeTo_109 (by decide) ?_
      refine x_aload_n (i := 0) (pc := 111) F dX8_likeTo_111 rfl rfl ?_
      refine gf_X8_9 (pc := 112) F dX8_likeTo_112 (vm_ok rfl) ?_
      refine x_bipush (pc := 115) F dX8_likeTo_115 (by decide) ?_
      refine tq_ia (pc := 117) F dX8_likeTo_117 (vm_ok rfl) rfl (fun _ => rfl) (by omega) ?_
      rw [h77]
      refine x_bipush (pc := 118) F dX8_likeTo_118 (by decide) ?_
      refine tq_idiv (pc := 120) F dX8_likeTo_120 (by omega) ?_
      refine tq_min (pc := 121) F dX8_likeTo_121 kw_1037 rfl rfl rfl rfl (by omega) ?_
      refine x_isub (pc := 124) F dX8_likeTo_124 ?_
      refine tq_reti (pc := 125) F dX8_likeTo_125 ?_ rfl rfl rfl
      refine ⟨?_, rfl⟩
      unfold lbT lbS
      first | (rw [if_pos (by omega)]; done) | (rw [if_neg (by omega), if_pos (by omega)]; done) | (rw [if_neg (by omega), if_neg (by omega), if_pos (by omega)]; first | rw [if_pos (by assumption)] | rw [if_neg (by assumption)]; done) | (rw [if_neg (by omega), if_neg (by omega), if_neg (by omega), if_pos (by omega)]; omega) | (rw [if_neg (by omega), if_neg (by omega), if_neg (by omega), if_neg (by omega), if_pos (by omega)]; done) | (rw [if_neg (by omega), if_neg (by omega), if_neg (by omega), if_neg (by omega), if_neg (by omega), if_pos (by omega)]; first | rw [if_pos (by assumption)] | rw [if_neg (by assumption)]; done) | (rw [if_neg (by omega), if_neg (by omega), if_neg (by omega), if_neg (by omega), if_neg (by omega), if_neg (by omega)]; done)
    · refine x_iload (i := 5) (pc := 126) F dX8_likeTo_126 rfl ?_
      refine x_iconst (pc := 128) F dX8_likeTo_128 ?_
      refine tq_idivT (pc := 129) F dX8_likeTo_129 (by omega) ?_
      refine x_iconst (pc := 130) F dX8_likeTo_130 ?_
      refine x_iadd (pc := 131) F dX8_likeTo_131 ?_
      refine x_aload_n (i := 0) (pc := 132) F dX8_likeTo_132 rfl rfl ?_
      refine x_iload_n (i := 1) (pc := 133) F dX8_likeTo_133 rfl rfl ?_
      refine x_iconst (pc := 134) F dX8_likeTo_134 ?_
      refine x_V2i (ci := 8) (pc := 135) F dX8_likeTo_135 lk_X8_82 rfl (vm_ok rfl) rfl rfl (c_X8_one hT (20 + 10 * i) i 4 (by omega)) rfl rfl rfl ?_
      rintro _ _ ⟨rfl, rfl⟩
      refine x_iadd (pc := 138) F dX8_likeTo_138 ?_
      refine tq_reti (pc := 139) F dX8_likeTo_139 ?_ rfl rfl rfl
      refine ⟨?_, rfl⟩
      unfold lbT lbS
      first | (rw [if_pos (by omega)]; done) | (rw [if_neg (by omega), if_pos (by omega)]; done) | (rw [if_neg (by omega), if_neg (by omega), if_pos (by omega)]; first | rw [if_pos (by assumption)] | rw [if_neg (by assumption)]; done) | (rw [if_neg (by omega), if_neg (by omega), if_neg (by omega), if_pos (by omega)]; omega) | (rw [if_neg (by omega), if_neg (by omega), if_neg (by omega), if_neg (by omega), if_pos (by omega)]; done) | (rw [if_neg (by omega), if_neg (by omega), if_neg (by omega), if_neg (by omega), if_neg (by omega), if_pos (by omega)]; first | rw [if_pos (by assumption)] | rw [if_neg (by assumption)]; done) | (rw [if_neg (by omega), if_neg (by omega), if_neg (by omega), if_neg (by omega), if_neg (by omega), if_neg (by omega)]; done)
    · refine x_iload (i := 6) (pc := 140) F dX8_likeTo_140 rfl ?_
      refine x_aload_n (i := 0) (pc := 142) F dX8_likeTo_142 rfl rfl ?_
      refine x_iload_n (i := 1) (pc := 143) F dX8_likeTo_143 rfl rfl ?_
      refine x_bipush (pc := 144) F dX8_likeTo_144 (by decide) ?_
      refine x_iload_n (i := 2) (pc := 146) F dX8_likeTo_146 rfl rfl ?_
      refine x_iconst (pc := 147) F dX8_likeTo_147 ?_
      refine tq_irem (pc := 148) F dX8_likeTo_148 (by omega) ?_
      refine x_iadd (pc := 149) F dX8_likeTo_149 ?_
      refine x_V2i (ci := 8) (pc := 150) F dX8_likeTo_150 lk_X8_82 rfl (vm_ok rfl) rfl rfl (c_X8_one hT (22 + 10 * i + g) i (6 + g % 4) (by omega)) rfl rfl rfl ?_
      rintro _ _ ⟨rfl, rfl⟩
      refine x_iadd (pc := 153) F dX8_likeTo_153 ?_
      refine tq_reti (pc := 154) F dX8_likeTo_154 ?_ rfl rfl rfl
      refine ⟨?_, rfl⟩
      unfold lbT lbS
      first | (rw [if_pos (by omega)]; done) | (rw [if_neg (by omega), if_pos (by omega)]; done) | (rw [if_neg (by omega), if_neg (by omega), if_pos (by omega)]; first | rw [if_pos (by assumption)] | rw [if_neg (by assumption)]; done) | (rw [if_neg (by omega), if_neg (by omega), if_neg (by omega), if_pos (by omega)]; omega) | (rw [if_neg (by omega), if_neg (by omega), if_neg (by omega), if_neg (by omega), if_pos (by omega)]; done) | (rw [if_neg (by omega), if_neg (by omega), if_neg (by omega), if_neg (by omega), if_neg (by omega), if_pos (by omega)]; first | rw [if_pos (by assumption)] | rw [if_neg (by assumption)]; done) | (rw [if_neg (by omega), if_neg (by omega), if_neg (by omega), if_neg (by omega), if_neg (by omega), if_neg (by omega)]; done)
    · refine x_iload (i := 5) (pc := 155) F dX8_likeTo_155 rfl ?_
      refine tq_reti (pc := 157) F dX8_likeTo_157 ?_ rfl rfl rfl
      refine ⟨?_, rfl⟩
      unfold lbT lbS
      first | (rw [if_pos (by omega)]; done) | (rw [if_neg (by omega), if_pos (by omega)]; done) | (rw [if_neg (by omega), if_neg (by omega), if_pos (by omega)]; first | rw [if_pos (by assumption)] | rw [if_neg (by assumption)]; done) | (rw [if_neg (by omega), if_neg (by omega), if_neg (by omega), if_pos (by omega)]; omega) | (rw [if_neg (by omega), if_neg (by omega), if_neg (by omega), if_neg (by omega), if_pos (by omega)]; done) | (rw [if_neg (by omega), if_neg (by omega), if_neg (by omega), if_neg (by omega), if_neg (by omega), if_pos (by omega)]; first | rw [if_pos (by assumption)] | rw [if_neg (by assumption)]; done) | (rw [if_neg (by omega), if_neg (by omega), if_neg (by omega), if_neg (by omega), if_neg (by omega), if_neg (by omega)]; done)
end ML
