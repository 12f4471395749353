/-! ===== the class: of, pass, on, ends, image, undo ===== -/
section CLS3
variable {ad : Ob → Nat} {μ : Me} {nh : Int} {T : Tn} {S : Hs}
set_option maxRecDepth 20000 in
theorem c_X7_of (c w : Int) (hc : -2147483648 ≤ c ∧ c < 2147483648) (hw : -2147483648 ≤ w ∧ w < 2147483648) (hR0 : TR μ 0 T) (hI : TI T) (hH : HRel μ nh (T 78) S) (hd : T 77 ≤ 9999) (l : Launch) (E : Ev) (A : Nat → Prop) : Con l E 7 m_X7_of A (VC nh) ad μ [.ref (ad (0, 0, 0)), .int (I c), .int (I w)] (pi fun z μ' => z = ofZ S T c w ∧ ∀ o, ¬ scO o → μ' o = μ o) := by
  have h76 := hI.2.2.1
  refine con (own := RX7) (by decide +kernel) rfl rfl rfl (fun Γ F => ?_)
  refine x_aload_n (i := 0) (pc := 0) F dX7_of_0 rfl rfl ?_
  refine x_iload_n (i := 1) (pc := 1) F dX7_of_1 rfl rfl ?_
  refine x_V1z (ci := 7) (pc := 2) F dX7_of_2 lk_X7_102 rfl (v_0 (by omega)) rfl rfl (c_X7_isComer _ (by omega) hR0 hI) rfl rfl rfl ?_
  rintro _ _ ⟨rfl, rfl⟩
  refine x_if_neB (tgt := 10) (pc := 5) F dX7_of_5 rfl (fun h5 => ?_) (fun h5 => ?_)
  · try simp only [decide_eq_true_eq, decide_eq_false_iff_not, Bool.and_eq_true, Bool.or_eq_true, Bool.not_eq_true', Bool.not_eq_false', Bool.and_eq_false_iff, Bool.or_eq_false_iff] at h5
    obtain ⟨c0, c1, c2, c3, c4, c5, c6, c7⟩ := hR0.2.1 c (by omega) (by omega)
    refine x_aload_n (i := 0) (pc := 10) F dX7_of_10 rfl rfl ?_
    refine gf_X7_62 (pc := 11) F dX7_of_11 (v_0 (by omega)) ?_
    refine gf_X7_94 (pc := 14) F dX7_of_14 (v_1 (by omega)) ?_
    refine x_iload_n (i := 1) (pc := 17) F dX7_of_17 rfl rfl ?_
    refine tq_pa (pc := 18) F dX7_of_18 (v_11 (by omega)) (by omega) ?_
    refine x_astore_n (i := 3) (pc := 19) F dX7_of_19 rfl rfl ?_
    refine x_iload_n (i := 2) (pc := 20) F dX7_of_20 rfl rfl ?_
    refine x_bipush (pc := 21) F dX7_of_21 (by decide) ?_
    refine x_isub (pc := 23) F dX7_of_23 ?_
    refine x_iconst (pc := 24) F dX7_of_24 ?_
    refine x_S2z (pc := 25) F dX7_of_25 lk_X7_83 rfl (c_isInW _ _ _ (by omega)) rfl rfl rfl ?_
    rintro _ _ ⟨rfl, rfl⟩
    refine x_if_eqB (tgt := 52) (pc := 28) F dX7_of_28 rfl (fun h28 => ?_) (fun h28 => ?_)
    · try simp only [decide_eq_true_eq, decide_eq_false_iff_not, Bool.and_eq_true, Bool.or_eq_true, Bool.not_eq_true', Bool.not_eq_false', Bool.and_eq_false_iff, Bool.or_eq_false_iff] at h28
      refine x_iload_n (i := 2) (pc := 52) F dX7_of_52 rfl rfl ?_
      refine x_bipush (pc := 53) F dX7_of_53 (by decide) ?_
      refine x_isub (pc := 55) F dX7_of_55 ?_
      refine x_iconst (pc := 56) F dX7_of_56 ?_
      refine x_S2z (pc := 57) F dX7_of_57 lk_X7_83 rfl (c_isInW _ _ _ (by omega)) rfl rfl rfl ?_
      rintro _ _ ⟨rfl, rfl⟩
      refine x_if_eqB (tgt := 73) (pc := 60) F dX7_of_60 rfl (fun h60 => ?_) (fun h60 => ?_)
      · try simp only [decide_eq_true_eq, decide_eq_false_iff_not, Bool.and_eq_true, Bool.or_eq_true, Bool.not_eq_true', Bool.not_eq_false', Bool.and_eq_false_iff, Bool.or_eq_false_iff] at h60
        refine x_iload_n (i := 2) (pc := 73) F dX7_of_73 rfl rfl ?_
        refine x_tab (ts := [116, 121, 126, 131, 136, 141, 146]) (dt := 152) (pc := 74) F dX7_of_74 rfl rfl (by omega) ⟨fun h74 => ?_, fun h74 => ?_, fun h74 => ?_, fun h74 => ?_, fun h74 => ?_, fun h74 => ?_, fun h74 => ?_, trivial⟩ (fun h74 => ?_)
        · refine x_aload_n (i := 3) (pc := 116) F dX7_of_116 rfl rfl ?_
          refine gf_X7_114 (pc := 117) F dX7_of_117 (v_4 (by omega)) ?_
          refine tq_reti (pc := 120) F dX7_of_120 ?_ rfl rfl rfl
          exact ⟨by unfold ofZ; rw [if_pos (by omega), if_neg (by omega), if_neg (by omega), if_pos (by omega), c1]; congr 1; omega, fun o _ => rfl⟩
        · refine x_aload_n (i := 3) (pc := 121) F dX7_of_121 rfl rfl ?_
          refine gf_X7_117 (pc := 122) F dX7_of_122 (v_4 (by omega)) ?_
          refine tq_reti (pc := 125) F dX7_of_125 ?_ rfl rfl rfl
          exact ⟨by unfold ofZ; rw [if_pos (by omega), if_neg (by omega), if_neg (by omega), if_pos (by omega), c2]; congr 1; omega, fun o _ => rfl⟩
        · refine x_aload_n (i := 3) (pc := 126) F dX7_of_126 rfl rfl ?_
          refine gf_X7_120 (pc := 127) F dX7_of_127 (v_4 (by omega)) ?_
          refine tq_reti (pc := 130) F dX7_of_130 ?_ rfl rfl rfl
          exact ⟨by unfold ofZ; rw [if_pos (by omega), if_neg (by omega), if_neg (by omega), if_pos (by omega), c3]; congr 1; omega, fun o _ => rfl⟩
        · refine x_aload_n (i := 3) (pc := 131) F dX7_of_131 rfl rfl ?_
          refine gf_X7_123 (pc := 132) F dX7_of_132 (v_4 (by omega)) ?_
          refine tq_reti (pc := 135) F dX7_of_135 ?_ rfl rfl rfl
          exact ⟨by unfold ofZ; rw [if_pos (by omega), if_neg (by omega), if_neg (by omega), if_pos (by omega), c4]; congr 1; omega, fun o _ => rfl⟩
        · refine x_aload_n (i := 3) (pc := 136) F dX7_of_136 rfl rfl ?_
          refine gf_X7_126 (pc := 137) F dX7_of_137 (v_4 (by omega)) ?_
          refine tq_reti (pc := 140) F dX7_of_140 ?_ rfl rfl rfl
          exact ⟨by unfold ofZ; rw [if_pos (by omega), if_neg (by omega), if_neg (by omega), if_pos (by omega), c5]; congr 1; omega, fun o _ => rfl⟩
        · refine x_aload_n (i := 3) (pc := 141) F dX7_of_141 rfl rfl ?_
          refine gf_X7_129 (pc := 142) F dX7_of_142 (v_4 (by omega)) ?_
          refine tq_reti (pc := 145) F dX7_of_145 ?_ rfl rfl rfl
          exact ⟨by unfold ofZ; rw [if_pos (by omega), if_neg (by omega), if_neg (by omega), if_pos (by omega), c6]; congr 1; omega, fun o _ => rfl⟩
        · refine x_aload_n (i := 0) (pc := 146) F dX7_of_146 rfl rfl ?_
          refine x_iload_n (i := 1) (pc := 147) F dX7_of_147 rfl rfl ?_
          refine x_V1i (ci := 7) (pc := 148) F dX7_of_148 lk_X7_132 rfl (v_0 (by omega)) rfl rfl (c_X7_daysUntilOut _ (by omega) hR0 hI hH hd) rfl rfl rfl ?_
          rintro _ μ1 ⟨rfl, e1⟩
          refine tq_reti (pc := 151) F dX7_of_151 ?_ rfl rfl rfl
          exact ⟨by unfold ofZ; rw [if_pos (by omega), if_neg (by omega), if_neg (by omega), if_neg (by omega), if_pos (by omega)], e1⟩
        · refine x_iconst (pc := 152) F dX7_of_152 ?_
          refine tq_reti (pc := 153) F dX7_of_153 ?_ rfl rfl rfl
          exact ⟨by unfold ofZ; rw [if_pos (by omega), if_neg (by omega), if_neg (by omega), if_neg (by omega), if_neg (by omega)], fun o _ => rfl⟩
      · try simp only [decide_eq_true_eq, decide_eq_false_iff_not, Bool.and_eq_true, Bool.or_eq_true, Bool.not_eq_true', Bool.not_eq_false', Bool.and_eq_false_iff, Bool.or_eq_false_iff] at h60
        refine x_aload_n (i := 0) (pc := 63) F dX7_of_63 rfl rfl ?_
        refine x_aload_n (i := 3) (pc := 64) F dX7_of_64 rfl rfl ?_
        refine x_iload_n (i := 2) (pc := 65) F dX7_of_65 rfl rfl ?_
        refine x_bipush (pc := 66) F dX7_of_66 (by decide) ?_
        refine x_isub (pc := 68) F dX7_of_68 ?_
        refine x_V2i (ci := 7) (pc := 69) F dX7_of_69 lk_X7_110 rfl (v_0 (by omega)) rfl rfl (c_X7_nearest _ _ (by omega) (by omega) hR0 hI hH hd) rfl rfl rfl ?_
        rintro _ _ ⟨rfl, rfl⟩
        refine tq_reti (pc := 72) F dX7_of_72 ?_ rfl rfl rfl
        exact ⟨by unfold ofZ; rw [if_pos (by omega), if_neg (by omega), if_pos (by omega)], fun o _ => rfl⟩
    · try simp only [decide_eq_true_eq, decide_eq_false_iff_not, Bool.and_eq_true, Bool.or_eq_true, Bool.not_eq_true', Bool.not_eq_false', Bool.and_eq_false_iff, Bool.or_eq_false_iff] at h28
      refine x_aload_n (i := 0) (pc := 31) F dX7_of_31 rfl rfl ?_
      refine gf_X7_62 (pc := 32) F dX7_of_32 (v_0 (by omega)) ?_
      refine x_aload_n (i := 3) (pc := 35) F dX7_of_35 rfl rfl ?_
      refine x_iload_n (i := 2) (pc := 36) F dX7_of_36 rfl rfl ?_
      refine x_bipush (pc := 37) F dX7_of_37 (by decide) ?_
      refine x_isub (pc := 39) F dX7_of_39 ?_
      refine x_V2z (ci := 6) (pc := 40) F dX7_of_40 lk_X7_106 rfl (v_1 (by omega)) rfl rfl (c_X6_letsBy (hR0.town hI hH (by omega) (by omega)) (hR0.comer hI (by omega) (by omega) (by omega)) (by omega) (hR0.gate hI (by omega))) rfl rfl rfl ?_
      rintro b _ ⟨hbb, rfl⟩
      rw [hR0.let hH hI (by omega) (by omega)] at hbb
      refine x_if_eqB (tgt := 50) (pc := 43) F dX7_of_43 rfl (fun h43 => ?_) (fun h43 => ?_)
      · try simp only [decide_eq_true_eq, decide_eq_false_iff_not, Bool.and_eq_true, Bool.or_eq_true, Bool.not_eq_true', Bool.not_eq_false', Bool.and_eq_false_iff, Bool.or_eq_false_iff] at h43
        refine x_iconst (pc := 50) F dX7_of_50 ?_
        refine tq_reti (pc := 51) F dX7_of_51 ?_ rfl rfl rfl
        refine ⟨?_, fun o _ => rfl⟩
        unfold ofZ; rw [if_pos (by omega), if_pos (by omega)]
        first | (rw [pI_t (hbb.mp h43)]; done) | (rw [pI_f (fun z => by have := hbb.mpr z; rw [h43] at this; cases this)]; done)
      · try simp only [decide_eq_true_eq, decide_eq_false_iff_not, Bool.and_eq_true, Bool.or_eq_true, Bool.not_eq_true', Bool.not_eq_false', Bool.and_eq_false_iff, Bool.or_eq_false_iff] at h43
        refine x_iconst (pc := 46) F dX7_of_46 ?_
        refine x_goto (tgt := 51) (pc := 47) F dX7_of_47 rfl ?_
        refine tq_reti (pc := 51) F dX7_of_51 ?_ rfl rfl rfl
        refine ⟨?_, fun o _ => rfl⟩
        unfold ofZ; rw [if_pos (by omega), if_pos (by omega)]
        first | (rw [pI_t (hbb.mp h43)]; done) | (rw [pI_f (fun z => by have := hbb.mpr z; rw [h43] at this; cases this)]; done)
  · try simp only [decide_eq_true_eq, decide_eq_false_iff_not, Bool.and_eq_true, Bool.or_eq_true, Bool.not_eq_true', Bool.not_eq_false', Bool.and_eq_false_iff, Bool.or_eq_false_iff] at h5
    refine x_iconst (pc := 8) F dX7_of_8 ?_
    refine tq_reti (pc := 9) F dX7_of_9 ?_ rfl rfl rfl
    exact ⟨by unfold ofZ; rw [if_neg (by omega)], fun o _ => rfl⟩
set_option maxRecDepth 20000 in
theorem c_X7_pass (n : Int) (hn : -2147483648 ≤ n ∧ n < 2147483648) (hR0 : TR μ 0 T) (hI : TI T) (hH : HRel μ nh (T 78) S) (hd : T 77 ≤ 9999) (l : Launch) (E : Ev) (A : Nat → Prop) : Con l E 7 m_X7_pass A (VC nh) ad μ [.ref (ad (0, 0, 0)), .int (I n)] (pi fun z μ' => z = passZ S T n ∧ TR μ' 0 (passN S T n) ∧ ∀ o, ¬ nwO o → μ' o = μ o) := by
  have h76 := hI.2.2.1
  have h77 := hI.2.2.2.1
  have hdd : μ (1, 0, 0) 6 = T 77 := hR0.2.2.1.2.1
  refine con (own := RX7) (by decide +kernel) rfl rfl rfl (fun Γ F => ?_)
  refine x_iload_n (i := 1) (pc := 0) F dX7_pass_0 rfl rfl ?_
  refine x_bipush (pc := 1) F dX7_pass_1 (by decide) ?_
  refine x_S2z (pc := 3) F dX7_pass_3 lk_X7_83 rfl (c_isInW _ _ _ (by omega)) rfl rfl rfl ?_
  rintro _ _ ⟨rfl, rfl⟩
  refine x_if_neB (tgt := 12) (pc := 6) F dX7_pass_6 rfl (fun h6 => ?_) (fun h6 => ?_)
  · try simp only [decide_eq_true_eq, decide_eq_false_iff_not, Bool.and_eq_true, Bool.or_eq_true, Bool.not_eq_true', Bool.not_eq_false', Bool.and_eq_false_iff, Bool.or_eq_false_iff] at h6
    refine x_aload_n (i := 0) (pc := 12) F dX7_pass_12 rfl rfl ?_
    refine gf_X7_62 (pc := 13) F dX7_pass_13 (v_0 (by omega)) ?_
    refine gf_X7_153 (pc := 16) F dX7_pass_16 (v_1 (by omega)) ?_
    rw [hdd]
    refine x_iload_n (i := 1) (pc := 19) F dX7_pass_19 rfl rfl ?_
    refine x_iadd (pc := 20) F dX7_pass_20 ?_
    refine x_sipush (pc := 21) F dX7_pass_21 (by decide) ?_
    refine x_icmp_le (tgt := 30) (pc := 24) F dX7_pass_24 rfl (by omega) (fun h24 => ?_) (fun h24 => ?_)
    · refine x_aload_n (i := 0) (pc := 30) F dX7_pass_30 rfl rfl ?_
      refine gf_X7_62 (pc := 31) F dX7_pass_31 (v_0 (by omega)) ?_
      refine x_iload_n (i := 1) (pc := 34) F dX7_pass_34 rfl rfl ?_
      refine x_V1v (ci := 6) (pc := 35) F dX7_pass_35 lk_X7_91 rfl (v_1 (by omega)) rfl rfl (c_X6_goDays n (by omega) hR0 hI hH (by decide) (by omega)) rfl rfl rfl ?_
      rintro μ1 ⟨e1, e2⟩
      refine x_aload_n (i := 0) (pc := 38) F dX7_pass_38 rfl rfl ?_
      refine gf_X7_62 (pc := 39) F dX7_pass_39 (v_0 (by omega)) ?_
      refine gf_X7_153 (pc := 42) F dX7_pass_42 (v_1 (by omega)) ?_
      rw [show μ1 (1, 0, 0) 6 = T 77 + n by rw [e1.2.2.1.2.1, daysT_77]; omega]
      refine tq_reti (pc := 45) F dX7_pass_45 ?_ rfl rfl rfl
      exact ⟨by unfold passZ; rw [if_pos (by omega), if_pos (by omega)], by unfold passN; rw [if_pos (by omega)]; exact e1, fun o ho => e2 o (by rintro rfl; exact ho ⟨by simp, by simp, rfl⟩) (fun p => by rintro rfl; exact ho ⟨by simp, by simp, rfl⟩)⟩
    · refine x_bipush (pc := 27) F dX7_pass_27 (by decide) ?_
      refine tq_reti (pc := 29) F dX7_pass_29 ?_ rfl rfl rfl
      exact ⟨by unfold passZ; rw [if_pos (by omega), if_neg (by omega)], by unfold passN; rw [if_neg (by omega)]; exact hR0, fun o _ => rfl⟩
  · try simp only [decide_eq_true_eq, decide_eq_false_iff_not, Bool.and_eq_true, Bool.or_eq_true, Bool.not_eq_true', Bool.not_eq_false', Bool.and_eq_false_iff, Bool.or_eq_false_iff] at h6
    refine x_bipush (pc := 9) F dX7_pass_9 (by decide) ?_
    refine tq_reti (pc := 11) F dX7_pass_11 ?_ rfl rfl rfl
    exact ⟨by unfold passZ; rw [if_neg (by omega)], by unfold passN; rw [if_neg (by omega)]; exact hR0, fun o _ => rfl⟩
set_option maxRecDepth 20000 in
theorem c_X7_on (n w : Int) (hn : -2147483648 ≤ n ∧ n < 2147483648) (hw : -2147483648 ≤ w ∧ w < 2147483648) (hR0 : TR μ 0 T) (hI : TI T) (hH : HRel μ nh (T 78) S) (hd : T 77 ≤ 9999) (l : Launch) (E : Ev) (A : Nat → Prop) : Con l E 8 m_X7_on A (VC nh) ad μ [.ref (ad (0, 0, 0)), .int (I n), .int (I w)] (pi fun z μ' => z = onZ S T n w ∧ ∀ o, ¬ scO o → μ' o = μ o) := by
  have h76 := hI.2.2.1
  have h77 := hI.2.2.2.1
  have hS0 : 0 ≤ S.2.2 := by
    have h1 := hH.2.1.2.2.2.2.2.2.1
    rw [hH.2.2.2.2] at h1
    exact h1
  have g77 := daysT_77 (S := S) (T := T) n.toNat
  have gI := daysT_TI hI hS0 n.toNat
  have g78 : daysT S n.toNat T 78 = T 78 := daysT_o hI hS0 (by decide) (by omega) n.toNat
  refine con (own := RX7) (by decide +kernel) rfl rfl rfl (fun Γ F => ?_)
  refine x_iload_n (i := 2) (pc := 0) F dX7_on_0 rfl rfl ?_
  refine x_if_eq (tgt := 28) (pc := 1) F dX7_on_1 rfl (by omega) (fun h1 => ?_) (fun h1 => ?_)
  · refine x_iload_n (i := 1) (pc := 28) F dX7_on_28 rfl rfl ?_
    refine x_bipush (pc := 29) F dX7_on_29 (by decide) ?_
    refine x_S2z (pc := 31) F dX7_on_31 lk_X7_83 rfl (c_isInW _ _ _ (by omega)) rfl rfl rfl ?_
    rintro _ _ ⟨rfl, rfl⟩
    refine x_if_neB (tgt := 40) (pc := 34) F dX7_on_34 rfl (fun h34 => ?_) (fun h34 => ?_)
    · try simp only [decide_eq_true_eq, decide_eq_false_iff_not, Bool.and_eq_true, Bool.or_eq_true, Bool.not_eq_true', Bool.not_eq_false', Bool.and_eq_false_iff, Bool.or_eq_false_iff] at h34
      refine x_aload_n (i := 0) (pc := 40) F dX7_on_40 rfl rfl ?_
      refine x_iload_n (i := 1) (pc := 41) F dX7_on_41 rfl rfl ?_
      refine x_V1r (ci := 7) (pc := 42) F dX7_on_42 lk_X7_212 rfl (v_0 (by omega)) rfl rfl (c_X7_aheadBy _ (by omega) hR0 hI hH (by omega)) rfl rfl rfl ?_
      rintro a μ1 ⟨rfl, e1, e2⟩
      refine x_astore_n (i := 3) (pc := 45) F dX7_on_45 rfl rfl ?_
      refine x_iload_n (i := 2) (pc := 46) F dX7_on_46 rfl rfl ?_
      refine x_if_ne (tgt := 55) (pc := 47) F dX7_on_47 rfl (by omega) (fun h47 => ?_) (fun h47 => ?_)
      · refine x_aload_n (i := 0) (pc := 55) F dX7_on_55 rfl rfl ?_
        refine x_iload_n (i := 2) (pc := 56) F dX7_on_56 rfl rfl ?_
        refine x_bipush (pc := 57) F dX7_on_57 (by decide) ?_
        refine x_isub (pc := 59) F dX7_on_59 ?_
        refine x_V1z (ci := 7) (pc := 60) F dX7_on_60 lk_X7_102 rfl (v_0 (by omega)) rfl rfl (c_X7_isComer _ (by omega) (TR_sc hR0 (Or.inl rfl) e2) hI) rfl rfl rfl ?_
        rintro _ _ ⟨rfl, rfl⟩
        refine x_if_eqB (tgt := 81) (pc := 63) F dX7_on_63 rfl (fun h63 => ?_) (fun h63 => ?_)
        · try simp only [decide_eq_true_eq, decide_eq_false_iff_not, Bool.and_eq_true, Bool.or_eq_true, Bool.not_eq_true', Bool.not_eq_false', Bool.and_eq_false_iff, Bool.or_eq_false_iff] at h63
          refine x_aload_n (i := 3) (pc := 81) F dX7_on_81 rfl rfl ?_
          refine gf_X7_94 (pc := 82) F dX7_on_82 (v_1 (by omega)) ?_
          refine x_iload_n (i := 2) (pc := 85) F dX7_on_85 rfl rfl ?_
          refine x_bipush (pc := 86) F dX7_on_86 (by decide) ?_
          refine x_isub (pc := 88) F dX7_on_88 ?_
          refine tq_pa (pc := 89) F dX7_on_89 (v_11 (by omega)) (by omega) ?_
          have hcp := (e1.2.1 (w - 20) (by omega) (by omega)).2.2.2.1
          refine gf_X7_120 (pc := 90) F dX7_on_90 (v_4 (by omega)) ?_
          try rw [hcp]
          refine tq_reti (pc := 93) F dX7_on_93 ?_ rfl rfl rfl
          first | (exfalso; omega) | exact ⟨by unfold onZ; rw [if_pos (by omega), if_pos (by omega), if_neg (by omega)]; first | rw [if_pos (by omega)] | rw [if_neg (by omega)], e2⟩
        · try simp only [decide_eq_true_eq, decide_eq_false_iff_not, Bool.and_eq_true, Bool.or_eq_true, Bool.not_eq_true', Bool.not_eq_false', Bool.and_eq_false_iff, Bool.or_eq_false_iff] at h63
          refine x_aload_n (i := 3) (pc := 66) F dX7_on_66 rfl rfl ?_
          refine gf_X7_94 (pc := 67) F dX7_on_67 (v_1 (by omega)) ?_
          refine x_iload_n (i := 2) (pc := 70) F dX7_on_70 rfl rfl ?_
          refine x_bipush (pc := 71) F dX7_on_71 (by decide) ?_
          refine x_isub (pc := 73) F dX7_on_73 ?_
          refine tq_pa (pc := 74) F dX7_on_74 (v_11 (by omega)) (by omega) ?_
          have hcp := (e1.2.1 (w - 10) (by omega) (by omega)).2.2.2.2.2.2.1
          refine gf_X7_129 (pc := 75) F dX7_on_75 (v_4 (by omega)) ?_
          rw [hcp]
          refine x_goto (tgt := 93) (pc := 78) F dX7_on_78 rfl ?_
          try rw [hcp]
          refine tq_reti (pc := 93) F dX7_on_93 ?_ rfl rfl rfl
          first | (exfalso; omega) | exact ⟨by unfold onZ; rw [if_pos (by omega), if_pos (by omega), if_neg (by omega)]; first | rw [if_pos (by omega)] | rw [if_neg (by omega)], e2⟩
      · refine x_aload_n (i := 3) (pc := 50) F dX7_on_50 rfl rfl ?_
        refine x_V0i (ci := 6) (pc := 51) F dX7_on_51 lk_X7_195 rfl (v_1 (by omega)) rfl rfl (c_X6_whoIsLet e1 gI (by rw [g78]; exact hH.fr (fun o ho => e2 o (scO_hs ho))) (by decide) (by omega)) rfl rfl rfl ?_
        rintro _ _ ⟨rfl, rfl⟩
        refine tq_reti (pc := 54) F dX7_on_54 ?_ rfl rfl rfl
        exact ⟨by unfold onZ; rw [if_pos (by omega), if_pos (by omega), if_pos (by omega)], e2⟩
    · try simp only [decide_eq_true_eq, decide_eq_false_iff_not, Bool.and_eq_true, Bool.or_eq_true, Bool.not_eq_true', Bool.not_eq_false', Bool.and_eq_false_iff, Bool.or_eq_false_iff] at h34
      refine x_bipush (pc := 37) F dX7_on_37 (by decide) ?_
      refine tq_reti (pc := 39) F dX7_on_39 ?_ rfl rfl rfl
      exact ⟨by unfold onZ; rw [if_pos (by omega), if_neg (by omega)], fun o _ => rfl⟩
  · refine x_aload_n (i := 0) (pc := 4) F dX7_on_4 rfl rfl ?_
    refine x_iload_n (i := 2) (pc := 5) F dX7_on_5 rfl rfl ?_
    refine x_bipush (pc := 6) F dX7_on_6 (by decide) ?_
    refine x_isub (pc := 8) F dX7_on_8 ?_
    refine x_V1z (ci := 7) (pc := 9) F dX7_on_9 lk_X7_102 rfl (v_0 (by omega)) rfl rfl (c_X7_isComer _ (by omega) hR0 hI) rfl rfl rfl ?_
    rintro _ _ ⟨rfl, rfl⟩
    refine x_if_neB (tgt := 28) (pc := 12) F dX7_on_12 rfl (fun h12 => ?_) (fun h12 => ?_)
    · try simp only [decide_eq_true_eq, decide_eq_false_iff_not, Bool.and_eq_true, Bool.or_eq_true, Bool.not_eq_true', Bool.not_eq_false', Bool.and_eq_false_iff, Bool.or_eq_false_iff] at h12
      refine x_iload_n (i := 1) (pc := 28) F dX7_on_28 rfl rfl ?_
      refine x_bipush (pc := 29) F dX7_on_29 (by decide) ?_
      refine x_S2z (pc := 31) F dX7_on_31 lk_X7_83 rfl (c_isInW _ _ _ (by omega)) rfl rfl rfl ?_
      rintro _ _ ⟨rfl, rfl⟩
      refine x_if_neB (tgt := 40) (pc := 34) F dX7_on_34 rfl (fun h34 => ?_) (fun h34 => ?_)
      · try simp only [decide_eq_true_eq, decide_eq_false_iff_not, Bool.and_eq_true, Bool.or_eq_true, Bool.not_eq_true', Bool.not_eq_false', Bool.and_eq_false_iff, Bool.or_eq_false_iff] at h34
        refine x_aload_n (i := 0) (pc := 40) F dX7_on_40 rfl rfl ?_
        refine x_iload_n (i := 1) (pc := 41) F dX7_on_41 rfl rfl ?_
        refine x_V1r (ci := 7) (pc := 42) F dX7_on_42 lk_X7_212 rfl (v_0 (by omega)) rfl rfl (c_X7_aheadBy _ (by omega) hR0 hI hH (by omega)) rfl rfl rfl ?_
        rintro a μ1 ⟨rfl, e1, e2⟩
        refine x_astore_n (i := 3) (pc := 45) F dX7_on_45 rfl rfl ?_
        refine x_iload_n (i := 2) (pc := 46) F dX7_on_46 rfl rfl ?_
        refine x_if_ne (tgt := 55) (pc := 47) F dX7_on_47 rfl (by omega) (fun h47 => ?_) (fun h47 => ?_)
        · refine x_aload_n (i := 0) (pc := 55) F dX7_on_55 rfl rfl ?_
          refine x_iload_n (i := 2) (pc := 56) F dX7_on_56 rfl rfl ?_
          refine x_bipush (pc := 57) F dX7_on_57 (by decide) ?_
          refine x_isub (pc := 59) F dX7_on_59 ?_
          refine x_V1z (ci := 7) (pc := 60) F dX7_on_60 lk_X7_102 rfl (v_0 (by omega)) rfl rfl (c_X7_isComer _ (by omega) (TR_sc hR0 (Or.inl rfl) e2) hI) rfl rfl rfl ?_
          rintro _ _ ⟨rfl, rfl⟩
          refine x_if_eqB (tgt := 81) (pc := 63) F dX7_on_63 rfl (fun h63 => ?_) (fun h63 => ?_)
          · try simp only [decide_eq_true_eq, decide_eq_false_iff_not, Bool.and_eq_true, Bool.or_eq_true, Bool.not_eq_true', Bool.not_eq_false', Bool.and_eq_false_iff, Bool.or_eq_false_iff] at h63
            refine x_aload_n (i := 3) (pc := 81) F dX7_on_81 rfl rfl ?_
            refine gf_X7_94 (pc := 82) F dX7_on_82 (v_1 (by omega)) ?_
            refine x_iload_n (i := 2) (pc := 85) F dX7_on_85 rfl rfl ?_
            refine x_bipush (pc := 86) F dX7_on_86 (by decide) ?_
            refine x_isub (pc := 88) F dX7_on_88 ?_
            refine tq_pa (pc := 89) F dX7_on_89 (v_11 (by omega)) (by omega) ?_
            have hcp := (e1.2.1 (w - 20) (by omega) (by omega)).2.2.2.1
            refine gf_X7_120 (pc := 90) F dX7_on_90 (v_4 (by omega)) ?_
            try rw [hcp]
            refine tq_reti (pc := 93) F dX7_on_93 ?_ rfl rfl rfl
            first | (exfalso; omega) | exact ⟨by unfold onZ; rw [if_pos (by omega), if_pos (by omega), if_neg (by omega)]; first | rw [if_pos (by omega)] | rw [if_neg (by omega)], e2⟩
          · try simp only [decide_eq_true_eq, decide_eq_false_iff_not, Bool.and_eq_true, Bool.or_eq_true, Bool.not_eq_true', Bool.not_eq_false', Bool.and_eq_false_iff, Bool.or_eq_false_iff] at h63
            refine x_aload_n (i := 3) (pc := 66) F dX7_on_66 rfl rfl ?_
            refine gf_X7_94 (pc := 67) F dX7_on_67 (v_1 (by omega)) ?_
            refine x_iload_n (i := 2) (pc := 70) F dX7_on_70 rfl rfl ?_
            refine x_bipush (pc := 71) F dX7_on_71 (by decide) ?_
            refine x_isub (pc := 73) F dX7_on_73 ?_
            refine tq_pa (pc := 74) F dX7_on_74 (v_11 (by omega)) (by omega) ?_
            have hcp := (e1.2.1 (w - 10) (by omega) (by omega)).2.2.2.2.2.2.1
            refine gf_X7_129 (pc := 75) F dX7_on_75 (v_4 (by omega)) ?_
            rw [hcp]
            refine x_goto (tgt := 93) (pc := 78) F dX7_on_78 rfl ?_
            try rw [hcp]
            refine tq_reti (pc := 93) F dX7_on_93 ?_ rfl rfl rfl
            first | (exfalso; omega) | exact ⟨by unfold onZ; rw [if_pos (by omega), if_pos (by omega), if_neg (by omega)]; first | rw [if_pos (by omega)] | rw [if_neg (by omega)], e2⟩
        · refine x_aload_n (i := 3) (pc := 50) F dX7_on_50 rfl rfl ?_
          refine x_V0i (ci := 6) (pc := 51) F dX7_on_51 lk_X7_195 rfl (v_1 (by omega)) rfl rfl (c_X6_whoIsLet e1 gI (by rw [g78]; exact hH.fr (fun o ho => e2 o (scO_hs ho))) (by decide) (by omega)) rfl rfl rfl ?_
          rintro _ _ ⟨rfl, rfl⟩
          refine tq_reti (pc := 54) F dX7_on_54 ?_ rfl rfl rfl
          exact ⟨by unfold onZ; rw [if_pos (by omega), if_pos (by omega), if_pos (by omega)], e2⟩
      · try simp only [decide_eq_true_eq, decide_eq_false_iff_not, Bool.and_eq_true, Bool.or_eq_true, Bool.not_eq_true', Bool.not_eq_false', Bool.and_eq_false_iff, Bool.or_eq_false_iff] at h34
        refine x_bipush (pc := 37) F dX7_on_37 (by decide) ?_
        refine tq_reti (pc := 39) F dX7_on_39 ?_ rfl rfl rfl
        exact ⟨by unfold onZ; rw [if_pos (by omega), if_neg (by omega)], fun o _ => rfl⟩
    · try simp only [decide_eq_true_eq, decide_eq_false_iff_not, Bool.and_eq_true, Bool.or_eq_true, Bool.not_eq_true', Bool.not_eq_false', Bool.and_eq_false_iff, Bool.or_eq_false_iff] at h12
      refine x_aload_n (i := 0) (pc := 15) F dX7_on_15 rfl rfl ?_
      refine x_iload_n (i := 2) (pc := 16) F dX7_on_16 rfl rfl ?_
      refine x_bipush (pc := 17) F dX7_on_17 (by decide) ?_
      refine x_isub (pc := 19) F dX7_on_19 ?_
      refine x_V1z (ci := 7) (pc := 20) F dX7_on_20 lk_X7_102 rfl (v_0 (by omega)) rfl rfl (c_X7_isComer _ (by omega) hR0 hI) rfl rfl rfl ?_
      rintro _ _ ⟨rfl, rfl⟩
      refine x_if_neB (tgt := 28) (pc := 23) F dX7_on_23 rfl (fun h23 => ?_) (fun h23 => ?_)
      · try simp only [decide_eq_true_eq, decide_eq_false_iff_not, Bool.and_eq_true, Bool.or_eq_true, Bool.not_eq_true', Bool.not_eq_false', Bool.and_eq_false_iff, Bool.or_eq_false_iff] at h23
        refine x_iload_n (i := 1) (pc := 28) F dX7_on_28 rfl rfl ?_
        refine x_bipush (pc := 29) F dX7_on_29 (by decide) ?_
        refine x_S2z (pc := 31) F dX7_on_31 lk_X7_83 rfl (c_isInW _ _ _ (by omega)) rfl rfl rfl ?_
        rintro _ _ ⟨rfl, rfl⟩
        refine x_if_neB (tgt := 40) (pc := 34) F dX7_on_34 rfl (fun h34 => ?_) (fun h34 => ?_)
        · try simp only [decide_eq_true_eq, decide_eq_false_iff_not, Bool.and_eq_true, Bool.or_eq_true, Bool.not_eq_true', Bool.not_eq_false', Bool.and_eq_false_iff, Bool.or_eq_false_iff] at h34
          refine x_aload_n (i := 0) (pc := 40) F dX7_on_40 rfl rfl ?_
          refine x_iload_n (i := 1) (pc := 41) F dX7_on_41 rfl rfl ?_
          refine x_V1r (ci := 7) (pc := 42) F dX7_on_42 lk_X7_212 rfl (v_0 (by omega)) rfl rfl (c_X7_aheadBy _ (by omega) hR0 hI hH (by omega)) rfl rfl rfl ?_
          rintro a μ1 ⟨rfl, e1, e2⟩
          refine x_astore_n (i := 3) (pc := 45) F dX7_on_45 rfl rfl ?_
          refine x_iload_n (i := 2) (pc := 46) F dX7_on_46 rfl rfl ?_
          refine x_if_ne (tgt := 55) (pc := 47) F dX7_on_47 rfl (by omega) (fun h47 => ?_) (fun h47 => ?_)
          · refine x_aload_n (i := 0) (pc := 55) F dX7_on_55 rfl rfl ?_
            refine x_iload_n (i := 2) (pc := 56) F dX7_on_56 rfl rfl ?_
            refine x_bipush (pc := 57) F dX7_on_57 (by decide) ?_
            refine x_isub (pc := 59) F dX7_on_59 ?_
            refine x_V1z (ci := 7) (pc := 60) F dX7_on_60 lk_X7_102 rfl (v_0 (by omega)) rfl rfl (c_X7_isComer _ (by omega) (TR_sc hR0 (Or.inl rfl) e2) hI) rfl rfl rfl ?_
            rintro _ _ ⟨rfl, rfl⟩
            refine x_if_eqB (tgt := 81) (pc := 63) F dX7_on_63 rfl (fun h63 => ?_) (fun h63 => ?_)
            · try simp only [decide_eq_true_eq, decide_eq_false_iff_not, Bool.and_eq_true, Bool.or_eq_true, Bool.not_eq_true', Bool.not_eq_false', Bool.and_eq_false_iff, Bool.or_eq_false_iff] at h63
              refine x_aload_n (i := 3) (pc := 81) F dX7_on_81 rfl rfl ?_
              refine gf_X7_94 (pc := 82) F dX7_on_82 (v_1 (by omega)) ?_
              refine x_iload_n (i := 2) (pc := 85) F dX7_on_85 rfl rfl ?_
              refine x_bipush (pc := 86) F dX7_on_86 (by decide) ?_
              refine x_isub (pc := 88) F dX7_on_88 ?_
              refine tq_pa (pc := 89) F dX7_on_89 (v_11 (by omega)) (by omega) ?_
              have hcp := (e1.2.1 (w - 20) (by omega) (by omega)).2.2.2.1
              refine gf_X7_120 (pc := 90) F dX7_on_90 (v_4 (by omega)) ?_
              try rw [hcp]
              refine tq_reti (pc := 93) F dX7_on_93 ?_ rfl rfl rfl
              first | (exfalso; omega) | exact ⟨by unfold onZ; rw [if_pos (by omega), if_pos (by omega), if_neg (by omega)]; first | rw [if_pos (by omega)] | rw [if_neg (by omega)], e2⟩
            · try simp only [decide_eq_true_eq, decide_eq_false_iff_not, Bool.and_eq_true, Bool.or_eq_true, Bool.not_eq_true', Bool.not_eq_false', Bool.and_eq_false_iff, Bool.or_eq_false_iff] at h63
              refine x_aload_n (i := 3) (pc := 66) F dX7_on_66 rfl rfl ?_
              refine gf_X7_94 (pc := 67) F dX7_on_67 (v_1 (by omega)) ?_
              refine x_iload_n (i := 2) (pc := 70) F dX7_on_70 rfl rfl ?_
              refine x_bipush (pc := 71) F dX7_on_71 (by decide) ?_
              refine x_isub (pc := 73) F dX7_on_73 ?_
              refine tq_pa (pc := 74) F dX7_on_74 (v_11 (by omega)) (by omega) ?_
              have hcp := (e1.2.1 (w - 10) (by omega) (by omega)).2.2.2.2.2.2.1
              refine gf_X7_129 (pc := 75) F dX7_on_75 (v_4 (by omega)) ?_
              rw [hcp]
              refine x_goto (tgt := 93) (pc := 78) F dX7_on_78 rfl ?_
              try rw [hcp]
              refine tq_reti (pc := 93) F dX7_on_93 ?_ rfl rfl rfl
              first | (exfalso; omega) | exact ⟨by unfold onZ; rw [if_pos (by omega), if_pos (by omega), if_neg (by omega)]; first | rw [if_pos (by omega)] | rw [if_neg (by omega)], e2⟩
          · refine x_aload_n (i := 3) (pc := 50) F dX7_on_50 rfl rfl ?_
            refine x_V0i (ci := 6) (pc := 51) F dX7_on_51 lk_X7_195 rfl (v_1 (by omega)) rfl rfl (c_X6_whoIsLet e1 gI (by rw [g78]; exact hH.fr (fun o ho => e2 o (scO_hs ho))) (by decide) (by omega)) rfl rfl rfl ?_
            rintro _ _ ⟨rfl, rfl⟩
            refine tq_reti (pc := 54) F dX7_on_54 ?_ rfl rfl rfl
            exact ⟨by unfold onZ; rw [if_pos (by omega), if_pos (by omega), if_pos (by omega)], e2⟩
        · try simp only [decide_eq_true_eq, decide_eq_false_iff_not, Bool.and_eq_true, Bool.or_eq_true, Bool.not_eq_true', Bool.not_eq_false', Bool.and_eq_false_iff, Bool.or_eq_false_iff] at h34
          refine x_bipush (pc := 37) F dX7_on_37 (by decide) ?_
          refine tq_reti (pc := 39) F dX7_on_39 ?_ rfl rfl rfl
          exact ⟨by unfold onZ; rw [if_pos (by omega), if_neg (by omega)], fun o _ => rfl⟩
      · try simp only [decide_eq_true_eq, decide_eq_false_iff_not, Bool.and_eq_true, Bool.or_eq_true, Bool.not_eq_true', Bool.not_eq_false', Bool.and_eq_false_iff, Bool.or_eq_false_iff] at h23
        refine x_iconst (pc := 26) F dX7_on_26 ?_
        refine tq_reti (pc := 27) F dX7_on_27 ?_ rfl rfl rfl
        exact ⟨by unfold onZ; rw [if_neg (by omega)], fun o _ => rfl⟩
set_option maxRecDepth 20000 in
theorem c_X7_ends (w : Int) (hw : -2147483648 ≤ w ∧ w < 2147483648) (hR0 : TR μ 0 T) (hI : TI T) (hH : HRel μ nh (T 78) S) (hd : T 77 ≤ 9999) (l : Launch) (E : Ev) (A : Nat → Prop) : Con l E 8 m_X7_ends A (VC nh) ad μ [.ref (ad (0, 0, 0)), .int (I w)] (pi fun z μ' => z = endsZ S T w ∧ ∀ o, ¬ scO o → μ' o = μ o) := by
  have h78 := hI.2.2.2.2.1
  have h95 := hI.2.2.2.2.2.2.2.1
  have h7 : hR (T 78) ≠ 7 := by unfold hR; split <;> omega
  have hS0 : 0 ≤ S.2.2 := by
    have h1 := hH.2.1.2.2.2.2.2.2.1
    rw [hH.2.2.2.2] at h1
    exact h1
  obtain ⟨gI, go, g77, g77'⟩ := goT_ok (S := S) hI hS0 (T 95).toNat (by omega)
  refine con (own := RX7) (by decide +kernel) rfl rfl rfl (fun Γ F => ?_)
  refine x_iload_n (i := 1) (pc := 0) F dX7_ends_0 rfl rfl ?_
  refine x_iconst (pc := 1) F dX7_ends_1 ?_
  refine x_S2z (pc := 2) F dX7_ends_2 lk_X7_83 rfl (c_isInW _ _ _ (by omega)) rfl rfl rfl ?_
  rintro _ _ ⟨rfl, rfl⟩
  refine x_if_neB (tgt := 10) (pc := 5) F dX7_ends_5 rfl (fun h5 => ?_) (fun h5 => ?_)
  · try simp only [decide_eq_true_eq, decide_eq_false_iff_not, Bool.and_eq_true, Bool.or_eq_true, Bool.not_eq_true', Bool.not_eq_false', Bool.and_eq_false_iff, Bool.or_eq_false_iff] at h5
    refine x_aload_n (i := 0) (pc := 10) F dX7_ends_10 rfl rfl ?_
    refine gf_X7_69 (pc := 11) F dX7_ends_11 (v_0 (by omega)) ?_
    refine x_aload_n (i := 0) (pc := 14) F dX7_ends_14 rfl rfl ?_
    refine gf_X7_62 (pc := 15) F dX7_ends_15 (v_0 (by omega)) ?_
    refine x_V1v (ci := 6) (pc := 18) F dX7_ends_18 lk_X7_87 rfl (v_1 (by omega)) rfl rfl (c_X6_become hR0 (by decide) (by decide) (by decide) h78 trivial h7) rfl rfl rfl ?_
    rintro μ1 ⟨e1, e2⟩
    refine x_aload_n (i := 0) (pc := 21) F dX7_ends_21 rfl rfl ?_
    refine gf_X7_69 (pc := 22) F dX7_ends_22 (v_0 (by omega)) ?_
    have hH1 : HRel μ1 nh (T 78) S := hH.fr (fun o ho => e2 o (by rcases ho with h | h | h <;> omega))
    refine x_V0v (ci := 6) (pc := 25) F dX7_ends_25 lk_X7_284 rfl (v_1 (by omega)) rfl rfl (c_X6_goByPlan e1 hI hH1 (by decide) (by omega)) rfl rfl rfl ?_
    rintro μ2 ⟨e3, e4⟩
    have e5 : ∀ o, ¬ scO o → μ2 o = μ o := fun o ho => by rw [e4 o (fun h => ho (by unfold scO; omega)), e2 o (fun h => ho (by unfold scO; omega))]
    refine x_iload_n (i := 1) (pc := 28) F dX7_ends_28 rfl rfl ?_
    refine x_if_ne (tgt := 42) (pc := 29) F dX7_ends_29 rfl (by omega) (fun h29 => ?_) (fun h29 => ?_)
    · refine x_aload_n (i := 0) (pc := 42) F dX7_ends_42 rfl rfl ?_
      refine gf_X7_69 (pc := 43) F dX7_ends_43 (v_0 (by omega)) ?_
      refine x_V0i (ci := 6) (pc := 46) F dX7_ends_46 lk_X7_195 rfl (v_1 (by omega)) rfl rfl (c_X6_whoIsLet e3 gI (by rw [go 78 (by omega)]; exact hH.fr (fun o ho => e5 o (scO_hs ho))) (by decide) (by omega)) rfl rfl rfl ?_
      rintro _ _ ⟨rfl, rfl⟩
      refine tq_reti (pc := 49) F dX7_ends_49 ?_ rfl rfl rfl
      exact ⟨by unfold endsZ; rw [if_pos (by omega)]; first | rw [if_pos (by omega)] | rw [if_neg (by omega)], e5⟩
    · refine x_aload_n (i := 0) (pc := 32) F dX7_ends_32 rfl rfl ?_
      refine gf_X7_69 (pc := 33) F dX7_ends_33 (v_0 (by omega)) ?_
      refine x_V0i (ci := 6) (pc := 36) F dX7_ends_36 lk_X7_199 rfl (v_1 (by omega)) rfl rfl (c_X6_passedTogether e3 gI (by decide) (by omega)) rfl rfl rfl ?_
      rintro _ _ ⟨rfl, rfl⟩
      refine x_goto (tgt := 49) (pc := 39) F dX7_ends_39 rfl ?_
      refine tq_reti (pc := 49) F dX7_ends_49 ?_ rfl rfl rfl
      exact ⟨by unfold endsZ; rw [if_pos (by omega)]; first | rw [if_pos (by omega)] | rw [if_neg (by omega)], e5⟩
  · try simp only [decide_eq_true_eq, decide_eq_false_iff_not, Bool.and_eq_true, Bool.or_eq_true, Bool.not_eq_true', Bool.not_eq_false', Bool.and_eq_false_iff, Bool.or_eq_false_iff] at h5
    refine x_iconst (pc := 8) F dX7_ends_8 ?_
    refine tq_reti (pc := 9) F dX7_ends_9 ?_ rfl rfl rfl
    exact ⟨by unfold endsZ; rw [if_neg (by omega)], fun o _ => rfl⟩
set_option maxRecDepth 20000 in
theorem c_X7_image (hR0 : TR μ 0 T) (hI : TI T) (l : Launch) (E : Ev) (A : Nat → Prop) : Con l E 8 m_X7_image A (VC nh) ad μ [.ref (ad (0, 0, 0))] (pi fun z μ' => z = T 76 ∧ TR μ' 1 T ∧ μ' (0, 0, 0) 3 = 1 ∧ (∀ k, k ≠ 3 → μ' (0, 0, 0) k = μ (0, 0, 0) k) ∧ ∀ o, o ≠ (0, 0, 0) → ¬ (1 ≤ o.1 ∧ o.1 ≤ 9 ∧ o.2.1 = 1) → μ' o = μ o) := by
  have h78 := hI.2.2.2.2.1
  have h7 : hR (T 78) ≠ 7 := by unfold hR; split <;> omega
  refine con (own := RX7) (by decide +kernel) rfl rfl rfl (fun Γ F => ?_)
  refine x_aload_n (i := 0) (pc := 0) F dX7_image_0 rfl rfl ?_
  refine gf_X7_66 (pc := 1) F dX7_image_1 (v_0 (by omega)) ?_
  refine x_aload_n (i := 0) (pc := 4) F dX7_image_4 rfl rfl ?_
  refine gf_X7_62 (pc := 5) F dX7_image_5 (v_0 (by omega)) ?_
  refine x_V1v (ci := 6) (pc := 8) F dX7_image_8 lk_X7_87 rfl (v_1 (by omega)) rfl rfl (c_X6_become hR0 (by decide) (by decide) (by decide) h78 trivial h7) rfl rfl rfl ?_
  rintro μ1 ⟨e1, e2⟩
  refine x_aload_n (i := 0) (pc := 11) F dX7_image_11 rfl rfl ?_
  refine x_iconst (pc := 12) F dX7_image_12 ?_
  refine pf_X7_300 (pc := 13) F dX7_image_13 (v_0 (by omega)) (by decide) (by decide) ?_
  refine x_aload_n (i := 0) (pc := 16) F dX7_image_16 rfl rfl ?_
  refine gf_X7_62 (pc := 17) F dX7_image_17 (v_0 (by omega)) ?_
  refine gf_X7_79 (pc := 20) F dX7_image_20 (v_1 (by omega)) ?_
  rw [show upM μ1 (0, 0, 0) 3 1 (1, 0, 0) 5 = T 76 by rw [upM_ne (by simp), e2 _ (by simp)]; exact hR0.2.2.1.1]
  refine tq_reti (pc := 23) F dX7_image_23 ?_ rfl rfl rfl
  exact ⟨rfl, TR_fr e1 (fun o a b c => upM_ne (by rintro rfl; simp at a)), by rw [upM_i, if_pos rfl], fun k hk => by rw [upM_i, if_neg hk, e2 _ (by simp)], fun o ho1 ho2 => by rw [upM_ne ho1, e2 o ho2]⟩
set_option maxRecDepth 20000 in
theorem c_X7_undo {K : Tn} (hm : μ (0, 0, 0) 3 = 0 ∨ μ (0, 0, 0) 3 = 1) (hK : μ (0, 0, 0) 3 = 1 → TR μ 1 K ∧ TI K) (l : Launch) (E : Ev) (A : Nat → Prop) : Con l E 8 m_X7_undo A (VC nh) ad μ [.ref (ad (0, 0, 0))] (pi fun z μ' => (μ (0, 0, 0) 3 = 0 ∧ z = -3 ∧ μ = μ') ∨ (μ (0, 0, 0) 3 = 1 ∧ z = K 76 ∧ TR μ' 0 K ∧ ∀ o, ¬ nwO o → μ' o = μ o)) := by
  refine con (own := RX7) (by decide +kernel) rfl rfl rfl (fun Γ F => ?_)
  refine x_aload_n (i := 0) (pc := 0) F dX7_undo_0 rfl rfl ?_
  refine gf_X7_300 (pc := 1) F dX7_undo_1 (v_0 (by omega)) ?_
  refine x_if_ne (tgt := 10) (pc := 4) F dX7_undo_4 rfl (by omega) (fun h4 => ?_) (fun h4 => ?_)
  · obtain ⟨hK1, hK2⟩ := hK (by omega)
    have h78 := hK2.2.2.2.2.1
    have h7 : hR (K 78) ≠ 7 := by unfold hR; split <;> omega
    refine x_aload_n (i := 0) (pc := 10) F dX7_undo_10 rfl rfl ?_
    refine gf_X7_62 (pc := 11) F dX7_undo_11 (v_0 (by omega)) ?_
    refine x_aload_n (i := 0) (pc := 14) F dX7_undo_14 rfl rfl ?_
    refine gf_X7_66 (pc := 15) F dX7_undo_15 (v_0 (by omega)) ?_
    refine x_V1v (ci := 6) (pc := 18) F dX7_undo_18 lk_X7_87 rfl (v_1 (by omega)) rfl rfl (c_X6_become hK1 (by decide) (by decide) (by decide) h78 trivial h7) rfl rfl rfl ?_
    rintro μ1 ⟨e1, e2⟩
    refine x_aload_n (i := 0) (pc := 21) F dX7_undo_21 rfl rfl ?_
    refine gf_X7_62 (pc := 22) F dX7_undo_22 (v_0 (by omega)) ?_
    refine gf_X7_79 (pc := 25) F dX7_undo_25 (v_1 (by omega)) ?_
    rw [show μ1 (1, 0, 0) 5 = K 76 from e1.2.2.1.1]
    refine tq_reti (pc := 28) F dX7_undo_28 ?_ rfl rfl rfl
    exact Or.inr ⟨by omega, rfl, e1, fun o ho => e2 o ho⟩
  · refine x_bipush (pc := 7) F dX7_undo_7 (by decide) ?_
    refine tq_reti (pc := 9) F dX7_undo_9 ?_ rfl rfl rfl
    exact Or.inl ⟨by omega, rfl, rfl⟩
end CLS3
