/-! ===== the reference: see wrong can plan ends book looked ===== -/
section MC3
variable {ad : Ob → Nat} {μ : Me} {T : Tn} {S : Hs} {c g w n k : Int}
set_option maxRecDepth 20000 in
theorem c_X8_see (hT : TN μ T) (hI : TI T) (hc : -2147483648 ≤ c ∧ c < 2147483648) (hg : -2147483648 ≤ g ∧ g < 2147483648) (b : Bool) (l : Launch) (E : Ev) (A : Nat → Prop) : Con l E 2 m_X8_see A VM ad μ [.ref (ad (30, 0, 0)), .int (I c), .int (I g), .int (I (bI b))] (pi fun z μ' => z = seeZ T c g ∧ TN μ' (seeT T c g (bI b)) ∧ FX μ μ') := by
  have hI76 := hI.2.2.1
  have h79 := hI.2.2.2.2.2.1
  have hm79 := hT 79 (by omega) (by omega)
  refine con (own := RX8) (by decide +kernel) rfl rfl rfl (fun Γ F => ?_)
  refine x_iload_n (i := 1) (pc := 0) F dX8_see_0 rfl rfl ?_
  refine x_iconst (pc := 1) F dX8_see_1 ?_
  refine x_icmp_ne (tgt := 15) (pc := 2) F dX8_see_2 rfl (by omega) (fun h2 => ?_) (fun h2 => ?_)
  · refine x_aload_n (i := 0) (pc := 15) F dX8_see_15 rfl rfl ?_
    refine x_iload_n (i := 1) (pc := 16) F dX8_see_16 rfl rfl ?_
    refine x_V1z (ci := 8) (pc := 17) F dX8_see_17 lk_X8_94 rfl (vm_ok rfl) rfl rfl (c_isComerW hT hI76 _ (by omega)) rfl rfl rfl ?_
    rintro _ _ ⟨rfl, rfl⟩
    refine x_if_eqB (tgt := 30) (pc := 20) F dX8_see_20 rfl (fun h20 => ?_) (fun h20 => ?_)
    · try simp only [decide_eq_true_eq, decide_eq_false_iff_not, Bool.and_eq_true, Bool.or_eq_true, Bool.not_eq_true', Bool.not_eq_false', Bool.and_eq_false_iff, Bool.or_eq_false_iff] at h20
      refine x_iconst (pc := 30) F dX8_see_30 ?_
      refine tq_reti (pc := 31) F dX8_see_31 ?_ rfl rfl rfl
      exact ⟨by unfold seeZ; rw [if_neg (by omega), if_neg (by omega)], by unfold seeT; rw [if_neg (by omega), if_neg (by omega)]; exact hT, FX.refl μ⟩
    · try simp only [decide_eq_true_eq, decide_eq_false_iff_not, Bool.and_eq_true, Bool.or_eq_true, Bool.not_eq_true', Bool.not_eq_false', Bool.and_eq_false_iff, Bool.or_eq_false_iff] at h20
      refine x_iload_n (i := 2) (pc := 23) F dX8_see_23 rfl rfl ?_
      refine x_S1z (pc := 24) F dX8_see_24 lk_X8_86 rfl (c_isGateW _ _ (by omega)) rfl rfl rfl ?_
      rintro _ _ ⟨rfl, rfl⟩
      refine x_if_neB (tgt := 32) (pc := 27) F dX8_see_27 rfl (fun h27 => ?_) (fun h27 => ?_)
      · try simp only [decide_eq_true_eq, decide_eq_false_iff_not, Bool.and_eq_true, Bool.or_eq_true, Bool.not_eq_true', Bool.not_eq_false', Bool.and_eq_false_iff, Bool.or_eq_false_iff] at h27
        refine x_aload_n (i := 0) (pc := 32) F dX8_see_32 rfl rfl ?_
        refine gf_X8_9 (pc := 33) F dX8_see_33 (vm_ok rfl) ?_
        refine x_bipush (pc := 36) F dX8_see_36 (by decide) ?_
        refine tq_ia (pc := 38) F dX8_see_38 (vm_ok rfl) rfl (fun _ => rfl) (by omega) ?_
        rw [hm79]
        refine x_iconst (pc := 39) F dX8_see_39 ?_
        refine x_icmp_ne (tgt := 46) (pc := 40) F dX8_see_40 rfl (by omega) (fun h40 => ?_) (fun h40 => ?_)
        · refine x_bipush (pc := 46) F dX8_see_46 (by decide) ?_
          refine x_iconst (pc := 48) F dX8_see_48 ?_
          refine x_aload_n (i := 0) (pc := 49) F dX8_see_49 rfl rfl ?_
          refine gf_X8_9 (pc := 50) F dX8_see_50 (vm_ok rfl) ?_
          refine x_bipush (pc := 53) F dX8_see_53 (by decide) ?_
          refine tq_ia (pc := 55) F dX8_see_55 (vm_ok rfl) rfl (fun _ => rfl) (by omega) ?_
          rw [hm79]
          refine x_imul (pc := 56) F dX8_see_56 ?_
          refine x_iadd (pc := 57) F dX8_see_57 ?_
          refine x_istore (i := 4) (pc := 58) F dX8_see_58 rfl ?_
          refine x_aload_n (i := 0) (pc := 60) F dX8_see_60 rfl rfl ?_
          refine gf_X8_9 (pc := 61) F dX8_see_61 (vm_ok rfl) ?_
          refine x_iload (i := 4) (pc := 64) F dX8_see_64 rfl ?_
          refine x_iload_n (i := 1) (pc := 66) F dX8_see_66 rfl rfl ?_
          refine tq_ias (pc := 67) F dX8_see_67 (vm_ok rfl) rfl (fun _ => rfl) (by omega) ?_
          refine x_aload_n (i := 0) (pc := 68) F dX8_see_68 rfl rfl ?_
          refine gf_X8_9 (pc := 69) F dX8_see_69 (vm_ok rfl) ?_
          refine x_iload (i := 4) (pc := 72) F dX8_see_72 rfl ?_
          refine x_iconst (pc := 74) F dX8_see_74 ?_
          refine x_iadd (pc := 75) F dX8_see_75 ?_
          refine x_iload_n (i := 2) (pc := 76) F dX8_see_76 rfl rfl ?_
          refine tq_ias (pc := 77) F dX8_see_77 (vm_ok rfl) rfl (fun _ => rfl) (by omega) ?_
          refine x_aload_n (i := 0) (pc := 78) F dX8_see_78 rfl rfl ?_
          refine gf_X8_9 (pc := 79) F dX8_see_79 (vm_ok rfl) ?_
          refine x_iload (i := 4) (pc := 82) F dX8_see_82 rfl ?_
          refine x_iconst (pc := 84) F dX8_see_84 ?_
          refine x_iadd (pc := 85) F dX8_see_85 ?_
          refine x_iload_n (i := 3) (pc := 86) F dX8_see_86 rfl rfl ?_
          refine x_if_eqB (tgt := 94) (pc := 87) F dX8_see_87 rfl (fun h87 => ?_) (fun h87 => ?_)
          · try simp only [decide_eq_true_eq, decide_eq_false_iff_not, Bool.and_eq_true, Bool.or_eq_true, Bool.not_eq_true', Bool.not_eq_false', Bool.and_eq_false_iff, Bool.or_eq_false_iff] at h87
            refine x_iconst (pc := 94) F dX8_see_94 ?_
            refine tq_ias (pc := 95) F dX8_see_95 (vm_ok rfl) rfl (fun _ => rfl) (by omega) ?_
            refine x_aload_n (i := 0) (pc := 96) F dX8_see_96 rfl rfl ?_
            refine gf_X8_9 (pc := 97) F dX8_see_97 (vm_ok rfl) ?_
            refine x_bipush (pc := 100) F dX8_see_100 (by decide) ?_
            refine x_dup2 (pc := 102) F dX8_see_102 rfl rfl ?_
            refine tq_ia (pc := 103) F dX8_see_103 (vm_ok rfl) rfl (fun _ => rfl) (by omega) ?_
            rw [hT.up.up.up 79 (by omega) (by omega), upT_ne (by omega), upT_ne (by omega), upT_ne (by omega)]
            refine x_iconst (pc := 104) F dX8_see_104 ?_
            refine x_iadd (pc := 105) F dX8_see_105 ?_
            refine tq_ias (pc := 106) F dX8_see_106 (vm_ok rfl) rfl (fun _ => rfl) (by omega) ?_
            refine x_aload_n (i := 0) (pc := 107) F dX8_see_107 rfl rfl ?_
            refine gf_X8_9 (pc := 108) F dX8_see_108 (vm_ok rfl) ?_
            refine x_bipush (pc := 111) F dX8_see_111 (by decide) ?_
            refine tq_ia (pc := 113) F dX8_see_113 (vm_ok rfl) rfl (fun _ => rfl) (by omega) ?_
            rw [upM_i, if_pos rfl]
            refine tq_reti (pc := 114) F dX8_see_114 ?_ rfl rfl rfl
            refine ⟨by unfold seeZ; rw [if_neg (by omega), if_pos (by omega), if_neg (by omega)], ?_, ((FX.up.trans FX.up).trans FX.up).trans FX.up⟩
            unfold seeT
            rw [if_neg (by omega), if_pos (by omega)]
            first | (rw [h87]; exact hT.up.up.up.up.c (fun j _ _ => by rw [show 80 + 3 * T 79 + 1 = 81 + 3 * T 79 by omega, show 80 + 3 * T 79 + 2 = 82 + 3 * T 79 by omega]; rfl))
          · try simp only [decide_eq_true_eq, decide_eq_false_iff_not, Bool.and_eq_true, Bool.or_eq_true, Bool.not_eq_true', Bool.not_eq_false', Bool.and_eq_false_iff, Bool.or_eq_false_iff] at h87
            refine x_iconst (pc := 90) F dX8_see_90 ?_
            refine x_goto (tgt := 95) (pc := 91) F dX8_see_91 rfl ?_
            refine tq_ias (pc := 95) F dX8_see_95 (vm_ok rfl) rfl (fun _ => rfl) (by omega) ?_
            refine x_aload_n (i := 0) (pc := 96) F dX8_see_96 rfl rfl ?_
            refine gf_X8_9 (pc := 97) F dX8_see_97 (vm_ok rfl) ?_
            refine x_bipush (pc := 100) F dX8_see_100 (by decide) ?_
            refine x_dup2 (pc := 102) F dX8_see_102 rfl rfl ?_
            refine tq_ia (pc := 103) F dX8_see_103 (vm_ok rfl) rfl (fun _ => rfl) (by omega) ?_
            rw [hT.up.up.up 79 (by omega) (by omega), upT_ne (by omega), upT_ne (by omega), upT_ne (by omega)]
            refine x_iconst (pc := 104) F dX8_see_104 ?_
            refine x_iadd (pc := 105) F dX8_see_105 ?_
            refine tq_ias (pc := 106) F dX8_see_106 (vm_ok rfl) rfl (fun _ => rfl) (by omega) ?_
            refine x_aload_n (i := 0) (pc := 107) F dX8_see_107 rfl rfl ?_
            refine gf_X8_9 (pc := 108) F dX8_see_108 (vm_ok rfl) ?_
            refine x_bipush (pc := 111) F dX8_see_111 (by decide) ?_
            refine tq_ia (pc := 113) F dX8_see_113 (vm_ok rfl) rfl (fun _ => rfl) (by omega) ?_
            rw [upM_i, if_pos rfl]
            refine tq_reti (pc := 114) F dX8_see_114 ?_ rfl rfl rfl
            refine ⟨by unfold seeZ; rw [if_neg (by omega), if_pos (by omega), if_neg (by omega)], ?_, ((FX.up.trans FX.up).trans FX.up).trans FX.up⟩
            unfold seeT
            rw [if_neg (by omega), if_pos (by omega)]
            first | (rw [h87]; exact hT.up.up.up.up.c (fun j _ _ => by rw [show 80 + 3 * T 79 + 1 = 81 + 3 * T 79 by omega, show 80 + 3 * T 79 + 2 = 82 + 3 * T 79 by omega]; rfl))
        · refine x_bipush (pc := 43) F dX8_see_43 (by decide) ?_
          refine tq_reti (pc := 45) F dX8_see_45 ?_ rfl rfl rfl
          exact ⟨by unfold seeZ; rw [if_neg (by omega), if_pos (by omega), if_pos (by omega)], by unfold seeT; rw [if_neg (by omega), if_neg (by omega)]; exact hT, FX.refl μ⟩
      · try simp only [decide_eq_true_eq, decide_eq_false_iff_not, Bool.and_eq_true, Bool.or_eq_true, Bool.not_eq_true', Bool.not_eq_false', Bool.and_eq_false_iff, Bool.or_eq_false_iff] at h27
        refine x_iconst (pc := 30) F dX8_see_30 ?_
        refine tq_reti (pc := 31) F dX8_see_31 ?_ rfl rfl rfl
        exact ⟨by unfold seeZ; rw [if_neg (by omega), if_neg (by omega)], by unfold seeT; rw [if_neg (by omega), if_neg (by omega)]; exact hT, FX.refl μ⟩
  · refine x_aload_n (i := 0) (pc := 5) F dX8_see_5 rfl rfl ?_
    refine gf_X8_9 (pc := 6) F dX8_see_6 (vm_ok rfl) ?_
    refine x_bipush (pc := 9) F dX8_see_9 (by decide) ?_
    refine x_iconst (pc := 11) F dX8_see_11 ?_
    refine tq_ias (pc := 12) F dX8_see_12 (vm_ok rfl) rfl (fun _ => rfl) (by omega) ?_
    refine x_iconst (pc := 13) F dX8_see_13 ?_
    refine tq_reti (pc := 14) F dX8_see_14 ?_ rfl rfl rfl
    exact ⟨by unfold seeZ; rw [if_pos (by omega)], by unfold seeT; rw [if_pos (by omega)]; exact hT.up, FX.up⟩
set_option maxRecDepth 20000 in
theorem c_X8_isSo (hE : MEn μ T S) (hJ : TJ T) (hS : SB S) (r : Int) (hr : 0 ≤ r ∧ r < 5) (h1 : 0 ≤ T (80 + 3 * r) ∧ T (80 + 3 * r) < 6) (h2 : 0 ≤ T (81 + 3 * r) ∧ T (81 + 3 * r) < 4) (h3 : 0 ≤ T (82 + 3 * r) ∧ T (82 + 3 * r) ≤ 1) (l : Launch) (E : Ev) (A : Nat → Prop) : Con l E 23 m_X8_isSo A VM ad μ [.ref (ad (30, 0, 0)), .int (I r)] (pz fun z μ' => (z = true ↔ soP S T r) ∧ FH μ μ') := by
  have hT := hE.1
  refine con (own := RX8) (by decide +kernel) rfl rfl rfl (fun Γ F => ?_)
  refine x_bipush (pc := 0) F dX8_isSo_0 (by decide) ?_
  refine x_iconst (pc := 2) F dX8_isSo_2 ?_
  refine x_iload_n (i := 1) (pc := 3) F dX8_isSo_3 rfl rfl ?_
  refine x_imul (pc := 4) F dX8_isSo_4 ?_
  refine x_iadd (pc := 5) F dX8_isSo_5 ?_
  refine x_istore_n (i := 2) (pc := 6) F dX8_isSo_6 rfl rfl ?_
  refine x_aload_n (i := 0) (pc := 7) F dX8_isSo_7 rfl rfl ?_
  refine x_aload_n (i := 0) (pc := 8) F dX8_isSo_8 rfl rfl ?_
  refine gf_X8_9 (pc := 9) F dX8_isSo_9 (vm_ok rfl) ?_
  refine x_iload_n (i := 2) (pc := 12) F dX8_isSo_12 rfl rfl ?_
  refine tq_ia (pc := 13) F dX8_isSo_13 (vm_ok rfl) rfl (fun _ => rfl) (by omega) ?_
  rw [hT _ (by omega) (by omega)]
  refine x_aload_n (i := 0) (pc := 14) F dX8_isSo_14 rfl rfl ?_
  refine gf_X8_9 (pc := 15) F dX8_isSo_15 (vm_ok rfl) ?_
  refine x_iload_n (i := 2) (pc := 18) F dX8_isSo_18 rfl rfl ?_
  refine x_iconst (pc := 19) F dX8_isSo_19 ?_
  refine x_iadd (pc := 20) F dX8_isSo_20 ?_
  refine tq_ia (pc := 21) F dX8_isSo_21 (vm_ok rfl) rfl (fun _ => rfl) (by omega) ?_
  rw [hT _ (by omega) (by omega), show 80 + 3 * r + 1 = 81 + 3 * r by omega]
  refine x_V2z (ci := 8) (pc := 22) F dX8_isSo_22 lk_X8_101 rfl (vm_ok rfl) rfl rfl (c_X8_lets hE hJ hS h1 h2) rfl rfl rfl ?_
  rintro z μ1 ⟨hz, p2⟩
  refine x_aload_n (i := 0) (pc := 25) F dX8_isSo_25 rfl rfl ?_
  refine gf_X8_9 (pc := 26) F dX8_isSo_26 (vm_ok rfl) ?_
  refine x_iload_n (i := 2) (pc := 29) F dX8_isSo_29 rfl rfl ?_
  refine x_iconst (pc := 30) F dX8_isSo_30 ?_
  refine x_iadd (pc := 31) F dX8_isSo_31 ?_
  refine tq_ia (pc := 32) F dX8_isSo_32 (vm_ok rfl) rfl (fun _ => rfl) (by omega) ?_
  rw [p2.2 _ (by simp) (by simp) (by simp), hT _ (by omega) (by omega), show 80 + 3 * r + 2 = 82 + 3 * r by omega]
  refine x_iconst (pc := 33) F dX8_isSo_33 ?_
  refine x_icmp_ne (tgt := 41) (pc := 34) F dX8_isSo_34 rfl (by omega) (fun h34 => ?_) (fun h34 => ?_)
  · refine x_iconst (pc := 41) F dX8_isSo_41 ?_
    have hbz := bI_rg z
    refine x_icmp_ne (tgt := 49) (pc := 42) F dX8_isSo_42 rfl (by omega) (fun h42 => ?_) (fun h42 => ?_)
    · refine x_iconst (pc := 49) F dX8_isSo_49 ?_
      refine tq_retz (b := false) (pc := 50) F dX8_isSo_50 ?_ rfl rfl rfl
      refine ⟨?_, p2⟩
      unfold soP
      rw [← hz]
      cases z <;> simp [bI] at * <;> omega
    · refine x_iconst (pc := 45) F dX8_isSo_45 ?_
      refine x_goto (tgt := 50) (pc := 46) F dX8_isSo_46 rfl ?_
      refine tq_retz (b := true) (pc := 50) F dX8_isSo_50 ?_ rfl rfl rfl
      refine ⟨?_, p2⟩
      unfold soP
      rw [← hz]
      cases z <;> simp [bI] at * <;> omega
  · refine x_iconst (pc := 37) F dX8_isSo_37 ?_
    refine x_goto (tgt := 42) (pc := 38) F dX8_isSo_38 rfl ?_
    have hbz := bI_rg z
    refine x_icmp_ne (tgt := 49) (pc := 42) F dX8_isSo_42 rfl (by omega) (fun h42 => ?_) (fun h42 => ?_)
    · refine x_iconst (pc := 49) F dX8_isSo_49 ?_
      refine tq_retz (b := false) (pc := 50) F dX8_isSo_50 ?_ rfl rfl rfl
      refine ⟨?_, p2⟩
      unfold soP
      rw [← hz]
      cases z <;> simp [bI] at * <;> omega
    · refine x_iconst (pc := 45) F dX8_isSo_45 ?_
      refine x_goto (tgt := 50) (pc := 46) F dX8_isSo_46 rfl ?_
      refine tq_retz (b := true) (pc := 50) F dX8_isSo_50 ?_ rfl rfl rfl
      refine ⟨?_, p2⟩
      unfold soP
      rw [← hz]
      cases z <;> simp [bI] at * <;> omega
set_option maxRecDepth 20000 in
theorem c_X8_wrong (hE : MEn μ T S) (hI : TI T) (hS : SB S) (hd : T 77 ≤ 9999) (l : Launch) (E : Ev) (A : Nat → Prop) : Con l E 24 m_X8_wrong A VM ad μ [.ref (ad (30, 0, 0))] (pi fun z μ' => z = wrongZ S T ∧ TN μ' T ∧ FX μ μ') := by
  have hJ := hI.j (by omega)
  obtain ⟨h79, h80, -⟩ := hI.2.2.2.2.2
  have hI76 := hI.2.2.1
  refine con (own := RX8) (by decide +kernel) rfl rfl rfl (fun Γ F => ?_)
  have loop : ∀ (N r : Nat) (μ1 : Me), T 79 - r < N → r ≤ T 79 → FH μ μ1 → wrongZ S T = firstF (fun r => ¬ soP S T r) (T 79 - r).toNat r → XX Γ 2 VM ad (vl ad μ1) 0 0 2 [(0, .ref (ad (30, 0, 0))), (1, .int (I r))] [] := by
    intro N
    induction N with
    | zero => intro r μ1 b1; omega
    | succ N ih =>
      intro r μ1 b1 b2 b3 b4
      have hE1 := hE.fh b3
      have hm := hE1.1 79 (by omega) (by omega)
      refine x_iload_n (i := 1) (pc := 2) F dX8_wrong_2 rfl rfl ?_
      refine x_aload_n (i := 0) (pc := 3) F dX8_wrong_3 rfl rfl ?_
      refine gf_X8_9 (pc := 4) F dX8_wrong_4 (vm_ok rfl) ?_
      refine x_bipush (pc := 7) F dX8_wrong_7 (by decide) ?_
      refine tq_ia (pc := 9) F dX8_wrong_9 (vm_ok rfl) rfl (fun _ => rfl) (by omega) ?_
      refine x_icmp_ge (tgt := 29) (pc := 10) F dX8_wrong_10 rfl (by omega) (fun h10 => ?_) (fun h10 => ?_)
      · refine x_bipush (pc := 29) F dX8_wrong_29 (by decide) ?_
        refine tq_reti (pc := 31) F dX8_wrong_31 ?_ rfl rfl rfl
        exact ⟨by rw [b4, show (T 79 - (r : Int)).toNat = 0 by omega]; rfl, hE.1.fh b3, FX.fh b3⟩
      · have hr := h80 r (by omega) (by omega)
        obtain ⟨f, hf⟩ : ∃ f, (T 79 - r).toNat = f + 1 := ⟨(T 79 - r).toNat - 1, by omega⟩
        rw [hf] at b4
        refine x_aload_n (i := 0) (pc := 13) F dX8_wrong_13 rfl rfl ?_
        refine x_iload_n (i := 1) (pc := 14) F dX8_wrong_14 rfl rfl ?_
        refine x_V1z (ci := 8) (pc := 15) F dX8_wrong_15 lk_X8_241 rfl (vm_ok rfl) rfl rfl (c_X8_isSo hE1 hJ hS r (by omega) (by omega) (by omega) (by omega)) rfl rfl rfl ?_
        rintro z μ2 ⟨hz, p2⟩
        refine x_if_neB (tgt := 23) (pc := 18) F dX8_wrong_18 rfl (fun h18 => ?_) (fun h18 => ?_)
        · try simp only [decide_eq_true_eq, decide_eq_false_iff_not, Bool.and_eq_true, Bool.or_eq_true, Bool.not_eq_true', Bool.not_eq_false', Bool.and_eq_false_iff, Bool.or_eq_false_iff] at h18
          refine x_iinc (pc := 23) F dX8_wrong_23 rfl rfl ?_
          refine x_goto (tgt := 2) (pc := 26) F dX8_wrong_26 rfl ?_
          exact x_sub (L' := [(0, .ref (ad (30, 0, 0))), (1, .int (I ((r + 1 : Nat) : Int)))]) ⟨rfl, rfl, trivial⟩ (ih (r + 1) μ2 (by omega) (by omega) (b3.trans p2) (by rw [b4, firstF_f (fun q => q (hz.mp h18)), show (T 79 - ((r + 1 : Nat) : Int)).toNat = f by omega]))
        · try simp only [decide_eq_true_eq, decide_eq_false_iff_not, Bool.and_eq_true, Bool.or_eq_true, Bool.not_eq_true', Bool.not_eq_false', Bool.and_eq_false_iff, Bool.or_eq_false_iff] at h18
          refine x_iload_n (i := 1) (pc := 21) F dX8_wrong_21 rfl rfl ?_
          refine tq_reti (pc := 22) F dX8_wrong_22 ?_ rfl rfl rfl
          exact ⟨by rw [b4, firstF_t (fun q => by rw [hz.mpr q] at h18; cases h18)], hE.1.fh (b3.trans p2), FX.fh (b3.trans p2)⟩
  refine x_iconst (pc := 0) F dX8_wrong_0 ?_
  refine x_istore_n (i := 1) (pc := 1) F dX8_wrong_1 rfl rfl ?_
  exact x_sub (L' := [(0, .ref (ad (30, 0, 0))), (1, .int (I ((0 : Nat) : Int)))]) ⟨rfl, rfl, trivial⟩ (loop 6 0 μ (by omega) (by omega) (FH.refl μ) (by unfold wrongZ; rw [show (T 79 - ((0 : Nat) : Int)).toNat = (T 79).toNat by omega]))
/-- the rows seen are as told -/
def RS5 (X : Tn) : Prop := (0 ≤ X 79 ∧ X 79 ≤ 5) ∧ ∀ r, 0 ≤ r → r < X 79 → (0 ≤ X (80 + 3 * r) ∧ X (80 + 3 * r) < 6) ∧ (0 ≤ X (81 + 3 * r) ∧ X (81 + 3 * r) < 4) ∧ 0 ≤ X (82 + 3 * r) ∧ X (82 + 3 * r) ≤ 1
set_option maxRecDepth 20000 in
theorem c_X8_isAllSo (hE : MEn μ T S) (hJ : TJ T) (hS : SB S) (hR : RS5 T) (hc : 0 ≤ c ∧ c < 6) (l : Launch) (E : Ev) (A : Nat → Prop) : Con l E 24 m_X8_isAllSo A VM ad μ [.ref (ad (30, 0, 0)), .int (I c)] (pz fun z μ' => (z = true ↔ seenSo S T c) ∧ FH μ μ') := by
  obtain ⟨h79, h80⟩ := hR
  refine con (own := RX8) (by decide +kernel) rfl rfl rfl (fun Γ F => ?_)
  have loop : ∀ (N r : Nat) (μ1 : Me), T 79 - r < N → r ≤ T 79 → FH μ μ1 → (∀ j : Int, 0 ≤ j → j < r → T (80 + 3 * j) = c → soP S T j) → XX Γ 3 VM ad (vl ad μ1) 0 0 2 [(0, .ref (ad (30, 0, 0))), (1, .int (I c)), (2, .int (I r))] [] := by
    intro N
    induction N with
    | zero => intro r μ1 b1; omega
    | succ N ih =>
      intro r μ1 b1 b2 b3 b4
      have hE1 := hE.fh b3
      have hm := hE1.1 79 (by omega) (by omega)
      refine x_iload_n (i := 2) (pc := 2) F dX8_isAllSo_2 rfl rfl ?_
      refine x_aload_n (i := 0) (pc := 3) F dX8_isAllSo_3 rfl rfl ?_
      refine gf_X8_9 (pc := 4) F dX8_isAllSo_4 (vm_ok rfl) ?_
      refine x_bipush (pc := 7) F dX8_isAllSo_7 (by decide) ?_
      refine tq_ia (pc := 9) F dX8_isAllSo_9 (vm_ok rfl) rfl (fun _ => rfl) (by omega) ?_
      refine x_icmp_ge (tgt := 44) (pc := 10) F dX8_isAllSo_10 rfl (by omega) (fun h10 => ?_) (fun h10 => ?_)
      · refine x_iconst (pc := 44) F dX8_isAllSo_44 ?_
        refine tq_retz (b := true) (pc := 45) F dX8_isAllSo_45 ?_ rfl rfl rfl
        exact ⟨⟨fun _ => fun j x y q => b4 j x (by omega) q, fun _ => rfl⟩, b3⟩
      · have hr := h80 r (by omega) (by omega)
        refine x_aload_n (i := 0) (pc := 13) F dX8_isAllSo_13 rfl rfl ?_
        refine gf_X8_9 (pc := 14) F dX8_isAllSo_14 (vm_ok rfl) ?_
        refine x_bipush (pc := 17) F dX8_isAllSo_17 (by decide) ?_
        refine x_iconst (pc := 19) F dX8_isAllSo_19 ?_
        refine x_iload_n (i := 2) (pc := 20) F dX8_isAllSo_20 rfl rfl ?_
        refine x_imul (pc := 21) F dX8_isAllSo_21 ?_
        refine x_iadd (pc := 22) F dX8_isAllSo_22 ?_
        refine tq_ia (pc := 23) F dX8_isAllSo_23 (vm_ok rfl) rfl (fun _ => rfl) (by omega) ?_
        rw [hE1.1 _ (by omega) (by omega)]
        refine x_iload_n (i := 1) (pc := 24) F dX8_isAllSo_24 rfl rfl ?_
        refine x_icmp_ne (tgt := 38) (pc := 25) F dX8_isAllSo_25 rfl (by omega) (fun h25 => ?_) (fun h25 => ?_)
        · refine x_iinc (pc := 38) F dX8_isAllSo_38 rfl rfl ?_
          refine x_goto (tgt := 2) (pc := 41) F dX8_isAllSo_41 rfl ?_
          first | exact x_sub (L' := [(0, .ref (ad (30, 0, 0))), (1, .int (I c)), (2, .int (I ((r + 1 : Nat) : Int)))]) ⟨rfl, rfl, rfl, trivial⟩ (ih (r + 1) μ2 (by omega) (by omega) (b3.trans p2) (fun j x y q => by by_cases e : j = r; (rw [e]; exact hz.mp h33); exact b4 j x (by omega) q)) | exact x_sub (L' := [(0, .ref (ad (30, 0, 0))), (1, .int (I c)), (2, .int (I ((r + 1 : Nat) : Int)))]) ⟨rfl, rfl, rfl, trivial⟩ (ih (r + 1) μ1 (by omega) (by omega) b3 (fun j x y q => by by_cases e : j = r; (rw [e] at q; exact absurd q h25); exact b4 j x (by omega) q))
        · refine x_aload_n (i := 0) (pc := 28) F dX8_isAllSo_28 rfl rfl ?_
          refine x_iload_n (i := 2) (pc := 29) F dX8_isAllSo_29 rfl rfl ?_
          refine x_V1z (ci := 8) (pc := 30) F dX8_isAllSo_30 lk_X8_241 rfl (vm_ok rfl) rfl rfl (c_X8_isSo hE1 hJ hS r (by omega) hr.1 hr.2.1 hr.2.2) rfl rfl rfl ?_
          rintro z μ2 ⟨hz, p2⟩
          refine x_if_neB (tgt := 38) (pc := 33) F dX8_isAllSo_33 rfl (fun h33 => ?_) (fun h33 => ?_)
          · try simp only [decide_eq_true_eq, decide_eq_false_iff_not, Bool.and_eq_true, Bool.or_eq_true, Bool.not_eq_true', Bool.not_eq_false', Bool.and_eq_false_iff, Bool.or_eq_false_iff] at h33
            refine x_iinc (pc := 38) F dX8_isAllSo_38 rfl rfl ?_
            refine x_goto (tgt := 2) (pc := 41) F dX8_isAllSo_41 rfl ?_
            first | exact x_sub (L' := [(0, .ref (ad (30, 0, 0))), (1, .int (I c)), (2, .int (I ((r + 1 : Nat) : Int)))]) ⟨rfl, rfl, rfl, trivial⟩ (ih (r + 1) μ2 (by omega) (by omega) (b3.trans p2) (fun j x y q => by by_cases e : j = r; (rw [e]; exact hz.mp h33); exact b4 j x (by omega) q)) | exact x_sub (L' := [(0, .ref (ad (30, 0, 0))), (1, .int (I c)), (2, .int (I ((r + 1 : Nat) : Int)))]) ⟨rfl, rfl, rfl, trivial⟩ (ih (r + 1) μ1 (by omega) (by omega) b3 (fun j x y q => by by_cases e : j = r; (rw [e] at q; exact absurd q h25); exact b4 j x (by omega) q))
          · try simp only [decide_eq_true_eq, decide_eq_false_iff_not, Bool.and_eq_true, Bool.or_eq_true, Bool.not_eq_true', Bool.not_eq_false', Bool.and_eq_false_iff, Bool.or_eq_false_iff] at h33
            refine x_iconst (pc := 36) F dX8_isAllSo_36 ?_
            refine tq_retz (b := false) (pc := 37) F dX8_isAllSo_37 ?_ rfl rfl rfl
            refine ⟨⟨fun z => (by cases z), fun q => ?_⟩, b3.trans p2⟩
            have := hz.mpr (q r (by omega) (by omega) (by omega))
            rw [h33] at this; cases this
  refine x_iconst (pc := 0) F dX8_isAllSo_0 ?_
  refine x_istore_n (i := 2) (pc := 1) F dX8_isAllSo_1 rfl rfl ?_
  exact x_sub (L' := [(0, .ref (ad (30, 0, 0))), (1, .int (I c)), (2, .int (I ((0 : Nat) : Int)))]) ⟨rfl, rfl, rfl, trivial⟩ (loop 6 0 μ (by omega) (by omega) (FH.refl μ) (fun j x y => by omega))
theorem TJ_up {k v : Int} (hJ : TJ T) (hc : 0 ≤ c ∧ c < 6) (hv : k = 18 + 10 * c ∧ 0 ≤ v ∧ v < 4096 ∨ k = 17 + 10 * c ∧ 0 ≤ v ∧ v < 10) : TJ (upT T k v) := by
  obtain ⟨j1, j2, j3, j4, j5⟩ := hJ
  refine ⟨fun g a b => ?_, fun p a b => ?_, by rw [upT_ne (by omega)]; exact j3, by rw [upT_ne (by omega)]; exact j4, by rw [upT_ne (by omega)]; exact j5⟩
  · obtain ⟨g1, g2⟩ := j1 g a b
    exact ⟨by rw [upT_ne (by omega)]; exact g1, fun k x y => by rw [upT_ne (by omega)]; exact g2 k x y⟩
  · obtain ⟨c1, c2, c3, c4, c5, c6⟩ := j2 p a b
    refine ⟨by rw [upT_ne (by omega)]; exact c1, ?_, ?_, by rw [upT_ne (by omega)]; exact c4, by rw [upT_ne (by omega)]; exact c5, fun k x y => by rw [upT_ne (by omega)]; exact c6 k x y⟩
    · unfold upT; split
      · omega
      · exact c2
    · unfold upT; split
      · omega
      · exact c3
theorem RS5_up {k v : Int} (h : RS5 T) (hk : k < 79) : RS5 (upT T k v) := by
  refine ⟨by rw [upT_ne (by omega)]; exact h.1, fun r a b => ?_⟩
  rw [upT_ne (by omega)] at b
  rw [upT_ne (by omega), upT_ne (by omega), upT_ne (by omega)]
  exact h.2 r a b
set_option maxRecDepth 20000 in
theorem c_X8_can (hE : MEn μ T S) (hI : TI T) (hS : SB S) (hd : T 77 ≤ 9999) (hc : -2147483648 ≤ c ∧ c < 2147483648) (hg : -2147483648 ≤ g ∧ g < 2147483648) (hw : -2147483648 ≤ w ∧ w < 2147483648) (l : Launch) (E : Ev) (A : Nat → Prop) : Con l E 25 m_X8_can A VM ad μ [.ref (ad (30, 0, 0)), .int (I c), .int (I g), .int (I w)] (pi fun z μ' => z = canZ S T c g w ∧ TN μ' T ∧ FX μ μ') := by
  have hJ := hI.j (by omega)
  have hT := hE.1
  have hI76 := hI.2.2.1
  have hR5 : RS5 T := ⟨hI.2.2.2.2.2.1, fun r a b => by have := hI.2.2.2.2.2.2.1 r a b; omega⟩
  refine con (own := RX8) (by decide +kernel) rfl rfl rfl (fun Γ F => ?_)
  have loop : (0 ≤ c ∧ c < T 76) → (0 ≤ w ∧ w < 2) → ∀ (k q : Int) (M : Nat), (q = 2 ∧ k = 18 + 10 * c ∧ M = 4096 ∨ q = 1 ∧ k = 17 + 10 * c ∧ M = 10) → (canZ S T c g w = if w = 0 then (cdL (canP S T c k) M M).1 else (cdL (canP S T c k) M M).2) → ∀ (N j : Nat) (μ1 : Me) (X : Tn), M - j < N → j ≤ M → TN μ1 X → (∀ i, 0 ≤ i → i < 133 → i ≠ k → X i = T i) → FX μ μ1 → XX Γ 10 VM ad (vl ad μ1) 0 0 69 [(0, .ref (ad (30, 0, 0))), (1, .int (I c)), (2, .int (I g)), (3, .int (I w)), (4, .int (I q)), (5, .int (I (T k))), (6, .int (I (cdL (canP S T c k) M j).1)), (7, .int (I (cdL (canP S T c k) M j).2)), (8, .int (I ((M : Int) - 1 - j)))] [] := by
    intro hc1 hw1 k q M hkq hcz N
    induction N with
    | zero => intro j μ1 X b1; omega
    | succ N ih =>
      intro j μ1 X b1 b2 b3 b4 b5
      have hcr := cdL_rg (P := canP S T c k) (N := M) j
      have hM : M ≤ 4096 := by omega
      refine x_iload (i := 8) (pc := 69) F dX8_can_69 rfl ?_
      refine x_if_lt (tgt := 126) (pc := 71) F dX8_can_71 rfl (by omega) (fun h71 => ?_) (fun h71 => ?_)
      · obtain rfl : j = M := by omega
        refine x_aload_n (i := 0) (pc := 126) F dX8_can_126 rfl rfl ?_
        refine x_iload_n (i := 1) (pc := 127) F dX8_can_127 rfl rfl ?_
        refine x_iload (i := 4) (pc := 128) F dX8_can_128 rfl ?_
        refine x_iload (i := 5) (pc := 130) F dX8_can_130 rfl ?_
        refine x_V3i (ci := 8) (pc := 132) F dX8_can_132 lk_X8_90 rfl (vm_ok rfl) rfl rfl (c_X8_change b3 k _ _ _ (by omega)) rfl rfl rfl ?_
        rintro _ _ ⟨rfl, rfl⟩
        refine x_pop (pc := 135) F dX8_can_135 rfl ?_
        refine x_iload_n (i := 3) (pc := 136) F dX8_can_136 rfl rfl ?_
        refine x_if_ne (tgt := 145) (pc := 137) F dX8_can_137 rfl (by omega) (fun h137 => ?_) (fun h137 => ?_)
        · refine x_iload (i := 7) (pc := 145) F dX8_can_145 rfl ?_
          refine tq_reti (pc := 147) F dX8_can_147 ?_ rfl rfl rfl
          have hTe : TN (upM μ1 (31, 0, 0) k (T k)) T := b3.up.c (fun i x y => by unfold upT; by_cases e : i = k; (rw [if_pos e, e]); rw [if_neg e]; exact b4 i x y e)
          first | exact ⟨by rw [hcz, if_pos (by omega)], hTe, b5.trans FX.up⟩ | exact ⟨by rw [hcz, if_neg (by omega)], hTe, b5.trans FX.up⟩
        · refine x_iload (i := 6) (pc := 140) F dX8_can_140 rfl ?_
          refine x_goto (tgt := 147) (pc := 142) F dX8_can_142 rfl ?_
          refine tq_reti (pc := 147) F dX8_can_147 ?_ rfl rfl rfl
          have hTe : TN (upM μ1 (31, 0, 0) k (T k)) T := b3.up.c (fun i x y => by unfold upT; by_cases e : i = k; (rw [if_pos e, e]); rw [if_neg e]; exact b4 i x y e)
          first | exact ⟨by rw [hcz, if_pos (by omega)], hTe, b5.trans FX.up⟩ | exact ⟨by rw [hcz, if_neg (by omega)], hTe, b5.trans FX.up⟩
      · refine x_aload_n (i := 0) (pc := 74) F dX8_can_74 rfl rfl ?_
        refine x_iload_n (i := 1) (pc := 75) F dX8_can_75 rfl rfl ?_
        refine x_iload (i := 4) (pc := 76) F dX8_can_76 rfl ?_
        refine x_iload (i := 8) (pc := 78) F dX8_can_78 rfl ?_
        refine x_V3i (ci := 8) (pc := 80) F dX8_can_80 lk_X8_90 rfl (vm_ok rfl) rfl rfl (c_X8_change b3 k _ _ _ (by omega)) rfl rfl rfl ?_
        rintro _ _ ⟨rfl, rfl⟩
        refine x_pop (pc := 83) F dX8_can_83 rfl ?_
        have hTv : TN (upM μ1 (31, 0, 0) k ((M : Int) - 1 - j)) (upT T k ((M : Int) - 1 - j)) := b3.up.c (fun i x y => by unfold upT; by_cases e : i = k; (rw [if_pos e, if_pos e]); rw [if_neg e, if_neg e]; exact b4 i x y e)
        have hEv : MEn (upM μ1 (31, 0, 0) k ((M : Int) - 1 - j)) (upT T k ((M : Int) - 1 - j)) S := hE.fx (b5.trans FX.up) hTv (upT_ne (by omega))
        have hJv := TJ_up (c := c) (k := k) (v := (M : Int) - 1 - j) hJ (by omega) (by omega)
        refine x_aload_n (i := 0) (pc := 84) F dX8_can_84 rfl rfl ?_
        refine x_iload_n (i := 1) (pc := 85) F dX8_can_85 rfl rfl ?_
        refine x_V1z (ci := 8) (pc := 86) F dX8_can_86 lk_X8_244 rfl (vm_ok rfl) rfl rfl (c_X8_isAllSo hEv hJv hS (RS5_up hR5 (by omega)) (by omega)) rfl rfl rfl ?_
        rintro z μ2 ⟨hz, p2⟩
        refine x_istore (i := 9) (pc := 89) F dX8_can_89 rfl ?_
        have hT2 := hTv.fh p2
        have hcs : z = true → cdL (canP S T c k) M (j + 1) = ((cdL (canP S T c k) M j).1 + 1, (M : Int) - 1 - j) := fun e => cdL_t (hz.mp e)
        have hcf : z = false → cdL (canP S T c k) M (j + 1) = cdL (canP S T c k) M j := fun e => cdL_f (fun q => by rw [hz.mpr q] at e; cases e)
        refine x_iload (i := 6) (pc := 91) F dX8_can_91 rfl ?_
        refine x_iload (i := 9) (pc := 93) F dX8_can_93 rfl ?_
        refine x_if_eqB (tgt := 102) (pc := 95) F dX8_can_95 rfl (fun h95 => ?_) (fun h95 => ?_)
        · try simp only [decide_eq_true_eq, decide_eq_false_iff_not, Bool.and_eq_true, Bool.or_eq_true, Bool.not_eq_true', Bool.not_eq_false', Bool.and_eq_false_iff, Bool.or_eq_false_iff] at h95
          refine x_iconst (pc := 102) F dX8_can_102 ?_
          refine x_iadd (pc := 103) F dX8_can_103 ?_
          refine x_istore (i := 6) (pc := 104) F dX8_can_104 rfl ?_
          refine x_iload (i := 9) (pc := 106) F dX8_can_106 rfl ?_
          refine x_if_eqB (tgt := 116) (pc := 108) F dX8_can_108 rfl (fun h108 => ?_) (fun h108 => ?_)
          · try simp only [decide_eq_true_eq, decide_eq_false_iff_not, Bool.and_eq_true, Bool.or_eq_true, Bool.not_eq_true', Bool.not_eq_false', Bool.and_eq_false_iff, Bool.or_eq_false_iff] at h108
            refine x_iload (i := 7) (pc := 116) F dX8_can_116 rfl ?_
            refine x_istore (i := 7) (pc := 118) F dX8_can_118 rfl ?_
            refine x_iinc (pc := 120) F dX8_can_120 rfl rfl ?_
            refine x_goto (tgt := 69) (pc := 123) F dX8_can_123 rfl ?_
            first | (exfalso; rw [h95] at h108; exact absurd h108 (by decide)) | exact x_sub (L' := [(0, .ref (ad (30, 0, 0))), (1, .int (I c)), (2, .int (I g)), (3, .int (I w)), (4, .int (I q)), (5, .int (I (T k))), (6, .int (I (cdL (canP S T c k) M (j + 1)).1)), (7, .int (I (cdL (canP S T c k) M (j + 1)).2)), (8, .int (I ((M : Int) - 1 - ((j + 1 : Nat) : Int))))]) ⟨rfl, rfl, rfl, rfl, rfl, rfl, lk_i rfl (by rw [hcs h95]), lk_i rfl (by rw [hcs h95]), lk_i rfl (by omega), trivial⟩ (ih (j + 1) μ2 _ (by omega) (by omega) hT2 (fun i x y e => upT_ne e) ((b5.trans FX.up).trans (FX.fh p2))) | exact x_sub (L' := [(0, .ref (ad (30, 0, 0))), (1, .int (I c)), (2, .int (I g)), (3, .int (I w)), (4, .int (I q)), (5, .int (I (T k))), (6, .int (I (cdL (canP S T c k) M (j + 1)).1)), (7, .int (I (cdL (canP S T c k) M (j + 1)).2)), (8, .int (I ((M : Int) - 1 - ((j + 1 : Nat) : Int))))]) ⟨rfl, rfl, rfl, rfl, rfl, rfl, lk_i rfl (by rw [hcf h95]; omega), lk_i rfl (by rw [hcf h95]), lk_i rfl (by omega), trivial⟩ (ih (j + 1) μ2 _ (by omega) (by omega) hT2 (fun i x y e => upT_ne e) ((b5.trans FX.up).trans (FX.fh p2)))
          · try simp only [decide_eq_true_eq, decide_eq_false_iff_not, Bool.and_eq_true, Bool.or_eq_true, Bool.not_eq_true', Bool.not_eq_false', Bool.and_eq_false_iff, Bool.or_eq_false_iff] at h108
            refine x_iload (i := 8) (pc := 111) F dX8_can_111 rfl ?_
            refine x_goto (tgt := 118) (pc := 113) F dX8_can_113 rfl ?_
            refine x_istore (i := 7) (pc := 118) F dX8_can_118 rfl ?_
            refine x_iinc (pc := 120) F dX8_can_120 rfl rfl ?_
            refine x_goto (tgt := 69) (pc := 123) F dX8_can_123 rfl ?_
            first | (exfalso; rw [h95] at h108; exact absurd h108 (by decide)) | exact x_sub (L' := [(0, .ref (ad (30, 0, 0))), (1, .int (I c)), (2, .int (I g)), (3, .int (I w)), (4, .int (I q)), (5, .int (I (T k))), (6, .int (I (cdL (canP S T c k) M (j + 1)).1)), (7, .int (I (cdL (canP S T c k) M (j + 1)).2)), (8, .int (I ((M : Int) - 1 - ((j + 1 : Nat) : Int))))]) ⟨rfl, rfl, rfl, rfl, rfl, rfl, lk_i rfl (by rw [hcs h95]), lk_i rfl (by rw [hcs h95]), lk_i rfl (by omega), trivial⟩ (ih (j + 1) μ2 _ (by omega) (by omega) hT2 (fun i x y e => upT_ne e) ((b5.trans FX.up).trans (FX.fh p2))) | exact x_sub (L' := [(0, .ref (ad (30, 0, 0))), (1, .int (I c)), (2, .int (I g)), (3, .int (I w)), (4, .int (I q)), (5, .int (I (T k))), (6, .int (I (cdL (canP S T c k) M (j + 1)).1)), (7, .int (I (cdL (canP S T c k) M (j + 1)).2)), (8, .int (I ((M : Int) - 1 - ((j + 1 : Nat) : Int))))]) ⟨rfl, rfl, rfl, rfl, rfl, rfl, lk_i rfl (by rw [hcf h95]; omega), lk_i rfl (by rw [hcf h95]), lk_i rfl (by omega), trivial⟩ (ih (j + 1) μ2 _ (by omega) (by omega) hT2 (fun i x y e => upT_ne e) ((b5.trans FX.up).trans (FX.fh p2)))
        · try simp only [decide_eq_true_eq, decide_eq_false_iff_not, Bool.and_eq_true, Bool.or_eq_true, Bool.not_eq_true', Bool.not_eq_false', Bool.and_eq_false_iff, Bool.or_eq_false_iff] at h95
          refine x_iconst (pc := 98) F dX8_can_98 ?_
          refine x_goto (tgt := 103) (pc := 99) F dX8_can_99 rfl ?_
          refine x_iadd (pc := 103) F dX8_can_103 ?_
          refine x_istore (i := 6) (pc := 104) F dX8_can_104 rfl ?_
          refine x_iload (i := 9) (pc := 106) F dX8_can_106 rfl ?_
          refine x_if_eqB (tgt := 116) (pc := 108) F dX8_can_108 rfl (fun h108 => ?_) (fun h108 => ?_)
          · try simp only [decide_eq_true_eq, decide_eq_false_iff_not, Bool.and_eq_true, Bool.or_eq_true, Bool.not_eq_true', Bool.not_eq_false', Bool.and_eq_false_iff, Bool.or_eq_false_iff] at h108
            refine x_iload (i := 7) (pc := 116) F dX8_can_116 rfl ?_
            refine x_istore (i := 7) (pc := 118) F dX8_can_118 rfl ?_
            refine x_iinc (pc := 120) F dX8_can_120 rfl rfl ?_
            refine x_goto (tgt := 69) (pc := 123) F dX8_can_123 rfl ?_
            first | (exfalso; rw [h95] at h108; exact absurd h108 (by decide)) | exact x_sub (L' := [(0, .ref (ad (30, 0, 0))), (1, .int (I c)), (2, .int (I g)), (3, .int (I w)), (4, .int (I q)), (5, .int (I (T k))), (6, .int (I (cdL (canP S T c k) M (j + 1)).1)), (7, .int (I (cdL (canP S T c k) M (j + 1)).2)), (8, .int (I ((M : Int) - 1 - ((j + 1 : Nat) : Int))))]) ⟨rfl, rfl, rfl, rfl, rfl, rfl, lk_i rfl (by rw [hcs h95]), lk_i rfl (by rw [hcs h95]), lk_i rfl (by omega), trivial⟩ (ih (j + 1) μ2 _ (by omega) (by omega) hT2 (fun i x y e => upT_ne e) ((b5.trans FX.up).trans (FX.fh p2))) | exact x_sub (L' := [(0, .ref (ad (30, 0, 0))), (1, .int (I c)), (2, .int (I g)), (3, .int (I w)), (4, .int (I q)), (5, .int (I (T k))), (6, .int (I (cdL (canP S T c k) M (j + 1)).1)), (7, .int (I (cdL (canP S T c k) M (j + 1)).2)), (8, .int (I ((M : Int) - 1 - ((j + 1 : Nat) : Int))))]) ⟨rfl, rfl, rfl, rfl, rfl, rfl, lk_i rfl (by rw [hcf h95]; omega), lk_i rfl (by rw [hcf h95]), lk_i rfl (by omega), trivial⟩ (ih (j + 1) μ2 _ (by omega) (by omega) hT2 (fun i x y e => upT_ne e) ((b5.trans FX.up).trans (FX.fh p2)))
          · try simp only [decide_eq_true_eq, decide_eq_false_iff_not, Bool.and_eq_true, Bool.or_eq_true, Bool.not_eq_true', Bool.not_eq_false', Bool.and_eq_false_iff, Bool.or_eq_false_iff] at h108
            refine x_iload (i := 8) (pc := 111) F dX8_can_111 rfl ?_
            refine x_goto (tgt := 118) (pc := 113) F dX8_can_113 rfl ?_
            refine x_istore (i := 7) (pc := 118) F dX8_can_118 rfl ?_
            refine x_iinc (pc := 120) F dX8_can_120 rfl rfl ?_
            refine x_goto (tgt := 69) (pc := 123) F dX8_can_123 rfl ?_
            first | (exfalso; rw [h95] at h108; exact absurd h108 (by decide)) | exact x_sub (L' := [(0, .ref (ad (30, 0, 0))), (1, .int (I c)), (2, .int (I g)), (3, .int (I w)), (4, .int (I q)), (5, .int (I (T k))), (6, .int (I (cdL (canP S T c k) M (j + 1)).1)), (7, .int (I (cdL (canP S T c k) M (j + 1)).2)), (8, .int (I ((M : Int) - 1 - ((j + 1 : Nat) : Int))))]) ⟨rfl, rfl, rfl, rfl, rfl, rfl, lk_i rfl (by rw [hcs h95]), lk_i rfl (by rw [hcs h95]), lk_i rfl (by omega), trivial⟩ (ih (j + 1) μ2 _ (by omega) (by omega) hT2 (fun i x y e => upT_ne e) ((b5.trans FX.up).trans (FX.fh p2))) | exact x_sub (L' := [(0, .ref (ad (30, 0, 0))), (1, .int (I c)), (2, .int (I g)), (3, .int (I w)), (4, .int (I q)), (5, .int (I (T k))), (6, .int (I (cdL (canP S T c k) M (j + 1)).1)), (7, .int (I (cdL (canP S T c k) M (j + 1)).2)), (8, .int (I ((M : Int) - 1 - ((j + 1 : Nat) : Int))))]) ⟨rfl, rfl, rfl, rfl, rfl, rfl, lk_i rfl (by rw [hcf h95]; omega), lk_i rfl (by rw [hcf h95]), lk_i rfl (by omega), trivial⟩ (ih (j + 1) μ2 _ (by omega) (by omega) hT2 (fun i x y e => upT_ne e) ((b5.trans FX.up).trans (FX.fh p2)))
  refine x_aload_n (i := 0) (pc := 0) F dX8_can_0 rfl rfl ?_
  refine x_iload_n (i := 1) (pc := 1) F dX8_can_1 rfl rfl ?_
  refine x_V1z (ci := 8) (pc := 2) F dX8_can_2 lk_X8_94 rfl (vm_ok rfl) rfl rfl (c_isComerW hT hI76 _ (by omega)) rfl rfl rfl ?_
  rintro _ _ ⟨rfl, rfl⟩
  refine x_if_eqB (tgt := 26) (pc := 5) F dX8_can_5 rfl (fun h5 => ?_) (fun h5 => ?_)
  · try simp only [decide_eq_true_eq, decide_eq_false_iff_not, Bool.and_eq_true, Bool.or_eq_true, Bool.not_eq_true', Bool.not_eq_false', Bool.and_eq_false_iff, Bool.or_eq_false_iff] at h5
    refine x_iconst (pc := 26) F dX8_can_26 ?_
    refine tq_reti (pc := 27) F dX8_can_27 ?_ rfl rfl rfl
    exact ⟨by unfold canZ; rw [if_neg (by omega)], hT, FX.refl μ⟩
  · try simp only [decide_eq_true_eq, decide_eq_false_iff_not, Bool.and_eq_true, Bool.or_eq_true, Bool.not_eq_true', Bool.not_eq_false', Bool.and_eq_false_iff, Bool.or_eq_false_iff] at h5
    refine x_iload_n (i := 2) (pc := 8) F dX8_can_8 rfl rfl ?_
    refine x_iconst (pc := 9) F dX8_can_9 ?_
    refine x_iconst (pc := 10) F dX8_can_10 ?_
    refine x_S3z (pc := 11) F dX8_can_11 lk_X8_78 rfl (c_X8_isIn _ _ _ (by omega) _) rfl rfl rfl ?_
    rintro _ _ ⟨rfl, rfl⟩
    refine x_if_eqB (tgt := 26) (pc := 14) F dX8_can_14 rfl (fun h14 => ?_) (fun h14 => ?_)
    · try simp only [decide_eq_true_eq, decide_eq_false_iff_not, Bool.and_eq_true, Bool.or_eq_true, Bool.not_eq_true', Bool.not_eq_false', Bool.and_eq_false_iff, Bool.or_eq_false_iff] at h14
      refine x_iconst (pc := 26) F dX8_can_26 ?_
      refine tq_reti (pc := 27) F dX8_can_27 ?_ rfl rfl rfl
      exact ⟨by unfold canZ; rw [if_neg (by omega)], hT, FX.refl μ⟩
    · try simp only [decide_eq_true_eq, decide_eq_false_iff_not, Bool.and_eq_true, Bool.or_eq_true, Bool.not_eq_true', Bool.not_eq_false', Bool.and_eq_false_iff, Bool.or_eq_false_iff] at h14
      refine x_iload_n (i := 3) (pc := 17) F dX8_can_17 rfl rfl ?_
      refine x_iconst (pc := 18) F dX8_can_18 ?_
      refine x_iconst (pc := 19) F dX8_can_19 ?_
      refine x_S3z (pc := 20) F dX8_can_20 lk_X8_78 rfl (c_X8_isIn _ _ _ (by omega) _) rfl rfl rfl ?_
      rintro _ _ ⟨rfl, rfl⟩
      refine x_if_neB (tgt := 28) (pc := 23) F dX8_can_23 rfl (fun h23 => ?_) (fun h23 => ?_)
      · try simp only [decide_eq_true_eq, decide_eq_false_iff_not, Bool.and_eq_true, Bool.or_eq_true, Bool.not_eq_true', Bool.not_eq_false', Bool.and_eq_false_iff, Bool.or_eq_false_iff] at h23
        refine x_iload_n (i := 2) (pc := 28) F dX8_can_28 rfl rfl ?_
        refine x_if_ne (tgt := 36) (pc := 29) F dX8_can_29 rfl (by omega) (fun h29 => ?_) (fun h29 => ?_)
        · refine x_iconst (pc := 36) F dX8_can_36 ?_
          refine x_istore (i := 4) (pc := 37) F dX8_can_37 rfl ?_
          refine x_aload_n (i := 0) (pc := 39) F dX8_can_39 rfl rfl ?_
          refine x_iload_n (i := 1) (pc := 40) F dX8_can_40 rfl rfl ?_
          refine x_iload (i := 4) (pc := 41) F dX8_can_41 rfl ?_
          refine x_V2i (ci := 8) (pc := 43) F dX8_can_43 lk_X8_82 rfl (vm_ok rfl) rfl rfl (c_X8_one hT (17 + 10 * c) _ _ (by omega)) rfl rfl rfl ?_
          rintro _ _ ⟨rfl, rfl⟩
          refine x_istore (i := 5) (pc := 46) F dX8_can_46 rfl ?_
          refine x_iconst (pc := 48) F dX8_can_48 ?_
          refine x_istore (i := 6) (pc := 49) F dX8_can_49 rfl ?_
          refine x_bipush (pc := 51) F dX8_can_51 (by decide) ?_
          refine x_istore (i := 7) (pc := 53) F dX8_can_53 rfl ?_
          refine x_iload_n (i := 2) (pc := 55) F dX8_can_55 rfl rfl ?_
          refine x_if_ne (tgt := 65) (pc := 56) F dX8_can_56 rfl (by omega) (fun h56 => ?_) (fun h56 => ?_)
          · refine x_bipush (pc := 65) F dX8_can_65 (by decide) ?_
            refine x_istore (i := 8) (pc := 67) F dX8_can_67 rfl ?_
            first | (exfalso; omega) | skip
            all_goals first | exact x_sub (L' := [(0, .ref (ad (30, 0, 0))), (1, .int (I c)), (2, .int (I g)), (3, .int (I w)), (4, .int (I 2)), (5, .int (I (T (18 + 10 * c)))), (6, .int (I (cdL (canP S T c (18 + 10 * c)) 4096 0).1)), (7, .int (I (cdL (canP S T c (18 + 10 * c)) 4096 0).2)), (8, .int (I (((4096 : Nat) : Int) - 1 - ((0 : Nat) : Int))))]) ⟨rfl, rfl, rfl, rfl, rfl, rfl, rfl, rfl, rfl, trivial⟩ (loop (by omega) (by omega) (18 + 10 * c) 2 4096 (by omega) (by unfold canZ canL; rw [if_pos (show (0 ≤ c ∧ c < T 76) ∧ (0 ≤ g ∧ g < 2) ∧ 0 ≤ w ∧ w < 2 by omega), if_pos (show g = 0 by omega)]) 4097 0 μ T (by omega) (by omega) hT (fun _ _ _ _ => rfl) (FX.refl μ)) | exact x_sub (L' := [(0, .ref (ad (30, 0, 0))), (1, .int (I c)), (2, .int (I g)), (3, .int (I w)), (4, .int (I 1)), (5, .int (I (T (17 + 10 * c)))), (6, .int (I (cdL (canP S T c (17 + 10 * c)) 10 0).1)), (7, .int (I (cdL (canP S T c (17 + 10 * c)) 10 0).2)), (8, .int (I (((10 : Nat) : Int) - 1 - ((0 : Nat) : Int))))]) ⟨rfl, rfl, rfl, rfl, rfl, rfl, rfl, rfl, rfl, trivial⟩ (loop (by omega) (by omega) (17 + 10 * c) 1 10 (by omega) (by unfold canZ canL; rw [if_pos (show (0 ≤ c ∧ c < T 76) ∧ (0 ≤ g ∧ g < 2) ∧ 0 ≤ w ∧ w < 2 by omega), if_neg (show ¬ g = 0 by omega)]) 11 0 μ T (by omega) (by omega) hT (fun _ _ _ _ => rfl) (FX.refl μ))
          · refine x_sipush (pc := 59) F dX8_can_59 (by decide) ?_
            refine x_goto (tgt := 67) (pc := 62) F dX8_can_62 rfl ?_
            refine x_istore (i := 8) (pc := 67) F dX8_can_67 rfl ?_
            first | (exfalso; omega) | skip
            all_goals first | exact x_sub (L' := [(0, .ref (ad (30, 0, 0))), (1, .int (I c)), (2, .int (I g)), (3, .int (I w)), (4, .int (I 2)), (5, .int (I (T (18 + 10 * c)))), (6, .int (I (cdL (canP S T c (18 + 10 * c)) 4096 0).1)), (7, .int (I (cdL (canP S T c (18 + 10 * c)) 4096 0).2)), (8, .int (I (((4096 : Nat) : Int) - 1 - ((0 : Nat) : Int))))]) ⟨rfl, rfl, rfl, rfl, rfl, rfl, rfl, rfl, rfl, trivial⟩ (loop (by omega) (by omega) (18 + 10 * c) 2 4096 (by omega) (by unfold canZ canL; rw [if_pos (show (0 ≤ c ∧ c < T 76) ∧ (0 ≤ g ∧ g < 2) ∧ 0 ≤ w ∧ w < 2 by omega), if_pos (show g = 0 by omega)]) 4097 0 μ T (by omega) (by omega) hT (fun _ _ _ _ => rfl) (FX.refl μ)) | exact x_sub (L' := [(0, .ref (ad (30, 0, 0))), (1, .int (I c)), (2, .int (I g)), (3, .int (I w)), (4, .int (I 1)), (5, .int (I (T (17 + 10 * c)))), (6, .int (I (cdL (canP S T c (17 + 10 * c)) 10 0).1)), (7, .int (I (cdL (canP S T c (17 + 10 * c)) 10 0).2)), (8, .int (I (((10 : Nat) : Int) - 1 - ((0 : Nat) : Int))))]) ⟨rfl, rfl, rfl, rfl, rfl, rfl, rfl, rfl, rfl, trivial⟩ (loop (by omega) (by omega) (17 + 10 * c) 1 10 (by omega) (by unfold canZ canL; rw [if_pos (show (0 ≤ c ∧ c < T 76) ∧ (0 ≤ g ∧ g < 2) ∧ 0 ≤ w ∧ w < 2 by omega), if_neg (show ¬ g = 0 by omega)]) 11 0 μ T (by omega) (by omega) hT (fun _ _ _ _ => rfl) (FX.refl μ))
        · refine x_iconst (pc := 32) F dX8_can_32 ?_
          refine x_goto (tgt := 37) (pc := 33) F dX8_can_33 rfl ?_
          refine x_istore (i := 4) (pc := 37) F dX8_can_37 rfl ?_
          refine x_aload_n (i := 0) (pc := 39) F dX8_can_39 rfl rfl ?_
          refine x_iload_n (i := 1) (pc := 40) F dX8_can_40 rfl rfl ?_
          refine x_iload (i := 4) (pc := 41) F dX8_can_41 rfl ?_
          refine x_V2i (ci := 8) (pc := 43) F dX8_can_43 lk_X8_82 rfl (vm_ok rfl) rfl rfl (c_X8_one hT (18 + 10 * c) _ _ (by omega)) rfl rfl rfl ?_
          rintro _ _ ⟨rfl, rfl⟩
          refine x_istore (i := 5) (pc := 46) F dX8_can_46 rfl ?_
          refine x_iconst (pc := 48) F dX8_can_48 ?_
          refine x_istore (i := 6) (pc := 49) F dX8_can_49 rfl ?_
          refine x_bipush (pc := 51) F dX8_can_51 (by decide) ?_
          refine x_istore (i := 7) (pc := 53) F dX8_can_53 rfl ?_
          refine x_iload_n (i := 2) (pc := 55) F dX8_can_55 rfl rfl ?_
          refine x_if_ne (tgt := 65) (pc := 56) F dX8_can_56 rfl (by omega) (fun h56 => ?_) (fun h56 => ?_)
          · refine x_bipush (pc := 65) F dX8_can_65 (by decide) ?_
            refine x_istore (i := 8) (pc := 67) F dX8_can_67 rfl ?_
            first | (exfalso; omega) | skip
            all_goals first | exact x_sub (L' := [(0, .ref (ad (30, 0, 0))), (1, .int (I c)), (2, .int (I g)), (3, .int (I w)), (4, .int (I 2)), (5, .int (I (T (18 + 10 * c)))), (6, .int (I (cdL (canP S T c (18 + 10 * c)) 4096 0).1)), (7, .int (I (cdL (canP S T c (18 + 10 * c)) 4096 0).2)), (8, .int (I (((4096 : Nat) : Int) - 1 - ((0 : Nat) : Int))))]) ⟨rfl, rfl, rfl, rfl, rfl, rfl, rfl, rfl, rfl, trivial⟩ (loop (by omega) (by omega) (18 + 10 * c) 2 4096 (by omega) (by unfold canZ canL; rw [if_pos (show (0 ≤ c ∧ c < T 76) ∧ (0 ≤ g ∧ g < 2) ∧ 0 ≤ w ∧ w < 2 by omega), if_pos (show g = 0 by omega)]) 4097 0 μ T (by omega) (by omega) hT (fun _ _ _ _ => rfl) (FX.refl μ)) | exact x_sub (L' := [(0, .ref (ad (30, 0, 0))), (1, .int (I c)), (2, .int (I g)), (3, .int (I w)), (4, .int (I 1)), (5, .int (I (T (17 + 10 * c)))), (6, .int (I (cdL (canP S T c (17 + 10 * c)) 10 0).1)), (7, .int (I (cdL (canP S T c (17 + 10 * c)) 10 0).2)), (8, .int (I (((10 : Nat) : Int) - 1 - ((0 : Nat) : Int))))]) ⟨rfl, rfl, rfl, rfl, rfl, rfl, rfl, rfl, rfl, trivial⟩ (loop (by omega) (by omega) (17 + 10 * c) 1 10 (by omega) (by unfold canZ canL; rw [if_pos (show (0 ≤ c ∧ c < T 76) ∧ (0 ≤ g ∧ g < 2) ∧ 0 ≤ w ∧ w < 2 by omega), if_neg (show ¬ g = 0 by omega)]) 11 0 μ T (by omega) (by omega) hT (fun _ _ _ _ => rfl) (FX.refl μ))
          · refine x_sipush (pc := 59) F dX8_can_59 (by decide) ?_
            refine x_goto (tgt := 67) (pc := 62) F dX8_can_62 rfl ?_
            refine x_istore (i := 8) (pc := 67) F dX8_can_67 rfl ?_
            first | (exfalso; omega) | skip
            all_goals first | exact x_sub (L' := [(0, .ref (ad (30, 0, 0))), (1, .int (I c)), (2, .int (I g)), (3, .int (I w)), (4, .int (I 2)), (5, .int (I (T (18 + 10 * c)))), (6, .int (I (cdL (canP S T c (18 + 10 * c)) 4096 0).1)), (7, .int (I (cdL (canP S T c (18 + 10 * c)) 4096 0).2)), (8, .int (I (((4096 : Nat) : Int) - 1 - ((0 : Nat) : Int))))]) ⟨rfl, rfl, rfl, rfl, rfl, rfl, rfl, rfl, rfl, trivial⟩ (loop (by omega) (by omega) (18 + 10 * c) 2 4096 (by omega) (by unfold canZ canL; rw [if_pos (show (0 ≤ c ∧ c < T 76) ∧ (0 ≤ g ∧ g < 2) ∧ 0 ≤ w ∧ w < 2 by omega), if_pos (show g = 0 by omega)]) 4097 0 μ T (by omega) (by omega) hT (fun _ _ _ _ => rfl) (FX.refl μ)) | exact x_sub (L' := [(0, .ref (ad (30, 0, 0))), (1, .int (I c)), (2, .int (I g)), (3, .int (I w)), (4, .int (I 1)), (5, .int (I (T (17 + 10 * c)))), (6, .int (I (cdL (canP S T c (17 + 10 * c)) 10 0).1)), (7, .int (I (cdL (canP S T c (17 + 10 * c)) 10 0).2)), (8, .int (I (((10 : Nat) : Int) - 1 - ((0 : Nat) : Int))))]) ⟨rfl, rfl, rfl, rfl, rfl, rfl, rfl, rfl, rfl, trivial⟩ (loop (by omega) (by omega) (17 + 10 * c) 1 10 (by omega) (by unfold canZ canL; rw [if_pos (show (0 ≤ c ∧ c < T 76) ∧ (0 ≤ g ∧ g < 2) ∧ 0 ≤ w ∧ w < 2 by omega), if_neg (show ¬ g = 0 by omega)]) 11 0 μ T (by omega) (by omega) hT (fun _ _ _ _ => rfl) (FX.refl μ))
      · try simp only [decide_eq_true_eq, decide_eq_false_iff_not, Bool.and_eq_true, Bool.or_eq_true, Bool.not_eq_true', Bool.not_eq_false', Bool.and_eq_false_iff, Bool.or_eq_false_iff] at h23
        refine x_iconst (pc := 26) F dX8_can_26 ?_
        refine tq_reti (pc := 27) F dX8_can_27 ?_ rfl rfl rfl
        exact ⟨by unfold canZ; rw [if_neg (by omega)], hT, FX.refl μ⟩
set_option maxRecDepth 20000 in
theorem c_X8_plan (hT : TN μ T) (hI : TI T) (hc : -2147483648 ≤ c ∧ c < 2147483648) (hn : -2147483648 ≤ n ∧ n < 2147483648) (l : Launch) (E : Ev) (A : Nat → Prop) : Con l E 2 m_X8_plan A VM ad μ [.ref (ad (30, 0, 0)), .int (I c), .int (I n)] (pi fun z μ' => z = planZ T c n ∧ TN μ' (planT T c n) ∧ FX μ μ') := by
  have hI76 := hI.2.2.1
  have h95 := hI.2.2.2.2.2.2.2.1
  have hm95 := hT 95 (by omega) (by omega)
  refine con (own := RX8) (by decide +kernel) rfl rfl rfl (fun Γ F => ?_)
  have lneg : c ≠ -1 → ¬ PI1 T c n → XX Γ 4 VM ad (vl ad μ) 0 0 79 [(0, .ref (ad (30, 0, 0))), (1, .int (I c)), (2, .int (I n))] [.int (I 0)] := by
    intro b1 b2
    refine x_istore_n (i := 3) (pc := 79) F dX8_plan_79 rfl rfl ?_
    refine x_iload_n (i := 3) (pc := 80) F dX8_plan_80 rfl rfl ?_
    refine x_if_ne (tgt := 86) (pc := 81) F dX8_plan_81 rfl (by omega) (fun h81 => ?_) (fun h81 => ?_)
    · exfalso; omega
    · refine x_iconst (pc := 84) F dX8_plan_84 ?_
      refine tq_reti (pc := 85) F dX8_plan_85 ?_ rfl rfl rfl
      exact ⟨by unfold planZ; rw [if_neg b1, if_neg b2], by unfold planT; rw [if_neg b1, if_neg (fun z => b2 z.1)]; exact hT, FX.refl μ⟩
  have lpos : c ≠ -1 → PI1 T c n → XX Γ 4 VM ad (vl ad μ) 0 0 79 [(0, .ref (ad (30, 0, 0))), (1, .int (I c)), (2, .int (I n))] [.int (I 1)] := by
    intro b1 b2
    refine x_istore_n (i := 3) (pc := 79) F dX8_plan_79 rfl rfl ?_
    refine x_iload_n (i := 3) (pc := 80) F dX8_plan_80 rfl rfl ?_
    refine x_if_ne (tgt := 86) (pc := 81) F dX8_plan_81 rfl (by omega) (fun h81 => ?_) (fun h81 => ?_)
    · refine x_aload_n (i := 0) (pc := 86) F dX8_plan_86 rfl rfl ?_
      refine gf_X8_9 (pc := 87) F dX8_plan_87 (vm_ok rfl) ?_
      refine x_bipush (pc := 90) F dX8_plan_90 (by decide) ?_
      refine tq_ia (pc := 92) F dX8_plan_92 (vm_ok rfl) rfl (fun _ => rfl) (by omega) ?_
      rw [hm95]
      refine x_bipush (pc := 93) F dX8_plan_93 (by decide) ?_
      refine x_icmp_ne (tgt := 101) (pc := 95) F dX8_plan_95 rfl (by omega) (fun h95 => ?_) (fun h95 => ?_)
      · refine x_aload_n (i := 0) (pc := 101) F dX8_plan_101 rfl rfl ?_
        refine gf_X8_9 (pc := 102) F dX8_plan_102 (vm_ok rfl) ?_
        refine x_bipush (pc := 105) F dX8_plan_105 (by decide) ?_
        refine x_iconst (pc := 107) F dX8_plan_107 ?_
        refine x_aload_n (i := 0) (pc := 108) F dX8_plan_108 rfl rfl ?_
        refine gf_X8_9 (pc := 109) F dX8_plan_109 (vm_ok rfl) ?_
        refine x_bipush (pc := 112) F dX8_plan_112 (by decide) ?_
        refine tq_ia (pc := 114) F dX8_plan_114 (vm_ok rfl) rfl (fun _ => rfl) (by omega) ?_
        rw [hm95]
        refine x_imul (pc := 115) F dX8_plan_115 ?_
        refine x_iadd (pc := 116) F dX8_plan_116 ?_
        refine x_iload_n (i := 1) (pc := 117) F dX8_plan_117 rfl rfl ?_
        refine tq_ias (pc := 118) F dX8_plan_118 (vm_ok rfl) rfl (fun _ => rfl) (by omega) ?_
        refine x_aload_n (i := 0) (pc := 119) F dX8_plan_119 rfl rfl ?_
        refine gf_X8_9 (pc := 120) F dX8_plan_120 (vm_ok rfl) ?_
        refine x_bipush (pc := 123) F dX8_plan_123 (by decide) ?_
        refine x_iconst (pc := 125) F dX8_plan_125 ?_
        refine x_aload_n (i := 0) (pc := 126) F dX8_plan_126 rfl rfl ?_
        refine gf_X8_9 (pc := 127) F dX8_plan_127 (vm_ok rfl) ?_
        refine x_bipush (pc := 130) F dX8_plan_130 (by decide) ?_
        refine tq_ia (pc := 132) F dX8_plan_132 (vm_ok rfl) rfl (fun _ => rfl) (by omega) ?_
        rw [hT.up 95 (by omega) (by omega), upT_ne (by omega)]
        refine x_imul (pc := 133) F dX8_plan_133 ?_
        refine x_iadd (pc := 134) F dX8_plan_134 ?_
        refine x_iload_n (i := 2) (pc := 135) F dX8_plan_135 rfl rfl ?_
        refine tq_ias (pc := 136) F dX8_plan_136 (vm_ok rfl) rfl (fun _ => rfl) (by omega) ?_
        refine x_aload_n (i := 0) (pc := 137) F dX8_plan_137 rfl rfl ?_
        refine gf_X8_9 (pc := 138) F dX8_plan_138 (vm_ok rfl) ?_
        refine x_bipush (pc := 141) F dX8_plan_141 (by decide) ?_
        refine x_dup2 (pc := 143) F dX8_plan_143 rfl rfl ?_
        refine tq_ia (pc := 144) F dX8_plan_144 (vm_ok rfl) rfl (fun _ => rfl) (by omega) ?_
        rw [hT.up.up 95 (by omega) (by omega), upT_ne (by omega), upT_ne (by omega)]
        refine x_iconst (pc := 145) F dX8_plan_145 ?_
        refine x_iadd (pc := 146) F dX8_plan_146 ?_
        refine tq_ias (pc := 147) F dX8_plan_147 (vm_ok rfl) rfl (fun _ => rfl) (by omega) ?_
        refine x_aload_n (i := 0) (pc := 148) F dX8_plan_148 rfl rfl ?_
        refine gf_X8_9 (pc := 149) F dX8_plan_149 (vm_ok rfl) ?_
        refine x_bipush (pc := 152) F dX8_plan_152 (by decide) ?_
        refine tq_ia (pc := 154) F dX8_plan_154 (vm_ok rfl) rfl (fun _ => rfl) (by omega) ?_
        rw [upM_i, if_pos rfl]
        refine tq_reti (pc := 155) F dX8_plan_155 ?_ rfl rfl rfl
        exact ⟨by unfold planZ; rw [if_neg b1, if_pos b2, if_neg (by omega)], by unfold planT; rw [if_neg b1, if_pos ⟨b2, by omega⟩]; exact hT.up.up.up, (FX.up.trans FX.up).trans FX.up⟩
      · refine x_bipush (pc := 98) F dX8_plan_98 (by decide) ?_
        refine tq_reti (pc := 100) F dX8_plan_100 ?_ rfl rfl rfl
        exact ⟨by unfold planZ; rw [if_neg b1, if_pos b2, if_pos (by omega)], by unfold planT; rw [if_neg b1, if_neg (fun z => by omega)]; exact hT, FX.refl μ⟩
    · exfalso; omega
  refine x_iload_n (i := 1) (pc := 0) F dX8_plan_0 rfl rfl ?_
  refine x_iconst (pc := 1) F dX8_plan_1 ?_
  refine x_icmp_ne (tgt := 15) (pc := 2) F dX8_plan_2 rfl (by omega) (fun h2 => ?_) (fun h2 => ?_)
  · refine x_iload_n (i := 1) (pc := 15) F dX8_plan_15 rfl rfl ?_
    refine x_if_eq (tgt := 74) (pc := 16) F dX8_plan_16 rfl (by omega) (fun h16 => ?_) (fun h16 => ?_)
    · refine x_iconst (pc := 74) F dX8_plan_74 ?_
      refine x_goto (tgt := 79) (pc := 75) F dX8_plan_75 rfl ?_
      first | exact lpos (by omega) (by unfold PI1; omega) | exact lneg (by omega) (by unfold PI1; omega)
    · refine x_iload_n (i := 1) (pc := 19) F dX8_plan_19 rfl rfl ?_
      refine x_iconst (pc := 20) F dX8_plan_20 ?_
      refine x_icmp_ne (tgt := 49) (pc := 21) F dX8_plan_21 rfl (by omega) (fun h21 => ?_) (fun h21 => ?_)
      · refine x_iload_n (i := 1) (pc := 49) F dX8_plan_49 rfl rfl ?_
        refine x_iconst (pc := 50) F dX8_plan_50 ?_
        refine x_icmp_ne (tgt := 61) (pc := 51) F dX8_plan_51 rfl (by omega) (fun h51 => ?_) (fun h51 => ?_)
        · refine x_iload_n (i := 1) (pc := 61) F dX8_plan_61 rfl rfl ?_
          refine x_iconst (pc := 62) F dX8_plan_62 ?_
          refine x_icmp_ne (tgt := 78) (pc := 63) F dX8_plan_63 rfl (by omega) (fun h63 => ?_) (fun h63 => ?_)
          · refine x_iconst (pc := 78) F dX8_plan_78 ?_
            first | exact lpos (by omega) (by unfold PI1; omega) | exact lneg (by omega) (by unfold PI1; omega)
          · refine x_aload_n (i := 0) (pc := 66) F dX8_plan_66 rfl rfl ?_
            refine x_iload_n (i := 2) (pc := 67) F dX8_plan_67 rfl rfl ?_
            refine x_V1z (ci := 8) (pc := 68) F dX8_plan_68 lk_X8_94 rfl (vm_ok rfl) rfl rfl (c_isComerW hT hI76 _ (by omega)) rfl rfl rfl ?_
            rintro _ _ ⟨rfl, rfl⟩
            refine x_if_eqB (tgt := 78) (pc := 71) F dX8_plan_71 rfl (fun h71 => ?_) (fun h71 => ?_)
            · try simp only [decide_eq_true_eq, decide_eq_false_iff_not, Bool.and_eq_true, Bool.or_eq_true, Bool.not_eq_true', Bool.not_eq_false', Bool.and_eq_false_iff, Bool.or_eq_false_iff] at h71
              refine x_iconst (pc := 78) F dX8_plan_78 ?_
              first | exact lpos (by omega) (by unfold PI1; omega) | exact lneg (by omega) (by unfold PI1; omega)
            · try simp only [decide_eq_true_eq, decide_eq_false_iff_not, Bool.and_eq_true, Bool.or_eq_true, Bool.not_eq_true', Bool.not_eq_false', Bool.and_eq_false_iff, Bool.or_eq_false_iff] at h71
              refine x_iconst (pc := 74) F dX8_plan_74 ?_
              refine x_goto (tgt := 79) (pc := 75) F dX8_plan_75 rfl ?_
              first | exact lpos (by omega) (by unfold PI1; omega) | exact lneg (by omega) (by unfold PI1; omega)
        · refine x_iload_n (i := 2) (pc := 54) F dX8_plan_54 rfl rfl ?_
          refine x_S1z (pc := 55) F dX8_plan_55 lk_X8_86 rfl (c_isGateW _ _ (by omega)) rfl rfl rfl ?_
          rintro _ _ ⟨rfl, rfl⟩
          refine x_if_neB (tgt := 74) (pc := 58) F dX8_plan_58 rfl (fun h58 => ?_) (fun h58 => ?_)
          · try simp only [decide_eq_true_eq, decide_eq_false_iff_not, Bool.and_eq_true, Bool.or_eq_true, Bool.not_eq_true', Bool.not_eq_false', Bool.and_eq_false_iff, Bool.or_eq_false_iff] at h58
            refine x_iconst (pc := 74) F dX8_plan_74 ?_
            refine x_goto (tgt := 79) (pc := 75) F dX8_plan_75 rfl ?_
            first | exact lpos (by omega) (by unfold PI1; omega) | exact lneg (by omega) (by unfold PI1; omega)
          · try simp only [decide_eq_true_eq, decide_eq_false_iff_not, Bool.and_eq_true, Bool.or_eq_true, Bool.not_eq_true', Bool.not_eq_false', Bool.and_eq_false_iff, Bool.or_eq_false_iff] at h58
            refine x_iload_n (i := 1) (pc := 61) F dX8_plan_61 rfl rfl ?_
            refine x_iconst (pc := 62) F dX8_plan_62 ?_
            refine x_icmp_ne (tgt := 78) (pc := 63) F dX8_plan_63 rfl (by omega) (fun h63 => ?_) (fun h63 => ?_)
            · refine x_iconst (pc := 78) F dX8_plan_78 ?_
              first | exact lpos (by omega) (by unfold PI1; omega) | exact lneg (by omega) (by unfold PI1; omega)
            · refine x_aload_n (i := 0) (pc := 66) F dX8_plan_66 rfl rfl ?_
              refine x_iload_n (i := 2) (pc := 67) F dX8_plan_67 rfl rfl ?_
              refine x_V1z (ci := 8) (pc := 68) F dX8_plan_68 lk_X8_94 rfl (vm_ok rfl) rfl rfl (c_isComerW hT hI76 _ (by omega)) rfl rfl rfl ?_
              rintro _ _ ⟨rfl, rfl⟩
              refine x_if_eqB (tgt := 78) (pc := 71) F dX8_plan_71 rfl (fun h71 => ?_) (fun h71 => ?_)
              · try simp only [decide_eq_true_eq, decide_eq_false_iff_not, Bool.and_eq_true, Bool.or_eq_true, Bool.not_eq_true', Bool.not_eq_false', Bool.and_eq_false_iff, Bool.or_eq_false_iff] at h71
                refine x_iconst (pc := 78) F dX8_plan_78 ?_
                first | exact lpos (by omega) (by unfold PI1; omega) | exact lneg (by omega) (by unfold PI1; omega)
              · try simp only [decide_eq_true_eq, decide_eq_false_iff_not, Bool.and_eq_true, Bool.or_eq_true, Bool.not_eq_true', Bool.not_eq_false', Bool.and_eq_false_iff, Bool.or_eq_false_iff] at h71
                refine x_iconst (pc := 74) F dX8_plan_74 ?_
                refine x_goto (tgt := 79) (pc := 75) F dX8_plan_75 rfl ?_
                first | exact lpos (by omega) (by unfold PI1; omega) | exact lneg (by omega) (by unfold PI1; omega)
      · refine x_iload_n (i := 2) (pc := 24) F dX8_plan_24 rfl rfl ?_
        refine x_if_lt (tgt := 49) (pc := 25) F dX8_plan_25 rfl (by omega) (fun h25 => ?_) (fun h25 => ?_)
        · refine x_iload_n (i := 1) (pc := 49) F dX8_plan_49 rfl rfl ?_
          refine x_iconst (pc := 50) F dX8_plan_50 ?_
          refine x_icmp_ne (tgt := 61) (pc := 51) F dX8_plan_51 rfl (by omega) (fun h51 => ?_) (fun h51 => ?_)
          · refine x_iload_n (i := 1) (pc := 61) F dX8_plan_61 rfl rfl ?_
            refine x_iconst (pc := 62) F dX8_plan_62 ?_
            refine x_icmp_ne (tgt := 78) (pc := 63) F dX8_plan_63 rfl (by omega) (fun h63 => ?_) (fun h63 => ?_)
            · refine x_iconst (pc := 78) F dX8_plan_78 ?_
              first | exact lpos (by omega) (by unfold PI1; omega) | exact lneg (by omega) (by unfold PI1; omega)
            · refine x_aload_n (i := 0) (pc := 66) F dX8_plan_66 rfl rfl ?_
              refine x_iload_n (i := 2) (pc := 67) F dX8_plan_67 rfl rfl ?_
              refine x_V1z (ci := 8) (pc := 68) F dX8_plan_68 lk_X8_94 rfl (vm_ok rfl) rfl rfl (c_isComerW hT hI76 _ (by omega)) rfl rfl rfl ?_
              rintro _ _ ⟨rfl, rfl⟩
              refine x_if_eqB (tgt := 78) (pc := 71) F dX8_plan_71 rfl (fun h71 => ?_) (fun h71 => ?_)
              · try simp only [decide_eq_true_eq, decide_eq_false_iff_not, Bool.and_eq_true, Bool.or_eq_true, Bool.not_eq_true', Bool.not_eq_false', Bool.and_eq_false_iff, Bool.or_eq_false_iff] at h71
                refine x_iconst (pc := 78) F dX8_plan_78 ?_
                first | exact lpos (by omega) (by unfold PI1; omega) | exact lneg (by omega) (by unfold PI1; omega)
              · try simp only [decide_eq_true_eq, decide_eq_false_iff_not, Bool.and_eq_true, Bool.or_eq_true, Bool.not_eq_true', Bool.not_eq_false', Bool.and_eq_false_iff, Bool.or_eq_false_iff] at h71
                refine x_iconst (pc := 74) F dX8_plan_74 ?_
                refine x_goto (tgt := 79) (pc := 75) F dX8_plan_75 rfl ?_
                first | exact lpos (by omega) (by unfold PI1; omega) | exact lneg (by omega) (by unfold PI1; omega)
          · refine x_iload_n (i := 2) (pc := 54) F dX8_plan_54 rfl rfl ?_
            refine x_S1z (pc := 55) F dX8_plan_55 lk_X8_86 rfl (c_isGateW _ _ (by omega)) rfl rfl rfl ?_
            rintro _ _ ⟨rfl, rfl⟩
            refine x_if_neB (tgt := 74) (pc := 58) F dX8_plan_58 rfl (fun h58 => ?_) (fun h58 => ?_)
            · try simp only [decide_eq_true_eq, decide_eq_false_iff_not, Bool.and_eq_true, Bool.or_eq_true, Bool.not_eq_true', Bool.not_eq_false', Bool.and_eq_false_iff, Bool.or_eq_false_iff] at h58
              refine x_iconst (pc := 74) F dX8_plan_74 ?_
              refine x_goto (tgt := 79) (pc := 75) F dX8_plan_75 rfl ?_
              first | exact lpos (by omega) (by unfold PI1; omega) | exact lneg (by omega) (by unfold PI1; omega)
            · try simp only [decide_eq_true_eq, decide_eq_false_iff_not, Bool.and_eq_true, Bool.or_eq_true, Bool.not_eq_true', Bool.not_eq_false', Bool.and_eq_false_iff, Bool.or_eq_false_iff] at h58
              refine x_iload_n (i := 1) (pc := 61) F dX8_plan_61 rfl rfl ?_
              refine x_iconst (pc := 62) F dX8_plan_62 ?_
              refine x_icmp_ne (tgt := 78) (pc := 63) F dX8_plan_63 rfl (by omega) (fun h63 => ?_) (fun h63 => ?_)
              · refine x_iconst (pc := 78) F dX8_plan_78 ?_
                first | exact lpos (by omega) (by unfold PI1; omega) | exact lneg (by omega) (by unfold PI1; omega)
              · refine x_aload_n (i := 0) (pc := 66) F dX8_plan_66 rfl rfl ?_
                refine x_iload_n (i := 2) (pc := 67) F dX8_plan_67 rfl rfl ?_
                refine x_V1z (ci := 8) (pc := 68) F dX8_plan_68 lk_X8_94 rfl (vm_ok rfl) rfl rfl (c_isComerW hT hI76 _ (by omega)) rfl rfl rfl ?_
                rintro _ _ ⟨rfl, rfl⟩
                refine x_if_eqB (tgt := 78) (pc := 71) F dX8_plan_71 rfl (fun h71 => ?_) (fun h71 => ?_)
                · try simp only [decide_eq_true_eq, decide_eq_false_iff_not, Bool.and_eq_true, Bool.or_eq_true, Bool.not_eq_true', Bool.not_eq_false', Bool.and_eq_false_iff, Bool.or_eq_false_iff] at h71
                  refine x_iconst (pc := 78) F dX8_plan_78 ?_
                  first | exact lpos (by omega) (by unfold PI1; omega) | exact lneg (by omega) (by unfold PI1; omega)
                · try simp only [decide_eq_true_eq, decide_eq_false_iff_not, Bool.and_eq_true, Bool.or_eq_true, Bool.not_eq_true', Bool.not_eq_false', Bool.and_eq_false_iff, Bool.or_eq_false_iff] at h71
                  refine x_iconst (pc := 74) F dX8_plan_74 ?_
                  refine x_goto (tgt := 79) (pc := 75) F dX8_plan_75 rfl ?_
                  first | exact lpos (by omega) (by unfold PI1; omega) | exact lneg (by omega) (by unfold PI1; omega)
        · refine x_iload_n (i := 2) (pc := 28) F dX8_plan_28 rfl rfl ?_
          refine x_bipush (pc := 29) F dX8_plan_29 (by decide) ?_
          refine tq_idiv (pc := 31) F dX8_plan_31 (by omega) ?_
          refine x_S1z (pc := 32) F dX8_plan_32 lk_X8_86 rfl (c_isGateW _ _ (by omega)) rfl rfl rfl ?_
          rintro _ _ ⟨rfl, rfl⟩
          refine x_if_eqB (tgt := 49) (pc := 35) F dX8_plan_35 rfl (fun h35 => ?_) (fun h35 => ?_)
          · try simp only [decide_eq_true_eq, decide_eq_false_iff_not, Bool.and_eq_true, Bool.or_eq_true, Bool.not_eq_true', Bool.not_eq_false', Bool.and_eq_false_iff, Bool.or_eq_false_iff] at h35
            refine x_iload_n (i := 1) (pc := 49) F dX8_plan_49 rfl rfl ?_
            refine x_iconst (pc := 50) F dX8_plan_50 ?_
            refine x_icmp_ne (tgt := 61) (pc := 51) F dX8_plan_51 rfl (by omega) (fun h51 => ?_) (fun h51 => ?_)
            · refine x_iload_n (i := 1) (pc := 61) F dX8_plan_61 rfl rfl ?_
              refine x_iconst (pc := 62) F dX8_plan_62 ?_
              refine x_icmp_ne (tgt := 78) (pc := 63) F dX8_plan_63 rfl (by omega) (fun h63 => ?_) (fun h63 => ?_)
              · refine x_iconst (pc := 78) F dX8_plan_78 ?_
                first | exact lpos (by omega) (by unfold PI1; omega) | exact lneg (by omega) (by unfold PI1; omega)
              · refine x_aload_n (i := 0) (pc := 66) F dX8_plan_66 rfl rfl ?_
                refine x_iload_n (i := 2) (pc := 67) F dX8_plan_67 rfl rfl ?_
                refine x_V1z (ci := 8) (pc := 68) F dX8_plan_68 lk_X8_94 rfl (vm_ok rfl) rfl rfl (c_isComerW hT hI76 _ (by omega)) rfl rfl rfl ?_
                rintro _ _ ⟨rfl, rfl⟩
                refine x_if_eqB (tgt := 78) (pc := 71) F dX8_plan_71 rfl (fun h71 => ?_) (fun h71 => ?_)
                · try simp only [decide_eq_true_eq, decide_eq_false_iff_not, Bool.and_eq_true, Bool.or_eq_true, Bool.not_eq_true', Bool.not_eq_false', Bool.and_eq_false_iff, Bool.or_eq_false_iff] at h71
                  refine x_iconst (pc := 78) F dX8_plan_78 ?_
                  first | exact lpos (by omega) (by unfold PI1; omega) | exact lneg (by omega) (by unfold PI1; omega)
                · try simp only [decide_eq_true_eq, decide_eq_false_iff_not, Bool.and_eq_true, Bool.or_eq_true, Bool.not_eq_true', Bool.not_eq_false', Bool.and_eq_false_iff, Bool.or_eq_false_iff] at h71
                  refine x_iconst (pc := 74) F dX8_plan_74 ?_
                  refine x_goto (tgt := 79) (pc := 75) F dX8_plan_75 rfl ?_
                  first | exact lpos (by omega) (by unfold PI1; omega) | exact lneg (by omega) (by unfold PI1; omega)
            · refine x_iload_n (i := 2) (pc := 54) F dX8_plan_54 rfl rfl ?_
              refine x_S1z (pc := 55) F dX8_plan_55 lk_X8_86 rfl (c_isGateW _ _ (by omega)) rfl rfl rfl ?_
              rintro _ _ ⟨rfl, rfl⟩
              refine x_if_neB (tgt := 74) (pc := 58) F dX8_plan_58 rfl (fun h58 => ?_) (fun h58 => ?_)
              · try simp only [decide_eq_true_eq, decide_eq_false_iff_not, Bool.and_eq_true, Bool.or_eq_true, Bool.not_eq_true', Bool.not_eq_false', Bool.and_eq_false_iff, Bool.or_eq_false_iff] at h58
                refine x_iconst (pc := 74) F dX8_plan_74 ?_
                refine x_goto (tgt := 79) (pc := 75) F dX8_plan_75 rfl ?_
                first | exact lpos (by omega) (by unfold PI1; omega) | exact lneg (by omega) (by unfold PI1; omega)
              · try simp only [decide_eq_true_eq, decide_eq_false_iff_not, Bool.and_eq_true, Bool.or_eq_true, Bool.not_eq_true', Bool.not_eq_false', Bool.and_eq_false_iff, Bool.or_eq_false_iff] at h58
                refine x_iload_n (i := 1) (pc := 61) F dX8_plan_61 rfl rfl ?_
                refine x_iconst (pc := 62) F dX8_plan_62 ?_
                refine x_icmp_ne (tgt := 78) (pc := 63) F dX8_plan_63 rfl (by omega) (fun h63 => ?_) (fun h63 => ?_)
                · refine x_iconst (pc := 78) F dX8_plan_78 ?_
                  first | exact lpos (by omega) (by unfold PI1; omega) | exact lneg (by omega) (by unfold PI1; omega)
                · refine x_aload_n (i := 0) (pc := 66) F dX8_plan_66 rfl rfl ?_
                  refine x_iload_n (i := 2) (pc := 67) F dX8_plan_67 rfl rfl ?_
                  refine x_V1z (ci := 8) (pc := 68) F dX8_plan_68 lk_X8_94 rfl (vm_ok rfl) rfl rfl (c_isComerW hT hI76 _ (by omega)) rfl rfl rfl ?_
                  rintro _ _ ⟨rfl, rfl⟩
                  refine x_if_eqB (tgt := 78) (pc := 71) F dX8_plan_71 rfl (fun h71 => ?_) (fun h71 => ?_)
                  · try simp only [decide_eq_true_eq, decide_eq_false_iff_not, Bool.and_eq_true, Bool.or_eq_true, Bool.not_eq_true', Bool.not_eq_false', Bool.and_eq_false_iff, Bool.or_eq_false_iff] at h71
                    refine x_iconst (pc := 78) F dX8_plan_78 ?_
                    first | exact lpos (by omega) (by unfold PI1; omega) | exact lneg (by omega) (by unfold PI1; omega)
                  · try simp only [decide_eq_true_eq, decide_eq_false_iff_not, Bool.and_eq_true, Bool.or_eq_true, Bool.not_eq_true', Bool.not_eq_false', Bool.and_eq_false_iff, Bool.or_eq_false_iff] at h71
                    refine x_iconst (pc := 74) F dX8_plan_74 ?_
                    refine x_goto (tgt := 79) (pc := 75) F dX8_plan_75 rfl ?_
                    first | exact lpos (by omega) (by unfold PI1; omega) | exact lneg (by omega) (by unfold PI1; omega)
          · try simp only [decide_eq_true_eq, decide_eq_false_iff_not, Bool.and_eq_true, Bool.or_eq_true, Bool.not_eq_true', Bool.not_eq_false', Bool.and_eq_false_iff, Bool.or_eq_false_iff] at h35
            refine x_aload_n (i := 0) (pc := 38) F dX8_plan_38 rfl rfl ?_
            refine x_iload_n (i := 2) (pc := 39) F dX8_plan_39 rfl rfl ?_
            refine x_bipush (pc := 40) F dX8_plan_40 (by decide) ?_
            refine tq_irem (pc := 42) F dX8_plan_42 (by omega) ?_
            refine x_V1z (ci := 8) (pc := 43) F dX8_plan_43 lk_X8_94 rfl (vm_ok rfl) rfl rfl (c_isComerW hT hI76 _ (by omega)) rfl rfl rfl ?_
            rintro _ _ ⟨rfl, rfl⟩
            refine x_if_neB (tgt := 74) (pc := 46) F dX8_plan_46 rfl (fun h46 => ?_) (fun h46 => ?_)
            · try simp only [decide_eq_true_eq, decide_eq_false_iff_not, Bool.and_eq_true, Bool.or_eq_true, Bool.not_eq_true', Bool.not_eq_false', Bool.and_eq_false_iff, Bool.or_eq_false_iff] at h46
              refine x_iconst (pc := 74) F dX8_plan_74 ?_
              refine x_goto (tgt := 79) (pc := 75) F dX8_plan_75 rfl ?_
              first | exact lpos (by omega) (by unfold PI1; omega) | exact lneg (by omega) (by unfold PI1; omega)
            · try simp only [decide_eq_true_eq, decide_eq_false_iff_not, Bool.and_eq_true, Bool.or_eq_true, Bool.not_eq_true', Bool.not_eq_false', Bool.and_eq_false_iff, Bool.or_eq_false_iff] at h46
              refine x_iload_n (i := 1) (pc := 49) F dX8_plan_49 rfl rfl ?_
              refine x_iconst (pc := 50) F dX8_plan_50 ?_
              refine x_icmp_ne (tgt := 61) (pc := 51) F dX8_plan_51 rfl (by omega) (fun h51 => ?_) (fun h51 => ?_)
              · refine x_iload_n (i := 1) (pc := 61) F dX8_plan_61 rfl rfl ?_
                refine x_iconst (pc := 62) F dX8_plan_62 ?_
                refine x_icmp_ne (tgt := 78) (pc := 63) F dX8_plan_63 rfl (by omega) (fun h63 => ?_) (fun h63 => ?_)
                · refine x_iconst (pc := 78) F dX8_plan_78 ?_
                  first | exact lpos (by omega) (by unfold PI1; omega) | exact lneg (by omega) (by unfold PI1; omega)
                · refine x_aload_n (i := 0) (pc := 66) F dX8_plan_66 rfl rfl ?_
                  refine x_iload_n (i := 2) (pc := 67) F dX8_plan_67 rfl rfl ?_
                  refine x_V1z (ci := 8) (pc := 68) F dX8_plan_68 lk_X8_94 rfl (vm_ok rfl) rfl rfl (c_isComerW hT hI76 _ (by omega)) rfl rfl rfl ?_
                  rintro _ _ ⟨rfl, rfl⟩
                  refine x_if_eqB (tgt := 78) (pc := 71) F dX8_plan_71 rfl (fun h71 => ?_) (fun h71 => ?_)
                  · try simp only [decide_eq_true_eq, decide_eq_false_iff_not, Bool.and_eq_true, Bool.or_eq_true, Bool.not_eq_true', Bool.not_eq_false', Bool.and_eq_false_iff, Bool.or_eq_false_iff] at h71
                    refine x_iconst (pc := 78) F dX8_plan_78 ?_
                    first | exact lpos (by omega) (by unfold PI1; omega) | exact lneg (by omega) (by unfold PI1; omega)
                  · try simp only [decide_eq_true_eq, decide_eq_false_iff_not, Bool.and_eq_true, Bool.or_eq_true, Bool.not_eq_true', Bool.not_eq_false', Bool.and_eq_false_iff, Bool.or_eq_false_iff] at h71
                    refine x_iconst (pc := 74) F dX8_plan_74 ?_
                    refine x_goto (tgt := 79) (pc := 75) F dX8_plan_75 rfl ?_
                    first | exact lpos (by omega) (by unfold PI1; omega) | exact lneg (by omega) (by unfold PI1; omega)
              · refine x_iload_n (i := 2) (pc := 54) F dX8_plan_54 rfl rfl ?_
                refine x_S1z (pc := 55) F dX8_plan_55 lk_X8_86 rfl (c_isGateW _ _ (by omega)) rfl rfl rfl ?_
                rintro _ _ ⟨rfl, rfl⟩
                refine x_if_neB (tgt := 74) (pc := 58) F dX8_plan_58 rfl (fun h58 => ?_) (fun h58 => ?_)
                · try simp only [decide_eq_true_eq, decide_eq_false_iff_not, Bool.and_eq_true, Bool.or_eq_true, Bool.not_eq_true', Bool.not_eq_false', Bool.and_eq_false_iff, Bool.or_eq_false_iff] at h58
                  refine x_iconst (pc := 74) F dX8_plan_74 ?_
                  refine x_goto (tgt := 79) (pc := 75) F dX8_plan_75 rfl ?_
                  first | exact lpos (by omega) (by unfold PI1; omega) | exact lneg (by omega) (by unfold PI1; omega)
                · try simp only [decide_eq_true_eq, decide_eq_false_iff_not, Bool.and_eq_true, Bool.or_eq_true, Bool.not_eq_true', Bool.not_eq_false', Bool.and_eq_false_iff, Bool.or_eq_false_iff] at h58
                  refine x_iload_n (i := 1) (pc := 61) F dX8_plan_61 rfl rfl ?_
                  refine x_iconst (pc := 62) F dX8_plan_62 ?_
                  refine x_icmp_ne (tgt := 78) (pc := 63) F dX8_plan_63 rfl (by omega) (fun h63 => ?_) (fun h63 => ?_)
                  · refine x_iconst (pc := 78) F dX8_plan_78 ?_
                    first | exact lpos (by omega) (by unfold PI1; omega) | exact lneg (by omega) (by unfold PI1; omega)
                  · refine x_aload_n (i := 0) (pc := 66) F dX8_plan_66 rfl rfl ?_
                    refine x_iload_n (i := 2) (pc := 67) F dX8_plan_67 rfl rfl ?_
                    refine x_V1z (ci := 8) (pc := 68) F dX8_plan_68 lk_X8_94 rfl (vm_ok rfl) rfl rfl (c_isComerW hT hI76 _ (by omega)) rfl rfl rfl ?_
                    rintro _ _ ⟨rfl, rfl⟩
                    refine x_if_eqB (tgt := 78) (pc := 71) F dX8_plan_71 rfl (fun h71 => ?_) (fun h71 => ?_)
                    · try simp only [decide_eq_true_eq, decide_eq_false_iff_not, Bool.and_eq_true, Bool.or_eq_true, Bool.not_eq_true', Bool.not_eq_false', Bool.and_eq_false_iff, Bool.or_eq_false_iff] at h71
                      refine x_iconst (pc := 78) F dX8_plan_78 ?_
                      first | exact lpos (by omega) (by unfold PI1; omega) | exact lneg (by omega) (by unfold PI1; omega)
                    · try simp only [decide_eq_true_eq, decide_eq_false_iff_not, Bool.and_eq_true, Bool.or_eq_true, Bool.not_eq_true', Bool.not_eq_false', Bool.and_eq_false_iff, Bool.or_eq_false_iff] at h71
                      refine x_iconst (pc := 74) F dX8_plan_74 ?_
                      refine x_goto (tgt := 79) (pc := 75) F dX8_plan_75 rfl ?_
                      first | exact lpos (by omega) (by unfold PI1; omega) | exact lneg (by omega) (by unfold PI1; omega)
  · refine x_aload_n (i := 0) (pc := 5) F dX8_plan_5 rfl rfl ?_
    refine gf_X8_9 (pc := 6) F dX8_plan_6 (vm_ok rfl) ?_
    refine x_bipush (pc := 9) F dX8_plan_9 (by decide) ?_
    refine x_iconst (pc := 11) F dX8_plan_11 ?_
    refine tq_ias (pc := 12) F dX8_plan_12 (vm_ok rfl) rfl (fun _ => rfl) (by omega) ?_
    refine x_iconst (pc := 13) F dX8_plan_13 ?_
    refine tq_reti (pc := 14) F dX8_plan_14 ?_ rfl rfl rfl
    exact ⟨by unfold planZ; rw [if_pos (by omega)], by unfold planT; rw [if_pos (by omega)]; exact hT.up, FX.up⟩
set_option maxRecDepth 20000 in
theorem c_X8_book (hT : TN μ T) (hI : TI T) (hc : -2147483648 ≤ c ∧ c < 2147483648) (hn : -2147483648 ≤ n ∧ n < 2147483648) (l : Launch) (E : Ev) (A : Nat → Prop) : Con l E 2 m_X8_book A VM ad μ [.ref (ad (30, 0, 0)), .int (I c), .int (I n)] (pi fun z μ' => z = bookZ T c n ∧ TN μ' (bookT T c n) ∧ FX μ μ') := by
  have hI76 := hI.2.2.1
  have h116 := hI.2.2.2.2.2.2.2.2.2.1
  have hm116 := hT 116 (by omega) (by omega)
  refine con (own := RX8) (by decide +kernel) rfl rfl rfl (fun Γ F => ?_)
  refine x_iload_n (i := 1) (pc := 0) F dX8_book_0 rfl rfl ?_
  refine x_iconst (pc := 1) F dX8_book_1 ?_
  refine x_icmp_ne (tgt := 15) (pc := 2) F dX8_book_2 rfl (by omega) (fun h2 => ?_) (fun h2 => ?_)
  · refine x_aload_n (i := 0) (pc := 15) F dX8_book_15 rfl rfl ?_
    refine x_iload_n (i := 1) (pc := 16) F dX8_book_16 rfl rfl ?_
    refine x_V1z (ci := 8) (pc := 17) F dX8_book_17 lk_X8_94 rfl (vm_ok rfl) rfl rfl (c_isComerW hT hI76 _ (by omega)) rfl rfl rfl ?_
    rintro _ _ ⟨rfl, rfl⟩
    refine x_if_neB (tgt := 25) (pc := 20) F dX8_book_20 rfl (fun h20 => ?_) (fun h20 => ?_)
    · try simp only [decide_eq_true_eq, decide_eq_false_iff_not, Bool.and_eq_true, Bool.or_eq_true, Bool.not_eq_true', Bool.not_eq_false', Bool.and_eq_false_iff, Bool.or_eq_false_iff] at h20
      refine x_iload_n (i := 2) (pc := 25) F dX8_book_25 rfl rfl ?_
      refine x_iconst (pc := 26) F dX8_book_26 ?_
      refine x_sipush (pc := 27) F dX8_book_27 (by decide) ?_
      refine x_S3z (pc := 30) F dX8_book_30 lk_X8_78 rfl (c_X8_isIn _ _ _ (by omega) _) rfl rfl rfl ?_
      rintro _ _ ⟨rfl, rfl⟩
      refine x_if_neB (tgt := 39) (pc := 33) F dX8_book_33 rfl (fun h33 => ?_) (fun h33 => ?_)
      · try simp only [decide_eq_true_eq, decide_eq_false_iff_not, Bool.and_eq_true, Bool.or_eq_true, Bool.not_eq_true', Bool.not_eq_false', Bool.and_eq_false_iff, Bool.or_eq_false_iff] at h33
        refine x_aload_n (i := 0) (pc := 39) F dX8_book_39 rfl rfl ?_
        refine gf_X8_9 (pc := 40) F dX8_book_40 (vm_ok rfl) ?_
        refine x_bipush (pc := 43) F dX8_book_43 (by decide) ?_
        refine tq_ia (pc := 45) F dX8_book_45 (vm_ok rfl) rfl (fun _ => rfl) (by omega) ?_
        rw [hm116]
        refine x_bipush (pc := 46) F dX8_book_46 (by decide) ?_
        refine x_icmp_ne (tgt := 54) (pc := 48) F dX8_book_48 rfl (by omega) (fun h48 => ?_) (fun h48 => ?_)
        · refine x_aload_n (i := 0) (pc := 54) F dX8_book_54 rfl rfl ?_
          refine gf_X8_9 (pc := 55) F dX8_book_55 (vm_ok rfl) ?_
          refine x_bipush (pc := 58) F dX8_book_58 (by decide) ?_
          refine x_iconst (pc := 60) F dX8_book_60 ?_
          refine x_aload_n (i := 0) (pc := 61) F dX8_book_61 rfl rfl ?_
          refine gf_X8_9 (pc := 62) F dX8_book_62 (vm_ok rfl) ?_
          refine x_bipush (pc := 65) F dX8_book_65 (by decide) ?_
          refine tq_ia (pc := 67) F dX8_book_67 (vm_ok rfl) rfl (fun _ => rfl) (by omega) ?_
          rw [hm116]
          refine x_imul (pc := 68) F dX8_book_68 ?_
          refine x_iadd (pc := 69) F dX8_book_69 ?_
          refine x_iload_n (i := 1) (pc := 70) F dX8_book_70 rfl rfl ?_
          refine tq_ias (pc := 71) F dX8_book_71 (vm_ok rfl) rfl (fun _ => rfl) (by omega) ?_
          refine x_aload_n (i := 0) (pc := 72) F dX8_book_72 rfl rfl ?_
          refine gf_X8_9 (pc := 73) F dX8_book_73 (vm_ok rfl) ?_
          refine x_bipush (pc := 76) F dX8_book_76 (by decide) ?_
          refine x_iconst (pc := 78) F dX8_book_78 ?_
          refine x_aload_n (i := 0) (pc := 79) F dX8_book_79 rfl rfl ?_
          refine gf_X8_9 (pc := 80) F dX8_book_80 (vm_ok rfl) ?_
          refine x_bipush (pc := 83) F dX8_book_83 (by decide) ?_
          refine tq_ia (pc := 85) F dX8_book_85 (vm_ok rfl) rfl (fun _ => rfl) (by omega) ?_
          rw [hT.up 116 (by omega) (by omega), upT_ne (by omega)]
          refine x_imul (pc := 86) F dX8_book_86 ?_
          refine x_iadd (pc := 87) F dX8_book_87 ?_
          refine x_iload_n (i := 2) (pc := 88) F dX8_book_88 rfl rfl ?_
          refine tq_ias (pc := 89) F dX8_book_89 (vm_ok rfl) rfl (fun _ => rfl) (by omega) ?_
          refine x_aload_n (i := 0) (pc := 90) F dX8_book_90 rfl rfl ?_
          refine gf_X8_9 (pc := 91) F dX8_book_91 (vm_ok rfl) ?_
          refine x_bipush (pc := 94) F dX8_book_94 (by decide) ?_
          refine x_dup2 (pc := 96) F dX8_book_96 rfl rfl ?_
          refine tq_ia (pc := 97) F dX8_book_97 (vm_ok rfl) rfl (fun _ => rfl) (by omega) ?_
          rw [hT.up.up 116 (by omega) (by omega), upT_ne (by omega), upT_ne (by omega)]
          refine x_iconst (pc := 98) F dX8_book_98 ?_
          refine x_iadd (pc := 99) F dX8_book_99 ?_
          refine tq_ias (pc := 100) F dX8_book_100 (vm_ok rfl) rfl (fun _ => rfl) (by omega) ?_
          refine x_aload_n (i := 0) (pc := 101) F dX8_book_101 rfl rfl ?_
          refine gf_X8_9 (pc := 102) F dX8_book_102 (vm_ok rfl) ?_
          refine x_bipush (pc := 105) F dX8_book_105 (by decide) ?_
          refine tq_ia (pc := 107) F dX8_book_107 (vm_ok rfl) rfl (fun _ => rfl) (by omega) ?_
          rw [upM_i, if_pos rfl]
          refine tq_reti (pc := 108) F dX8_book_108 ?_ rfl rfl rfl
          exact ⟨by unfold bookZ; rw [if_neg (by omega), if_pos (by omega), if_pos (by omega), if_neg (by omega)], by unfold bookT; rw [if_neg (by omega), if_pos (by omega)]; exact hT.up.up.up, (FX.up.trans FX.up).trans FX.up⟩
        · refine x_bipush (pc := 51) F dX8_book_51 (by decide) ?_
          refine tq_reti (pc := 53) F dX8_book_53 ?_ rfl rfl rfl
          exact ⟨by unfold bookZ; rw [if_neg (by omega), if_pos (by omega), if_pos (by omega), if_pos (by omega)], by unfold bookT; rw [if_neg (by omega), if_neg (by omega)]; exact hT, FX.refl μ⟩
      · try simp only [decide_eq_true_eq, decide_eq_false_iff_not, Bool.and_eq_true, Bool.or_eq_true, Bool.not_eq_true', Bool.not_eq_false', Bool.and_eq_false_iff, Bool.or_eq_false_iff] at h33
        refine x_bipush (pc := 36) F dX8_book_36 (by decide) ?_
        refine tq_reti (pc := 38) F dX8_book_38 ?_ rfl rfl rfl
        exact ⟨by unfold bookZ; rw [if_neg (by omega), if_pos (by omega), if_neg (by omega)], by unfold bookT; rw [if_neg (by omega), if_neg (by omega)]; exact hT, FX.refl μ⟩
    · try simp only [decide_eq_true_eq, decide_eq_false_iff_not, Bool.and_eq_true, Bool.or_eq_true, Bool.not_eq_true', Bool.not_eq_false', Bool.and_eq_false_iff, Bool.or_eq_false_iff] at h20
      refine x_iconst (pc := 23) F dX8_book_23 ?_
      refine tq_reti (pc := 24) F dX8_book_24 ?_ rfl rfl rfl
      exact ⟨by unfold bookZ; rw [if_neg (by omega), if_neg (by omega)], by unfold bookT; rw [if_neg (by omega), if_neg (by omega)]; exact hT, FX.refl μ⟩
  · refine x_aload_n (i := 0) (pc := 5) F dX8_book_5 rfl rfl ?_
    refine gf_X8_9 (pc := 6) F dX8_book_6 (vm_ok rfl) ?_
    refine x_bipush (pc := 9) F dX8_book_9 (by decide) ?_
    refine x_iconst (pc := 11) F dX8_book_11 ?_
    refine tq_ias (pc := 12) F dX8_book_12 (vm_ok rfl) rfl (fun _ => rfl) (by omega) ?_
    refine x_iconst (pc := 13) F dX8_book_13 ?_
    refine tq_reti (pc := 14) F dX8_book_14 ?_ rfl rfl rfl
    exact ⟨by unfold bookZ; rw [if_pos (by omega)], by unfold bookT; rw [if_pos (by omega)]; exact hT.up, FX.up⟩
set_option maxRecDepth 20000 in
theorem c_X8_looked (hT : TN μ T) (hI : TI T) (hd : T 77 ≤ 9999) (l : Launch) (E : Ev) (A : Nat → Prop) : Con l E 1 m_X8_looked A VM ad μ [.ref (ad (30, 0, 0))] (pi fun z μ' => z = lookedZ T ∧ μ = μ') := by
  obtain ⟨h116, h117⟩ := hI.2.2.2.2.2.2.2.2.2
  have hI76 := hI.2.2.1
  have hm := hT 116 (by omega) (by omega)
  refine con (own := RX8) (by decide +kernel) rfl rfl rfl (fun Γ F => ?_)
  have loop : ∀ (N r : Nat), T 116 - r < N → r ≤ T 116 → lookedZ T = firstF (fun r => T (21 + 10 * T (117 + 2 * (r : Int))) ≠ T (118 + 2 * (r : Int))) (T 116 - r).toNat r → XX Γ 2 VM ad (vl ad μ) 0 0 2 [(0, .ref (ad (30, 0, 0))), (1, .int (I r))] [] := by
    intro N
    induction N with
    | zero => intro r b1; omega
    | succ N ih =>
      intro r b1 b2 b4
      refine x_iload_n (i := 1) (pc := 2) F dX8_looked_2 rfl rfl ?_
      refine x_aload_n (i := 0) (pc := 3) F dX8_looked_3 rfl rfl ?_
      refine gf_X8_9 (pc := 4) F dX8_looked_4 (vm_ok rfl) ?_
      refine x_bipush (pc := 7) F dX8_looked_7 (by decide) ?_
      refine tq_ia (pc := 9) F dX8_looked_9 (vm_ok rfl) rfl (fun _ => rfl) (by omega) ?_
      refine x_icmp_ge (tgt := 51) (pc := 10) F dX8_looked_10 rfl (by omega) (fun h10 => ?_) (fun h10 => ?_)
      · refine x_bipush (pc := 51) F dX8_looked_51 (by decide) ?_
        refine tq_reti (pc := 53) F dX8_looked_53 ?_ rfl rfl rfl
        exact ⟨by rw [b4, show (T 116 - (r : Int)).toNat = 0 by omega]; rfl, rfl⟩
      · have hr := h117 r (by omega) (by omega)
        have hpc := (hI.2.1 (T (117 + 2 * (r : Int))) (by omega) (by omega)).2.2.2.2.2.1
        obtain ⟨f, hf⟩ : ∃ f, (T 116 - r).toNat = f + 1 := ⟨(T 116 - r).toNat - 1, by omega⟩
        rw [hf] at b4
        refine x_aload_n (i := 0) (pc := 13) F dX8_looked_13 rfl rfl ?_
        refine x_aload_n (i := 0) (pc := 14) F dX8_looked_14 rfl rfl ?_
        refine gf_X8_9 (pc := 15) F dX8_looked_15 (vm_ok rfl) ?_
        refine x_bipush (pc := 18) F dX8_looked_18 (by decide) ?_
        refine x_iconst (pc := 20) F dX8_looked_20 ?_
        refine x_iload_n (i := 1) (pc := 21) F dX8_looked_21 rfl rfl ?_
        refine x_imul (pc := 22) F dX8_looked_22 ?_
        refine x_iadd (pc := 23) F dX8_looked_23 ?_
        refine tq_ia (pc := 24) F dX8_looked_24 (vm_ok rfl) rfl (fun _ => rfl) (by omega) ?_
        rw [hT _ (by omega) (by omega)]
        refine x_iconst (pc := 25) F dX8_looked_25 ?_
        refine x_V2i (ci := 8) (pc := 26) F dX8_looked_26 lk_X8_82 rfl (vm_ok rfl) rfl rfl (c_X8_one hT (21 + 10 * T (117 + 2 * (r : Int))) _ _ (by omega)) rfl rfl rfl ?_
        rintro _ _ ⟨rfl, rfl⟩
        refine x_aload_n (i := 0) (pc := 29) F dX8_looked_29 rfl rfl ?_
        refine gf_X8_9 (pc := 30) F dX8_looked_30 (vm_ok rfl) ?_
        refine x_bipush (pc := 33) F dX8_looked_33 (by decide) ?_
        refine x_iconst (pc := 35) F dX8_looked_35 ?_
        refine x_iload_n (i := 1) (pc := 36) F dX8_looked_36 rfl rfl ?_
        refine x_imul (pc := 37) F dX8_looked_37 ?_
        refine x_iadd (pc := 38) F dX8_looked_38 ?_
        refine tq_ia (pc := 39) F dX8_looked_39 (vm_ok rfl) rfl (fun _ => rfl) (by omega) ?_
        rw [hT _ (by omega) (by omega)]
        refine x_icmp_eq (tgt := 45) (pc := 40) F dX8_looked_40 rfl (by omega) (fun h40 => ?_) (fun h40 => ?_)
        · refine x_iinc (pc := 45) F dX8_looked_45 rfl rfl ?_
          refine x_goto (tgt := 2) (pc := 48) F dX8_looked_48 rfl ?_
          exact x_sub (L' := [(0, .ref (ad (30, 0, 0))), (1, .int (I ((r + 1 : Nat) : Int)))]) ⟨rfl, rfl, trivial⟩ (ih (r + 1) (by omega) (by omega) (by rw [b4, firstF_f (fun q => q h40), show (T 116 - ((r + 1 : Nat) : Int)).toNat = f by omega]))
        · refine x_iload_n (i := 1) (pc := 43) F dX8_looked_43 rfl rfl ?_
          refine tq_reti (pc := 44) F dX8_looked_44 ?_ rfl rfl rfl
          exact ⟨by rw [b4, firstF_t h40], rfl⟩
  refine x_iconst (pc := 0) F dX8_looked_0 ?_
  refine x_istore_n (i := 1) (pc := 1) F dX8_looked_1 rfl rfl ?_
  exact x_sub (L' := [(0, .ref (ad (30, 0, 0))), (1, .int (I ((0 : Nat) : Int)))]) ⟨rfl, rfl, trivial⟩ (loop 9 0 (by omega) (by omega) (by unfold lookedZ; rw [show (T 116 - ((0 : Nat) : Int)).toNat = (T 116).toNat by omega]))
end MC3
