/-! ===== Reader: factors ===== -/
section FACTOR
variable {ad : Ob → Nat} {nh : Int} {tx : Tn} {tl h : Int}
/-- the contract of readFactor, of readEither, with fuel n -/
def CF (ad : Ob → Nat) (nh : Int) (tx : Tn) (tl h : Int) (n : Nat) (d : Nat) : Prop := ∀ (μ : Me) (a : Int) (code : List (Int × Int)), RS μ tx tl a h code → 4 * (tl - a) + 2 ≤ n → ∀ (l : Launch) (E : Ev) (A : Nat → Prop), Con l E (14 - 2 * d) m_X3_readFactor A (VC nh) ad μ [.ref (ad (15, 0, 0)), .int (I d)] (pz fun z μ' => RP μ μ' tx tl h code (fF tx tl n d a) z)
def CA (ad : Ob → Nat) (nh : Int) (tx : Tn) (tl h : Int) (n : Nat) (d : Nat) : Prop := ∀ (μ : Me) (a : Int) (code : List (Int × Int)), RS μ tx tl a h code → 4 * (tl - a) + 4 ≤ n → ∀ (l : Launch) (E : Ev) (A : Nat → Prop), Con l E (15 - 2 * d) m_X3_readEither A (VC nh) ad μ [.ref (ad (15, 0, 0)), .int (I d)] (pz fun z μ' => RP μ μ' tx tl h code (fA tx tl n d a) z)
set_option maxRecDepth 20000 in
theorem fac_step (n d : Nat) (hd : d ≤ 4) (hh : h < nh) (hF : d < 4 → CF ad nh tx tl h n (d + 1)) (hA : d < 4 → CA ad nh tx tl h n (d + 1)) : CF ad nh tx tl h (n + 1) d := by
  intro μ a code hS hf l E A
  obtain ⟨hX, ⟨ha, ha0, hat⟩, ⟨h3, h30, h36⟩, hC, hl⟩ := id hS
  have htl := hX.1.2.2
  have hch := hX.ch ha0
  have hsp := fF_s tx tl n d a
  refine con (own := RX3) (by decide +kernel) rfl rfl rfl (fun Γ F => ?_)
  refine x_aload_n (i := 0) (pc := 0) F dX3_readFactor_0 rfl rfl ?_
  refine x_V0i (ci := 3) (pc := 1) F dX3_readFactor_1 lk_X3_90 rfl (v_15 (by omega)) rfl (Nat.ble_eq_true_of_le (by omega)) (c_X3_signAt hX ha (by omega)) rfl rfl rfl ?_
  rintro _ _ ⟨rfl, rfl⟩
  refine x_istore_n (i := 2) (pc := 4) F dX3_readFactor_4 rfl rfl ?_
  refine x_iload_n (i := 2) (pc := 5) F dX3_readFactor_5 rfl rfl ?_
  refine x_bipush (pc := 6) F dX3_readFactor_6 (by decide) ?_
  refine x_icmp_eq (tgt := 22) (pc := 8) F dX3_readFactor_8 rfl (by omega) (fun h8 => ?_) (fun h8 => ?_)
  · refine x_iload_n (i := 1) (pc := 22) F dX3_readFactor_22 rfl rfl ?_
    refine x_iconst (pc := 23) F dX3_readFactor_23 ?_
    refine x_icmp_lt (tgt := 29) (pc := 24) F dX3_readFactor_24 rfl (by omega) (fun h24 => ?_) (fun h24 => ?_)
    · refine x_aload_n (i := 0) (pc := 29) F dX3_readFactor_29 rfl rfl ?_
      refine x_dup (pc := 30) F dX3_readFactor_30 rfl ?_
      refine gf_X3_24 (pc := 31) F dX3_readFactor_31 (v_15 (by omega)) ?_
      refine x_iconst (pc := 34) F dX3_readFactor_34 ?_
      refine x_iadd (pc := 35) F dX3_readFactor_35 ?_
      rw [ha]
      refine pf_X3_24 (pc := 36) F dX3_readFactor_36 (v_15 (by omega)) ?_
      have l0 : a < tl := chA_lt (tx := tx) (by omega)
      have p1 := PL.up μ (a + 1)
      have hS1 := hS.pl p1 (by omega)
      refine x_iload_n (i := 2) (pc := 39) F dX3_readFactor_39 rfl rfl ?_
      refine x_bipush (pc := 40) F dX3_readFactor_40 (by decide) ?_
      refine x_icmp_ne (tgt := 70) (pc := 42) F dX3_readFactor_42 rfl (by omega) (fun h42 => ?_) (fun h42 => ?_)
      · refine x_aload_n (i := 0) (pc := 70) F dX3_readFactor_70 rfl rfl ?_
        refine x_iload_n (i := 1) (pc := 71) F dX3_readFactor_71 rfl rfl ?_
        refine x_iconst (pc := 72) F dX3_readFactor_72 ?_
        refine x_iadd (pc := 73) F dX3_readFactor_73 ?_
        refine x_V1z (ci := 3) (d2 := 14 - 2 * (d + 1)) (pc := 74) F dX3_readFactor_74 lk_X3_87 rfl (v_15 (by omega)) rfl (Nat.ble_eq_true_of_le (by omega)) (hF (by omega) _ _ _ hS1 (by omega)) rfl rfl rfl ?_
        rintro z μ2 ⟨rfl, b1, b2, b3⟩
        refine x_if_neB (tgt := 82) (pc := 77) F dX3_readFactor_77 rfl (fun h77 => ?_) (fun h77 => ?_)
        · try simp only [decide_eq_true_eq, decide_eq_false_iff_not, Bool.and_eq_true, Bool.or_eq_true, Bool.not_eq_true', Bool.not_eq_false', Bool.and_eq_false_iff, Bool.or_eq_false_iff] at h77
          refine x_aload_n (i := 0) (pc := 82) F dX3_readFactor_82 rfl rfl ?_
          have hS2 := b3 h77
          have h3h := hS2.2.2.1.1
          have hcn := hS2.2.2.2.1.1
          have hat2 := hS2.2.1
          have hgl := (((pS_gd (tx := tx) (tl := tl) n ((d + 1 : Nat) : Int) (by omega) (by omega)).1 (a + 1) (by omega)).2.2 h77).2.1
          rw [List.length_append] at hcn
          refine gf_X3_15 (pc := 83) F dX3_readFactor_83 (v_15 (by omega)) ?_
          rw [hvl_r (by omega)]
          rw [h3h]
          refine x_bipush (pc := 86) F dX3_readFactor_86 (by decide) ?_
          refine x_iconst (pc := 88) F dX3_readFactor_88 ?_
          refine x_V2v (ci := 2) (pc := 89) F dX3_readFactor_89 lk_X3_55 rfl (v_12 (by omega)) rfl (Nat.ble_eq_true_of_le (by omega)) (c_X2_put 18 0 (by omega) (by omega)) rfl rfl rfl ?_
          rintro μ4 ⟨e1, e2, e3, e4, e5⟩
          refine x_iconst (pc := 92) F dX3_readFactor_92 ?_
          refine tq_retz (b := true) (pc := 93) F dX3_readFactor_93 ?_ rfl rfl rfl
          have e : fF tx tl (n + 1) d a = notR (fF tx tl n ((d + 1 : Nat) : Int) (a + 1)) := by rw [hsp]; unfold facS; rw [if_pos (by omega)]; rfl
          rw [e]; unfold notR
          rw [if_pos h77]
          obtain ⟨r1, r2⟩ := RS_put hS2 (by rw [List.length_append]; omega) e1 e2 e3 e4 e5
          rw [List.append_assoc] at r1
          exact ⟨rfl, r1.2.1.1, ((RF.pl p1).trans b2).trans r2, fun _ => r1⟩
        · try simp only [decide_eq_true_eq, decide_eq_false_iff_not, Bool.and_eq_true, Bool.or_eq_true, Bool.not_eq_true', Bool.not_eq_false', Bool.and_eq_false_iff, Bool.or_eq_false_iff] at h77
          refine x_iconst (pc := 80) F dX3_readFactor_80 ?_
          refine tq_retz (b := false) (pc := 81) F dX3_readFactor_81 ?_ rfl rfl rfl
          have e : fF tx tl (n + 1) d a = notR (fF tx tl n ((d + 1 : Nat) : Int) (a + 1)) := by rw [hsp]; unfold facS; rw [if_pos (by omega)]; rfl
          rw [e]; unfold notR
          rw [if_neg (by rw [h77]; decide)]
          exact ⟨rfl, b1, (RF.pl p1).trans b2, fun z => by cases z⟩
      · refine x_aload_n (i := 0) (pc := 45) F dX3_readFactor_45 rfl rfl ?_
        refine x_iload_n (i := 1) (pc := 46) F dX3_readFactor_46 rfl rfl ?_
        refine x_iconst (pc := 47) F dX3_readFactor_47 ?_
        refine x_iadd (pc := 48) F dX3_readFactor_48 ?_
        refine x_V1z (ci := 3) (d2 := 15 - 2 * (d + 1)) (pc := 49) F dX3_readFactor_49 lk_X3_52 rfl (v_15 (by omega)) rfl (Nat.ble_eq_true_of_le (by omega)) (hA (by omega) _ _ _ hS1 (by omega)) rfl rfl rfl ?_
        rintro z μ2 ⟨rfl, b1, b2, b3⟩
        refine x_if_eqB (tgt := 68) (pc := 52) F dX3_readFactor_52 rfl (fun h52 => ?_) (fun h52 => ?_)
        · try simp only [decide_eq_true_eq, decide_eq_false_iff_not, Bool.and_eq_true, Bool.or_eq_true, Bool.not_eq_true', Bool.not_eq_false', Bool.and_eq_false_iff, Bool.or_eq_false_iff] at h52
          refine x_iconst (pc := 68) F dX3_readFactor_68 ?_
          refine tq_retz (b := false) (pc := 69) F dX3_readFactor_69 ?_ rfl rfl rfl
          have e : fF tx tl (n + 1) d a = parR tx tl (fA tx tl n ((d + 1 : Nat) : Int) (a + 1)) := by rw [hsp]; unfold facS; rw [if_neg (by omega), if_pos (by omega)]; rfl
          rw [e]
          unfold parR
          first | (rw [if_neg (by rw [h52]; decide)]; exact ⟨rfl, b1, (RF.pl p1).trans b2, fun z => by cases z⟩) | skip
          all_goals (rw [if_pos h52]; have hgt := ((pS_gd (tx := tx) (tl := tl) n ((d + 1 : Nat) : Int) (by omega) (by omega)).2.2.2.1 (a + 1) (by omega)).1)
          all_goals by_cases hq : chA tx tl (fA tx tl n ((d + 1 : Nat) : Int) (a + 1)).2.1 = 41
          all_goals try (exfalso; exact absurd hq (by assumption))
          all_goals try (exfalso; exact hq (by assumption))
          all_goals first | (rw [if_pos hq]; rw [if_pos hq] at p3; have hlt := chA_lt (tx := tx) (tl := tl) (show chA tx tl (fA tx tl n ((d + 1 : Nat) : Int) (a + 1)).2.1 ≠ -1 by omega); exact ⟨rfl, p3.1, ((RF.pl p1).trans b2).trans (RF.pl p3), fun _ => (b3 h52).pl p3 (by simp only; omega)⟩) | (rw [if_neg hq]; rw [if_neg hq] at p3; exact ⟨rfl, p3.1, ((RF.pl p1).trans b2).trans (RF.pl p3), fun z => by cases z⟩)
        · try simp only [decide_eq_true_eq, decide_eq_false_iff_not, Bool.and_eq_true, Bool.or_eq_true, Bool.not_eq_true', Bool.not_eq_false', Bool.and_eq_false_iff, Bool.or_eq_false_iff] at h52
          refine x_aload_n (i := 0) (pc := 55) F dX3_readFactor_55 rfl rfl ?_
          refine x_bipush (pc := 56) F dX3_readFactor_56 (by decide) ?_
          refine x_V1z (ci := 3) (pc := 58) F dX3_readFactor_58 lk_X3_35 rfl (v_15 (by omega)) rfl (Nat.ble_eq_true_of_le (by omega)) (c_X3_readSign 41 (by decide) (b3 h52).1 (b3 h52).2.1.1 (by have := (b3 h52).2.1; omega)) rfl rfl rfl ?_
          rintro z μ3 ⟨rfl, p3⟩
          refine x_if_eqB (tgt := 68) (pc := 61) F dX3_readFactor_61 rfl (fun h61 => ?_) (fun h61 => ?_)
          · try simp only [decide_eq_true_eq, decide_eq_false_iff_not, Bool.and_eq_true, Bool.or_eq_true, Bool.not_eq_true', Bool.not_eq_false', Bool.and_eq_false_iff, Bool.or_eq_false_iff] at h61
            refine x_iconst (pc := 68) F dX3_readFactor_68 ?_
            refine tq_retz (b := false) (pc := 69) F dX3_readFactor_69 ?_ rfl rfl rfl
            have e : fF tx tl (n + 1) d a = parR tx tl (fA tx tl n ((d + 1 : Nat) : Int) (a + 1)) := by rw [hsp]; unfold facS; rw [if_neg (by omega), if_pos (by omega)]; rfl
            rw [e]
            unfold parR
            first | (rw [if_neg (by rw [h52]; decide)]; exact ⟨rfl, b1, (RF.pl p1).trans b2, fun z => by cases z⟩) | skip
            all_goals (rw [if_pos h52]; have hgt := ((pS_gd (tx := tx) (tl := tl) n ((d + 1 : Nat) : Int) (by omega) (by omega)).2.2.2.1 (a + 1) (by omega)).1)
            all_goals by_cases hq : chA tx tl (fA tx tl n ((d + 1 : Nat) : Int) (a + 1)).2.1 = 41
            all_goals try (exfalso; exact absurd hq (by assumption))
            all_goals try (exfalso; exact hq (by assumption))
            all_goals first | (rw [if_pos hq]; rw [if_pos hq] at p3; have hlt := chA_lt (tx := tx) (tl := tl) (show chA tx tl (fA tx tl n ((d + 1 : Nat) : Int) (a + 1)).2.1 ≠ -1 by omega); exact ⟨rfl, p3.1, ((RF.pl p1).trans b2).trans (RF.pl p3), fun _ => (b3 h52).pl p3 (by simp only; omega)⟩) | (rw [if_neg hq]; rw [if_neg hq] at p3; exact ⟨rfl, p3.1, ((RF.pl p1).trans b2).trans (RF.pl p3), fun z => by cases z⟩)
          · try simp only [decide_eq_true_eq, decide_eq_false_iff_not, Bool.and_eq_true, Bool.or_eq_true, Bool.not_eq_true', Bool.not_eq_false', Bool.and_eq_false_iff, Bool.or_eq_false_iff] at h61
            refine x_iconst (pc := 64) F dX3_readFactor_64 ?_
            refine x_goto (tgt := 69) (pc := 65) F dX3_readFactor_65 rfl ?_
            refine tq_retz (b := true) (pc := 69) F dX3_readFactor_69 ?_ rfl rfl rfl
            have e : fF tx tl (n + 1) d a = parR tx tl (fA tx tl n ((d + 1 : Nat) : Int) (a + 1)) := by rw [hsp]; unfold facS; rw [if_neg (by omega), if_pos (by omega)]; rfl
            rw [e]
            unfold parR
            first | (rw [if_neg (by rw [h52]; decide)]; exact ⟨rfl, b1, (RF.pl p1).trans b2, fun z => by cases z⟩) | skip
            all_goals (rw [if_pos h52]; have hgt := ((pS_gd (tx := tx) (tl := tl) n ((d + 1 : Nat) : Int) (by omega) (by omega)).2.2.2.1 (a + 1) (by omega)).1)
            all_goals by_cases hq : chA tx tl (fA tx tl n ((d + 1 : Nat) : Int) (a + 1)).2.1 = 41
            all_goals try (exfalso; exact absurd hq (by assumption))
            all_goals try (exfalso; exact hq (by assumption))
            all_goals first | (rw [if_pos hq]; rw [if_pos hq] at p3; have hlt := chA_lt (tx := tx) (tl := tl) (show chA tx tl (fA tx tl n ((d + 1 : Nat) : Int) (a + 1)).2.1 ≠ -1 by omega); exact ⟨rfl, p3.1, ((RF.pl p1).trans b2).trans (RF.pl p3), fun _ => (b3 h52).pl p3 (by simp only; omega)⟩) | (rw [if_neg hq]; rw [if_neg hq] at p3; exact ⟨rfl, p3.1, ((RF.pl p1).trans b2).trans (RF.pl p3), fun z => by cases z⟩)
    · refine x_iconst (pc := 27) F dX3_readFactor_27 ?_
      refine tq_retz (b := false) (pc := 28) F dX3_readFactor_28 ?_ rfl rfl rfl
      have e : fF tx tl (n + 1) d a = rdF a := by
        rw [hsp]; unfold facS; rw [if_neg (by omega), if_neg (by omega)]; unfold testS
        first | (rw [show chA tx tl a = 33 by omega, if_pos (by decide)]; done) | (rw [show chA tx tl a = 40 by omega, if_pos (by decide)]; done)
      rw [e]
      exact ⟨rfl, ha, RF.refl _ _, fun z => by cases z⟩
  · refine x_iload_n (i := 2) (pc := 11) F dX3_readFactor_11 rfl rfl ?_
    refine x_bipush (pc := 12) F dX3_readFactor_12 (by decide) ?_
    refine x_icmp_eq (tgt := 22) (pc := 14) F dX3_readFactor_14 rfl (by omega) (fun h14 => ?_) (fun h14 => ?_)
    · refine x_iload_n (i := 1) (pc := 22) F dX3_readFactor_22 rfl rfl ?_
      refine x_iconst (pc := 23) F dX3_readFactor_23 ?_
      refine x_icmp_lt (tgt := 29) (pc := 24) F dX3_readFactor_24 rfl (by omega) (fun h24 => ?_) (fun h24 => ?_)
      · refine x_aload_n (i := 0) (pc := 29) F dX3_readFactor_29 rfl rfl ?_
        refine x_dup (pc := 30) F dX3_readFactor_30 rfl ?_
        refine gf_X3_24 (pc := 31) F dX3_readFactor_31 (v_15 (by omega)) ?_
        refine x_iconst (pc := 34) F dX3_readFactor_34 ?_
        refine x_iadd (pc := 35) F dX3_readFactor_35 ?_
        rw [ha]
        refine pf_X3_24 (pc := 36) F dX3_readFactor_36 (v_15 (by omega)) ?_
        have l0 : a < tl := chA_lt (tx := tx) (by omega)
        have p1 := PL.up μ (a + 1)
        have hS1 := hS.pl p1 (by omega)
        refine x_iload_n (i := 2) (pc := 39) F dX3_readFactor_39 rfl rfl ?_
        refine x_bipush (pc := 40) F dX3_readFactor_40 (by decide) ?_
        refine x_icmp_ne (tgt := 70) (pc := 42) F dX3_readFactor_42 rfl (by omega) (fun h42 => ?_) (fun h42 => ?_)
        · refine x_aload_n (i := 0) (pc := 70) F dX3_readFactor_70 rfl rfl ?_
          refine x_iload_n (i := 1) (pc := 71) F dX3_readFactor_71 rfl rfl ?_
          refine x_iconst (pc := 72) F dX3_readFactor_72 ?_
          refine x_iadd (pc := 73) F dX3_readFactor_73 ?_
          refine x_V1z (ci := 3) (d2 := 14 - 2 * (d + 1)) (pc := 74) F dX3_readFactor_74 lk_X3_87 rfl (v_15 (by omega)) rfl (Nat.ble_eq_true_of_le (by omega)) (hF (by omega) _ _ _ hS1 (by omega)) rfl rfl rfl ?_
          rintro z μ2 ⟨rfl, b1, b2, b3⟩
          refine x_if_neB (tgt := 82) (pc := 77) F dX3_readFactor_77 rfl (fun h77 => ?_) (fun h77 => ?_)
          · try simp only [decide_eq_true_eq, decide_eq_false_iff_not, Bool.and_eq_true, Bool.or_eq_true, Bool.not_eq_true', Bool.not_eq_false', Bool.and_eq_false_iff, Bool.or_eq_false_iff] at h77
            refine x_aload_n (i := 0) (pc := 82) F dX3_readFactor_82 rfl rfl ?_
            have hS2 := b3 h77
            have h3h := hS2.2.2.1.1
            have hcn := hS2.2.2.2.1.1
            have hat2 := hS2.2.1
            have hgl := (((pS_gd (tx := tx) (tl := tl) n ((d + 1 : Nat) : Int) (by omega) (by omega)).1 (a + 1) (by omega)).2.2 h77).2.1
            rw [List.length_append] at hcn
            refine gf_X3_15 (pc := 83) F dX3_readFactor_83 (v_15 (by omega)) ?_
            rw [hvl_r (by omega)]
            rw [h3h]
            refine x_bipush (pc := 86) F dX3_readFactor_86 (by decide) ?_
            refine x_iconst (pc := 88) F dX3_readFactor_88 ?_
            refine x_V2v (ci := 2) (pc := 89) F dX3_readFactor_89 lk_X3_55 rfl (v_12 (by omega)) rfl (Nat.ble_eq_true_of_le (by omega)) (c_X2_put 18 0 (by omega) (by omega)) rfl rfl rfl ?_
            rintro μ4 ⟨e1, e2, e3, e4, e5⟩
            refine x_iconst (pc := 92) F dX3_readFactor_92 ?_
            refine tq_retz (b := true) (pc := 93) F dX3_readFactor_93 ?_ rfl rfl rfl
            have e : fF tx tl (n + 1) d a = notR (fF tx tl n ((d + 1 : Nat) : Int) (a + 1)) := by rw [hsp]; unfold facS; rw [if_pos (by omega)]; rfl
            rw [e]; unfold notR
            rw [if_pos h77]
            obtain ⟨r1, r2⟩ := RS_put hS2 (by rw [List.length_append]; omega) e1 e2 e3 e4 e5
            rw [List.append_assoc] at r1
            exact ⟨rfl, r1.2.1.1, ((RF.pl p1).trans b2).trans r2, fun _ => r1⟩
          · try simp only [decide_eq_true_eq, decide_eq_false_iff_not, Bool.and_eq_true, Bool.or_eq_true, Bool.not_eq_true', Bool.not_eq_false', Bool.and_eq_false_iff, Bool.or_eq_false_iff] at h77
            refine x_iconst (pc := 80) F dX3_readFactor_80 ?_
            refine tq_retz (b := false) (pc := 81) F dX3_readFactor_81 ?_ rfl rfl rfl
            have e : fF tx tl (n + 1) d a = notR (fF tx tl n ((d + 1 : Nat) : Int) (a + 1)) := by rw [hsp]; unfold facS; rw [if_pos (by omega)]; rfl
            rw [e]; unfold notR
            rw [if_neg (by rw [h77]; decide)]
            exact ⟨rfl, b1, (RF.pl p1).trans b2, fun z => by cases z⟩
        · refine x_aload_n (i := 0) (pc := 45) F dX3_readFactor_45 rfl rfl ?_
          refine x_iload_n (i := 1) (pc := 46) F dX3_readFactor_46 rfl rfl ?_
          refine x_iconst (pc := 47) F dX3_readFactor_47 ?_
          refine x_iadd (pc := 48) F dX3_readFactor_48 ?_
          refine x_V1z (ci := 3) (d2 := 15 - 2 * (d + 1)) (pc := 49) F dX3_readFactor_49 lk_X3_52 rfl (v_15 (by omega)) rfl (Nat.ble_eq_true_of_le (by omega)) (hA (by omega) _ _ _ hS1 (by omega)) rfl rfl rfl ?_
          rintro z μ2 ⟨rfl, b1, b2, b3⟩
          refine x_if_eqB (tgt := 68) (pc := 52) F dX3_readFactor_52 rfl (fun h52 => ?_) (fun h52 => ?_)
          · try simp only [decide_eq_true_eq, decide_eq_false_iff_not, Bool.and_eq_true, Bool.or_eq_true, Bool.not_eq_true', Bool.not_eq_false', Bool.and_eq_false_iff, Bool.or_eq_false_iff] at h52
            refine x_iconst (pc := 68) F dX3_readFactor_68 ?_
            refine tq_retz (b := false) (pc := 69) F dX3_readFactor_69 ?_ rfl rfl rfl
            have e : fF tx tl (n + 1) d a = parR tx tl (fA tx tl n ((d + 1 : Nat) : Int) (a + 1)) := by rw [hsp]; unfold facS; rw [if_neg (by omega), if_pos (by omega)]; rfl
            rw [e]
            unfold parR
            first | (rw [if_neg (by rw [h52]; decide)]; exact ⟨rfl, b1, (RF.pl p1).trans b2, fun z => by cases z⟩) | skip
            all_goals (rw [if_pos h52]; have hgt := ((pS_gd (tx := tx) (tl := tl) n ((d + 1 : Nat) : Int) (by omega) (by omega)).2.2.2.1 (a + 1) (by omega)).1)
            all_goals by_cases hq : chA tx tl (fA tx tl n ((d + 1 : Nat) : Int) (a + 1)).2.1 = 41
            all_goals try (exfalso; exact absurd hq (by assumption))
            all_goals try (exfalso; exact hq (by assumption))
            all_goals first | (rw [if_pos hq]; rw [if_pos hq] at p3; have hlt := chA_lt (tx := tx) (tl := tl) (show chA tx tl (fA tx tl n ((d + 1 : Nat) : Int) (a + 1)).2.1 ≠ -1 by omega); exact ⟨rfl, p3.1, ((RF.pl p1).trans b2).trans (RF.pl p3), fun _ => (b3 h52).pl p3 (by simp only; omega)⟩) | (rw [if_neg hq]; rw [if_neg hq] at p3; exact ⟨rfl, p3.1, ((RF.pl p1).trans b2).trans (RF.pl p3), fun z => by cases z⟩)
          · try simp only [decide_eq_true_eq, decide_eq_false_iff_not, Bool.and_eq_true, Bool.or_eq_true, Bool.not_eq_true', Bool.not_eq_false', Bool.and_eq_false_iff, Bool.or_eq_false_iff] at h52
            refine x_aload_n (i := 0) (pc := 55) F dX3_readFactor_55 rfl rfl ?_
            refine x_bipush (pc := 56) F dX3_readFactor_56 (by decide) ?_
            refine x_V1z (ci := 3) (pc := 58) F dX3_readFactor_58 lk_X3_35 rfl (v_15 (by omega)) rfl (Nat.ble_eq_true_of_le (by omega)) (c_X3_readSign 41 (by decide) (b3 h52).1 (b3 h52).2.1.1 (by have := (b3 h52).2.1; omega)) rfl rfl rfl ?_
            rintro z μ3 ⟨rfl, p3⟩
            refine x_if_eqB (tgt := 68) (pc := 61) F dX3_readFactor_61 rfl (fun h61 => ?_) (fun h61 => ?_)
            · try simp only [decide_eq_true_eq, decide_eq_false_iff_not, Bool.and_eq_true, Bool.or_eq_true, Bool.not_eq_true', Bool.not_eq_false', Bool.and_eq_false_iff, Bool.or_eq_false_iff] at h61
              refine x_iconst (pc := 68) F dX3_readFactor_68 ?_
              refine tq_retz (b := false) (pc := 69) F dX3_readFactor_69 ?_ rfl rfl rfl
              have e : fF tx tl (n + 1) d a = parR tx tl (fA tx tl n ((d + 1 : Nat) : Int) (a + 1)) := by rw [hsp]; unfold facS; rw [if_neg (by omega), if_pos (by omega)]; rfl
              rw [e]
              unfold parR
              first | (rw [if_neg (by rw [h52]; decide)]; exact ⟨rfl, b1, (RF.pl p1).trans b2, fun z => by cases z⟩) | skip
              all_goals (rw [if_pos h52]; have hgt := ((pS_gd (tx := tx) (tl := tl) n ((d + 1 : Nat) : Int) (by omega) (by omega)).2.2.2.1 (a + 1) (by omega)).1)
              all_goals by_cases hq : chA tx tl (fA tx tl n ((d + 1 : Nat) : Int) (a + 1)).2.1 = 41
              all_goals try (exfalso; exact absurd hq (by assumption))
              all_goals try (exfalso; exact hq (by assumption))
              all_goals first | (rw [if_pos hq]; rw [if_pos hq] at p3; have hlt := chA_lt (tx := tx) (tl := tl) (show chA tx tl (fA tx tl n ((d + 1 : Nat) : Int) (a + 1)).2.1 ≠ -1 by omega); exact ⟨rfl, p3.1, ((RF.pl p1).trans b2).trans (RF.pl p3), fun _ => (b3 h52).pl p3 (by simp only; omega)⟩) | (rw [if_neg hq]; rw [if_neg hq] at p3; exact ⟨rfl, p3.1, ((RF.pl p1).trans b2).trans (RF.pl p3), fun z => by cases z⟩)
            · try simp only [decide_eq_true_eq, decide_eq_false_iff_not, Bool.and_eq_true, Bool.or_eq_true, Bool.not_eq_true', Bool.not_eq_false', Bool.and_eq_false_iff, Bool.or_eq_false_iff] at h61
              refine x_iconst (pc := 64) F dX3_readFactor_64 ?_
              refine x_goto (tgt := 69) (pc := 65) F dX3_readFactor_65 rfl ?_
              refine tq_retz (b := true) (pc := 69) F dX3_readFactor_69 ?_ rfl rfl rfl
              have e : fF tx tl (n + 1) d a = parR tx tl (fA tx tl n ((d + 1 : Nat) : Int) (a + 1)) := by rw [hsp]; unfold facS; rw [if_neg (by omega), if_pos (by omega)]; rfl
              rw [e]
              unfold parR
              first | (rw [if_neg (by rw [h52]; decide)]; exact ⟨rfl, b1, (RF.pl p1).trans b2, fun z => by cases z⟩) | skip
              all_goals (rw [if_pos h52]; have hgt := ((pS_gd (tx := tx) (tl := tl) n ((d + 1 : Nat) : Int) (by omega) (by omega)).2.2.2.1 (a + 1) (by omega)).1)
              all_goals by_cases hq : chA tx tl (fA tx tl n ((d + 1 : Nat) : Int) (a + 1)).2.1 = 41
              all_goals try (exfalso; exact absurd hq (by assumption))
              all_goals try (exfalso; exact hq (by assumption))
              all_goals first | (rw [if_pos hq]; rw [if_pos hq] at p3; have hlt := chA_lt (tx := tx) (tl := tl) (show chA tx tl (fA tx tl n ((d + 1 : Nat) : Int) (a + 1)).2.1 ≠ -1 by omega); exact ⟨rfl, p3.1, ((RF.pl p1).trans b2).trans (RF.pl p3), fun _ => (b3 h52).pl p3 (by simp only; omega)⟩) | (rw [if_neg hq]; rw [if_neg hq] at p3; exact ⟨rfl, p3.1, ((RF.pl p1).trans b2).trans (RF.pl p3), fun z => by cases z⟩)
      · refine x_iconst (pc := 27) F dX3_readFactor_27 ?_
        refine tq_retz (b := false) (pc := 28) F dX3_readFactor_28 ?_ rfl rfl rfl
        have e : fF tx tl (n + 1) d a = rdF a := by
          rw [hsp]; unfold facS; rw [if_neg (by omega), if_neg (by omega)]; unfold testS
          first | (rw [show chA tx tl a = 33 by omega, if_pos (by decide)]; done) | (rw [show chA tx tl a = 40 by omega, if_pos (by decide)]; done)
        rw [e]
        exact ⟨rfl, ha, RF.refl _ _, fun z => by cases z⟩
    · refine x_aload_n (i := 0) (pc := 17) F dX3_readFactor_17 rfl rfl ?_
      refine x_V0z (ci := 3) (pc := 18) F dX3_readFactor_18 lk_X3_93 rfl (v_15 (by omega)) rfl (Nat.ble_eq_true_of_le (by omega)) (c_X3_readTest hS hh) rfl rfl rfl ?_
      rintro z μ1 hp
      refine tq_retz (pc := 21) F dX3_readFactor_21 ?_ rfl rfl rfl
      have e : fF tx tl (n + 1) d a = testS tx tl a := by rw [hsp]; unfold facS; rw [if_neg (by omega), if_neg (by omega)]
      rw [e]
      exact hp
end FACTOR
