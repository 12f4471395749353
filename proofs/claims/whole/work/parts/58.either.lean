/-! ===== Reader: either ===== -/
/-- what stands behind the loop of a both: prev waits when due -/
def KE (tx : Tn) (tl : Int) (m1 : Nat) (d : Int) (due : Bool) (prev b : Rd) : Rd := if b.1 = true then fLO tx tl m1 d (if due = true then orR prev b else b) else rdF b.2.1
def cdE (due : Bool) (prev : Rd) : List (Int × Int) := if due = true then prev.2.2.1 else []
section EITHER
variable {ad : Ob → Nat} {nh : Int} {tx : Tn} {tl h : Int}
theorem fLA_n {m : Nat} {d : Int} {r : Rd} (hm : 0 < m) (hc : chA tx tl r.2.1 ≠ 38) : fLA tx tl m d r = r := by
  obtain ⟨k, rfl⟩ : ∃ k, m = k + 1 := ⟨m - 1, by omega⟩
  rw [fLA_s]; unfold lpaS; rw [if_neg hc]
theorem fLO_n {m : Nat} {d : Int} {r : Rd} (hm : 0 < m) (hc : chA tx tl r.2.1 ≠ 124) : fLO tx tl m d r = r := by
  obtain ⟨k, rfl⟩ : ∃ k, m = k + 1 := ⟨m - 1, by omega⟩
  rw [fLO_s]; unfold lpoS; rw [if_neg hc]
theorem fA_KE {k : Nat} {d a : Int} (h : (fF tx tl k d a).1 = true) : fA tx tl (k + 2) d a = KE tx tl (k + 1) d false (fF tx tl k d a) (fLA tx tl k d (fF tx tl k d a)) := by
  rw [fA_s, show k + 1 = k + 1 from rfl]
  unfold thenS KE
  rw [fB_s]
  unfold thenS
  rw [if_pos h]
  rfl
theorem fA_no {k : Nat} {d a : Int} (h : (fF tx tl k d a).1 = false) : fA tx tl (k + 2) d a = rdF (fF tx tl k d a).2.1 := by
  have eb : fB tx tl (k + 1) d a = rdF (fF tx tl k d a).2.1 := by rw [fB_s]; unfold thenS; rw [if_neg (by rw [h]; decide)]
  rw [fA_s]
  unfold thenS
  rw [eb]
  rfl
theorem KE_and {m m1 : Nat} {d : Int} {due : Bool} {prev cur : Rd} (hc : chA tx tl cur.2.1 = 38) (h : (fF tx tl m d (cur.2.1 + 1)).1 = true) : KE tx tl m1 d due prev (fLA tx tl (m + 1) d cur) = KE tx tl m1 d due prev (fLA tx tl m d (andR cur (fF tx tl m d (cur.2.1 + 1)))) := by
  rw [fLA_s]
  unfold lpaS
  rw [if_pos hc, if_pos h]
theorem KE_andF {m m1 : Nat} {d : Int} {due : Bool} {prev cur : Rd} (hc : chA tx tl cur.2.1 = 38) (h : (fF tx tl m d (cur.2.1 + 1)).1 = false) : KE tx tl m1 d due prev (fLA tx tl (m + 1) d cur) = rdF (fF tx tl m d (cur.2.1 + 1)).2.1 := by
  rw [fLA_s]
  unfold lpaS
  rw [if_pos hc, if_neg (by rw [h]; decide)]
  rfl
theorem KE_or {m1 : Nat} {d : Int} {due : Bool} {prev cur : Rd} (hcur : cur.1 = true) (hc : chA tx tl cur.2.1 = 124) (h : (fF tx tl m1 d (cur.2.1 + 1)).1 = true) : KE tx tl (m1 + 2) d due prev cur = KE tx tl (m1 + 1) d true (if due = true then orR prev cur else cur) (fLA tx tl m1 d (fF tx tl m1 d (cur.2.1 + 1))) := by
  have e : (if due = true then orR prev cur else cur).2.1 = cur.2.1 := by split <;> rfl
  unfold KE
  rw [if_pos hcur, fLO_s]
  unfold lpoS
  rw [e, if_pos hc, fB_s]
  unfold thenS
  rw [if_pos h]
  simp
theorem KE_orF {m1 : Nat} {d : Int} {due : Bool} {prev cur : Rd} (hcur : cur.1 = true) (hc : chA tx tl cur.2.1 = 124) (h : (fF tx tl m1 d (cur.2.1 + 1)).1 = false) : KE tx tl (m1 + 2) d due prev cur = rdF (fF tx tl m1 d (cur.2.1 + 1)).2.1 := by
  have e : (if due = true then orR prev cur else cur).2.1 = cur.2.1 := by split <;> rfl
  unfold KE
  rw [if_pos hcur, fLO_s]
  unfold lpoS
  have eb : fB tx tl (m1 + 1) d (cur.2.1 + 1) = rdF (fF tx tl m1 d (cur.2.1 + 1)).2.1 := by rw [fB_s]; unfold thenS; rw [if_neg (by rw [h]; decide)]
  rw [e, if_pos hc, eb]
  rfl
theorem KE_end {m1 : Nat} {d : Int} {due : Bool} {prev cur : Rd} (hcur : cur.1 = true) (hm : 0 < m1) (hc : chA tx tl cur.2.1 ≠ 124) : KE tx tl m1 d due prev cur = if due = true then orR prev cur else cur := by
  have e : (if due = true then orR prev cur else cur).2.1 = cur.2.1 := by split <;> rfl
  unfold KE
  rw [if_pos hcur, fLO_n hm (by rw [e]; exact hc)]
set_option maxRecDepth 20000 in
theorem eit_step (k d : Nat) (hd : d ≤ 4) (hh : h < nh) (hF : ∀ m, m ≤ k → CF ad nh tx tl h m d) : CA ad nh tx tl h (k + 2) d := by
  intro μ a code hS hf l E A
  obtain ⟨hX, ⟨ha, ha0, hat⟩, ⟨h3, h30, h36⟩, hC, hl⟩ := id hS
  have htl := hX.1.2.2
  have hg := fun (m : Nat) (b : Int) (hb : b ≤ tl) => (pS_gd (tx := tx) (tl := tl) m (d : Int) (by omega) (by omega)).1 b hb
  refine con (own := RX3) (by decide +kernel) rfl rfl rfl (fun Γ F => ?_)
  have loop : ∀ (N : Nat) (m m1 : Nat) (due : Bool) (prev cur : Rd) (s : Int) (μ1 : Me), tl - cur.2.1 < N → 4 * (tl - cur.2.1) + 1 ≤ m → 4 * (tl - cur.2.1) + 1 ≤ m1 → m ≤ k → m1 ≤ k + 1 → cur.1 = true → fA tx tl (k + 2) d a = KE tx tl m1 d due prev (fLA tx tl m d cur) → RS μ1 tx tl cur.2.1 h (code ++ (cdE due prev ++ cur.2.2.1)) → ((code ++ (cdE due prev ++ cur.2.2.1)).length : Int) + bI due ≤ cur.2.1 → 0 ≤ s → s + 1 ≤ cur.2.1 → RF μ μ1 h → XX Γ 4 (VC nh) ad (vl ad μ1) 0 0 14 [(0, .ref (ad (15, 0, 0))), (1, .int (I d)), (2, .int (I (bI due))), (3, .int (I s))] [] := by
    intro N
    induction N with
    | zero => intro m m1 due prev cur s μ1 b1 b2 b3 b4 b5 b6 b7 b8; have := b8.2.1; omega
    | succ N ih =>
      intro m m1 due prev cur s μ1 b1 b2 b3 b4 b5 b6 b7 b8 b9 b10 b11 b12
      have hat1 := b8.2.1
      have hbd := bI_rg due
      have hch1 := b8.1.ch (a := cur.2.1) (by omega)
      obtain ⟨m', rfl⟩ : ∃ m', m = m' + 1 := ⟨m - 1, by omega⟩
      have l66 : ∀ (μ4 : Me) (mg : Rd), mg = (if due = true then orR prev cur else cur) → fA tx tl (k + 2) d a = KE tx tl m1 d due prev cur → RS μ4 tx tl cur.2.1 h (code ++ mg.2.2.1) → RF μ μ4 h → XX Γ 4 (VC nh) ad (vl ad μ4) 0 0 66 [(0, .ref (ad (15, 0, 0))), (1, .int (I d)), (2, .int (I (bI due))), (3, .int (I s))] [] := by
        intro μ4 mg hmg b7 hS4 hr4
        have mg1 : mg.1 = true := by rw [hmg]; split; rfl; exact b6
        have mg2 : mg.2.1 = cur.2.1 := by rw [hmg]; split <;> rfl
        have hl4 := hS4.2.2.2.2
        rw [List.length_append] at hl4
        refine x_aload_n (i := 0) (pc := 66) F dX3_readEither_66 rfl rfl ?_
        refine x_bipush (pc := 67) F dX3_readEither_67 (by decide) ?_
        refine x_V1z (ci := 3) (pc := 69) F dX3_readEither_69 lk_X3_35 rfl (v_15 (by omega)) rfl (Nat.ble_eq_true_of_le (by omega)) (c_X3_readSign 124 (by decide) hS4.1 hS4.2.1.1 (by omega)) rfl rfl rfl ?_
        rintro z μ5 ⟨rfl, p2⟩
        refine x_if_neB (tgt := 77) (pc := 72) F dX3_readEither_72 rfl (fun h72 => ?_) (fun h72 => ?_)
        · try simp only [decide_eq_true_eq, decide_eq_false_iff_not, Bool.and_eq_true, Bool.or_eq_true, Bool.not_eq_true', Bool.not_eq_false', Bool.and_eq_false_iff, Bool.or_eq_false_iff] at h72
          rw [if_pos h72] at p2
          have l0 : cur.2.1 < tl := chA_lt (tx := tx) (by omega)
          have hS5 := hS4.pl p2 (by omega)
          obtain ⟨m2, rfl⟩ : ∃ m2, m1 = m2 + 2 := ⟨m1 - 2, by omega⟩
          have hq := hg m2 (cur.2.1 + 1) (by omega)
          refine x_iconst (pc := 77) F dX3_readEither_77 ?_
          refine x_istore_n (i := 2) (pc := 78) F dX3_readEither_78 rfl rfl ?_
          refine x_aload_n (i := 0) (pc := 79) F dX3_readEither_79 rfl rfl ?_
          refine x_iload_n (i := 1) (pc := 80) F dX3_readEither_80 rfl rfl ?_
          refine x_V1z (ci := 3) (pc := 81) F dX3_readEither_81 lk_X3_87 rfl (v_15 (by omega)) rfl (Nat.ble_eq_true_of_le (by omega)) (hF m2 (by omega) _ _ _ hS5 (by omega)) rfl rfl rfl ?_
          rintro z μ6 ⟨rfl, q1, q2, q3⟩
          refine x_if_neB (tgt := 89) (pc := 84) F dX3_readEither_84 rfl (fun h84 => ?_) (fun h84 => ?_)
          · try simp only [decide_eq_true_eq, decide_eq_false_iff_not, Bool.and_eq_true, Bool.or_eq_true, Bool.not_eq_true', Bool.not_eq_false', Bool.and_eq_false_iff, Bool.or_eq_false_iff] at h84
            have hq2 := hq.2.2 h84
            have hS6 := q3 h84
            rw [List.append_assoc] at hS6
            refine x_iinc (pc := 89) F dX3_readEither_89 rfl rfl ?_
            refine x_goto (tgt := 14) (pc := 92) F dX3_readEither_92 rfl ?_
            refine x_sub (L' := [(0, .ref (ad (15, 0, 0))), (1, .int (I d)), (2, .int (I (bI true))), (3, .int (I (s + 1)))]) ⟨rfl, rfl, rfl, rfl, trivial⟩ (ih m2 (m2 + 1) true mg (fF tx tl m2 d (cur.2.1 + 1)) (s + 1) μ6 (by omega) (by omega) (by omega) (by omega) (by omega) h84 ?_ hS6 ?_ (by omega) (by omega) ((hr4.trans (RF.pl p2)).trans q2))
            · rw [b7, KE_or b6 h72 h84, hmg]
            · simp only [List.length_append, cdE, if_true, bI, cond_true]; omega
          · try simp only [decide_eq_true_eq, decide_eq_false_iff_not, Bool.and_eq_true, Bool.or_eq_true, Bool.not_eq_true', Bool.not_eq_false', Bool.and_eq_false_iff, Bool.or_eq_false_iff] at h84
            refine x_iconst (pc := 87) F dX3_readEither_87 ?_
            refine tq_retz (b := false) (pc := 88) F dX3_readEither_88 ?_ rfl rfl rfl
            rw [b7, KE_orF b6 h72 h84]
            exact ⟨rfl, q1, (hr4.trans (RF.pl p2)).trans q2, fun z => by cases z⟩
        · try simp only [decide_eq_true_eq, decide_eq_false_iff_not, Bool.and_eq_true, Bool.or_eq_true, Bool.not_eq_true', Bool.not_eq_false', Bool.and_eq_false_iff, Bool.or_eq_false_iff] at h72
          refine x_iconst (pc := 75) F dX3_readEither_75 ?_
          refine tq_retz (b := true) (pc := 76) F dX3_readEither_76 ?_ rfl rfl rfl
          rw [if_neg h72] at p2
          rw [b7, KE_end b6 (by omega) h72, ← hmg]
          exact ⟨mg1.symm, by rw [mg2]; exact p2.1, hr4.trans (RF.pl p2), fun _ => by rw [mg2]; exact hS4.pl p2 (by omega)⟩
      refine x_iload_n (i := 3) (pc := 14) F dX3_readEither_14 rfl rfl ?_
      refine x_bipush (pc := 15) F dX3_readEither_15 (by decide) ?_
      refine x_icmp_ge (tgt := 95) (pc := 17) F dX3_readEither_17 rfl (by omega) (fun h17 => ?_) (fun h17 => ?_)
      · exfalso; omega
      · refine x_aload_n (i := 0) (pc := 20) F dX3_readEither_20 rfl rfl ?_
        refine x_bipush (pc := 21) F dX3_readEither_21 (by decide) ?_
        refine x_V1z (ci := 3) (pc := 23) F dX3_readEither_23 lk_X3_35 rfl (v_15 (by omega)) rfl (Nat.ble_eq_true_of_le (by omega)) (c_X3_readSign 38 (by decide) b8.1 b8.2.1.1 (by omega)) rfl rfl rfl ?_
        rintro z μ2 ⟨rfl, p1⟩
        refine x_if_eqB (tgt := 52) (pc := 26) F dX3_readEither_26 rfl (fun h26 => ?_) (fun h26 => ?_)
        · try simp only [decide_eq_true_eq, decide_eq_false_iff_not, Bool.and_eq_true, Bool.or_eq_true, Bool.not_eq_true', Bool.not_eq_false', Bool.and_eq_false_iff, Bool.or_eq_false_iff] at h26
          rw [if_neg h26] at p1
          rw [fLA_n (by omega) h26] at b7
          have hS1 := b8.pl p1 (by omega)
          have h3h := hS1.2.2.1.1
          have hcn := hS1.2.2.2.1.1
          refine x_iload_n (i := 2) (pc := 52) F dX3_readEither_52 rfl rfl ?_
          refine x_if_eq (tgt := 66) (pc := 53) F dX3_readEither_53 rfl (by omega) (fun h53 => ?_) (fun h53 => ?_)
          · obtain rfl : due = false := by cases due; rfl; exact absurd h53 (by decide)
            first | exact l66 μ2 cur rfl b7 hS1 (b12.trans (RF.pl p1)) | (obtain ⟨r1, r2⟩ := RS_put hS1 (by simp only [bI, cond_true] at b9; omega) e1 e2 e3 e4 e5; exact l66 μ4 (orR prev cur) rfl b7 (by have e : code ++ (orR prev cur).2.2.1 = code ++ (cdE true prev ++ cur.2.2.1) ++ [(20, 0)] := (by simp only [orR, cdE, if_true, List.append_assoc]); rw [e]; exact r1) ((b12.trans (RF.pl p1)).trans r2))
          · obtain rfl : due = true := by cases due; exact absurd rfl h53; rfl
            refine x_aload_n (i := 0) (pc := 56) F dX3_readEither_56 rfl rfl ?_
            refine gf_X3_15 (pc := 57) F dX3_readEither_57 (v_15 (by omega)) ?_
            rw [hvl_r (by omega)]
            refine x_bipush (pc := 60) F dX3_readEither_60 (by decide) ?_
            refine x_iconst (pc := 62) F dX3_readEither_62 ?_
            rw [h3h]
            refine x_V2v (ci := 2) (pc := 63) F dX3_readEither_63 lk_X3_55 rfl (v_12 (by omega)) rfl (Nat.ble_eq_true_of_le (by omega)) (c_X2_put 20 0 (by omega) (by omega)) rfl rfl rfl ?_
            rintro μ4 ⟨e1, e2, e3, e4, e5⟩
            first | exact l66 μ2 cur rfl b7 hS1 (b12.trans (RF.pl p1)) | (obtain ⟨r1, r2⟩ := RS_put hS1 (by simp only [bI, cond_true] at b9; omega) e1 e2 e3 e4 e5; exact l66 μ4 (orR prev cur) rfl b7 (by have e : code ++ (orR prev cur).2.2.1 = code ++ (cdE true prev ++ cur.2.2.1) ++ [(20, 0)] := (by simp only [orR, cdE, if_true, List.append_assoc]); rw [e]; exact r1) ((b12.trans (RF.pl p1)).trans r2))
        · try simp only [decide_eq_true_eq, decide_eq_false_iff_not, Bool.and_eq_true, Bool.or_eq_true, Bool.not_eq_true', Bool.not_eq_false', Bool.and_eq_false_iff, Bool.or_eq_false_iff] at h26
          rw [if_pos h26] at p1
          have l0 : cur.2.1 < tl := chA_lt (tx := tx) (by omega)
          have hS2 := b8.pl p1 (by omega)
          have hq := hg m' (cur.2.1 + 1) (by omega)
          refine x_aload_n (i := 0) (pc := 29) F dX3_readEither_29 rfl rfl ?_
          refine x_iload_n (i := 1) (pc := 30) F dX3_readEither_30 rfl rfl ?_
          refine x_V1z (ci := 3) (pc := 31) F dX3_readEither_31 lk_X3_87 rfl (v_15 (by omega)) rfl (Nat.ble_eq_true_of_le (by omega)) (hF m' (by omega) _ _ _ hS2 (by omega)) rfl rfl rfl ?_
          rintro z μ3 ⟨rfl, q1, q2, q3⟩
          refine x_if_neB (tgt := 39) (pc := 34) F dX3_readEither_34 rfl (fun h34 => ?_) (fun h34 => ?_)
          · try simp only [decide_eq_true_eq, decide_eq_false_iff_not, Bool.and_eq_true, Bool.or_eq_true, Bool.not_eq_true', Bool.not_eq_false', Bool.and_eq_false_iff, Bool.or_eq_false_iff] at h34
            have hS3 := q3 h34
            have hq2 := hq.2.2 h34
            have h3h := hS3.2.2.1.1
            have hcn := hS3.2.2.2.1.1
            have hla := hS3.2.1
            have hlE : ((code ++ (cdE due prev ++ cur.2.2.1) ++ (fF tx tl m' d (cur.2.1 + 1)).2.2.1).length : Int) = (code ++ (cdE due prev ++ cur.2.2.1)).length + (fF tx tl m' d (cur.2.1 + 1)).2.2.1.length := by rw [List.length_append]; omega
            refine x_aload_n (i := 0) (pc := 39) F dX3_readEither_39 rfl rfl ?_
            refine gf_X3_15 (pc := 40) F dX3_readEither_40 (v_15 (by omega)) ?_
            rw [hvl_r (by omega)]
            refine x_bipush (pc := 43) F dX3_readEither_43 (by decide) ?_
            refine x_iconst (pc := 45) F dX3_readEither_45 ?_
            rw [h3h]
            refine x_V2v (ci := 2) (pc := 46) F dX3_readEither_46 lk_X3_55 rfl (v_12 (by omega)) rfl (Nat.ble_eq_true_of_le (by omega)) (c_X2_put 19 0 (by omega) (by omega)) rfl rfl rfl ?_
            rintro μ4 ⟨e1, e2, e3, e4, e5⟩
            obtain ⟨r1, r2⟩ := RS_put hS3 (by omega) e1 e2 e3 e4 e5
            have eC : code ++ (cdE due prev ++ cur.2.2.1) ++ (fF tx tl m' d (cur.2.1 + 1)).2.2.1 ++ [(19, 0)] = code ++ (cdE due prev ++ (andR cur (fF tx tl m' d (cur.2.1 + 1))).2.2.1) := by simp only [andR, List.append_assoc]
            refine x_goto (tgt := 89) (pc := 49) F dX3_readEither_49 rfl ?_
            refine x_iinc (pc := 89) F dX3_readEither_89 rfl rfl ?_
            refine x_goto (tgt := 14) (pc := 92) F dX3_readEither_92 rfl ?_
            refine x_sub (L' := [(0, .ref (ad (15, 0, 0))), (1, .int (I d)), (2, .int (I (bI due))), (3, .int (I (s + 1)))]) ⟨rfl, rfl, rfl, rfl, trivial⟩ (ih m' m1 due prev (andR cur (fF tx tl m' d (cur.2.1 + 1))) (s + 1) μ4 ?_ ?_ ?_ (by omega) (by omega) rfl (b7.trans (KE_and h26 h34)) (by rw [← eC]; exact r1) ?_ (by omega) ?_ (((b12.trans (RF.pl p1)).trans q2).trans r2))
            · simp only [andR]; omega
            · simp only [andR]; omega
            · simp only [andR]; omega
            · rw [← eC, List.length_append, List.length_singleton]; simp only [andR]; omega
            · simp only [andR]; omega
          · try simp only [decide_eq_true_eq, decide_eq_false_iff_not, Bool.and_eq_true, Bool.or_eq_true, Bool.not_eq_true', Bool.not_eq_false', Bool.and_eq_false_iff, Bool.or_eq_false_iff] at h34
            refine x_iconst (pc := 37) F dX3_readEither_37 ?_
            refine tq_retz (b := false) (pc := 38) F dX3_readEither_38 ?_ rfl rfl rfl
            rw [b7, KE_andF h26 h34]
            exact ⟨rfl, q1, (b12.trans (RF.pl p1)).trans q2, fun z => by cases z⟩
  refine x_aload_n (i := 0) (pc := 0) F dX3_readEither_0 rfl rfl ?_
  refine x_iload_n (i := 1) (pc := 1) F dX3_readEither_1 rfl rfl ?_
  refine x_V1z (ci := 3) (pc := 2) F dX3_readEither_2 lk_X3_87 rfl (v_15 (by omega)) rfl (Nat.ble_eq_true_of_le (by omega)) (hF k (Nat.le_refl _) _ _ _ hS (by omega)) rfl rfl rfl ?_
  rintro z μ1 ⟨rfl, q1, q2, q3⟩
  refine x_if_neB (tgt := 10) (pc := 5) F dX3_readEither_5 rfl (fun h5 => ?_) (fun h5 => ?_)
  · try simp only [decide_eq_true_eq, decide_eq_false_iff_not, Bool.and_eq_true, Bool.or_eq_true, Bool.not_eq_true', Bool.not_eq_false', Bool.and_eq_false_iff, Bool.or_eq_false_iff] at h5
    have hS1 := q3 h5
    have hq := hg k a hat
    have hq2 := hq.2.2 h5
    refine x_iconst (pc := 10) F dX3_readEither_10 ?_
    refine x_istore_n (i := 2) (pc := 11) F dX3_readEither_11 rfl rfl ?_
    refine x_iconst (pc := 12) F dX3_readEither_12 ?_
    refine x_istore_n (i := 3) (pc := 13) F dX3_readEither_13 rfl rfl ?_
    refine x_sub (L' := [(0, .ref (ad (15, 0, 0))), (1, .int (I d)), (2, .int (I (bI false))), (3, .int (I 0))]) ⟨rfl, rfl, rfl, rfl, trivial⟩ (loop 200 k (k + 1) false (fF tx tl k d a) (fF tx tl k d a) 0 μ1 (by omega) (by omega) (by omega) (Nat.le_refl _) (Nat.le_refl _) h5 (fA_KE h5) hS1 ?_ (by omega) (by omega) q2)
    simp only [List.length_append, cdE, bI, cond_false]; simp; omega
  · try simp only [decide_eq_true_eq, decide_eq_false_iff_not, Bool.and_eq_true, Bool.or_eq_true, Bool.not_eq_true', Bool.not_eq_false', Bool.and_eq_false_iff, Bool.or_eq_false_iff] at h5
    refine x_iconst (pc := 8) F dX3_readEither_8 ?_
    refine tq_retz (b := false) (pc := 9) F dX3_readEither_9 ?_ rfl rfl rfl
    rw [fA_no h5]
    exact ⟨rfl, q1, q2, fun z => by cases z⟩
theorem eit_all (hh : h < nh) : ∀ n m d : Nat, m ≤ n → d ≤ 4 → CF ad nh tx tl h m d ∧ CA ad nh tx tl h m d
  | 0, m, d, hm, hd => ⟨fun μ a code hS hf => by have := hS.2.1; omega, fun μ a code hS hf => by have := hS.2.1; omega⟩
  | n + 1, 0, d, hm, hd => ⟨fun μ a code hS hf => by have := hS.2.1; omega, fun μ a code hS hf => by have := hS.2.1; omega⟩
  | n + 1, m + 1, d, hm, hd => by
    have ih := eit_all hh n
    refine ⟨fac_step m d hd hh (fun h4 => (ih m (d + 1) (by omega) (by omega)).1) (fun h4 => (ih m (d + 1) (by omega) (by omega)).2), ?_⟩
    match m, hm with
    | 0, _ => exact fun μ a code hS hf => by have := hS.2.1; omega
    | k + 1, hm => exact eit_step k d hd hh (fun j hj => (ih j d (by omega) hd).1)
theorem c_X3_readEither {μ : Me} {a : Int} {code : List (Int × Int)} (hh : h < nh) (hS : RS μ tx tl a h code) (l : Launch) (E : Ev) (A : Nat → Prop) : Con l E 15 m_X3_readEither A (VC nh) ad μ [.ref (ad (15, 0, 0)), .int (I 0)] (pz fun z μ' => RP μ μ' tx tl h code (fA tx tl 1000 0 a) z) := by
  have htl := hS.1.1.2.2
  have hat := hS.2.1
  exact (eit_all hh 1000 1000 0 (Nat.le_refl _) (by omega)).2 μ a code hS (by omega) l E A
end EITHER
