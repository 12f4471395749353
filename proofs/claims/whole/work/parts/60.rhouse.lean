/-! ===== Reader: a house's text ===== -/
def RI2 (μ μ' : Me) (h : Int) : Prop := (∀ k, k ≠ 2 → k ≠ 3 → μ' (15, 0, 0) k = μ (15, 0, 0) k) ∧ ∀ o, o ≠ (15, 0, 0) → o ≠ (12, h, 0) → o ≠ (13, h, 0) → o ≠ (14, h, 0) → μ' o = μ o
theorem RI2.rg {μ μ1 μ2 : Me} {h : Int} (a : RI2 μ μ1 h) (b : RG μ1 μ2 h) : RI2 μ μ2 h := ⟨fun k k2 k3 => by rw [b.1 k k2, a.1 k k2 k3], fun o h1 h2 h3 h4 => by rw [b.2 o h1 h2 h3 h4, a.2 o h1 h2 h3 h4]⟩
def RZ (μ μ' : Me) (tx : Tn) (tl h : Int) (r : Bool × Cl) (z : Bool) : Prop := z = r.1 ∧ μ' (15, 0, 0) 2 = r.2.1 ∧ RI2 μ μ' h ∧ (r.1 = true → RC μ' tx tl h r.2)
section RHOUSE
variable {ad : Ob → Nat} {μ : Me} {nh : Int} {tx : Tn} {tl h : Int}
set_option maxRecDepth 20000 in
theorem c_X3_readHouse (hX : TX μ tx tl) (hh : 0 ≤ h ∧ h < nh ∧ h < 6) (l : Launch) (E : Ev) (A : Nat → Prop) : Con l E 17 m_X3_readHouse A (VC nh) ad μ [.ref (ad (15, 0, 0)), .ref (ad (12, h, 0))] (pz fun z μ' => RZ μ μ' tx tl h (rdS tx tl) z) := by
  have htl := hX.1.2.2
  have htl0 := hX.1.2.1
  have hx1 := hX.1.1
  refine con (own := RX3) (by decide +kernel) rfl rfl rfl (fun Γ F => ?_)
  have loop : ∀ (m : Nat) (i : Int) (c : Cl) (μ1 : Me), (m : Int) + i = 11 → 1 ≤ i → RC μ1 tx tl h c → gdC tl c → rdS tx tl = alS tx tl m c → RI2 μ μ1 h → (m = 0 → False) → XX Γ 3 (VC nh) ad (vl ad μ1) 0 0 19 [(0, .ref (ad (15, 0, 0))), (1, .ref (ad (12, h, 0))), (2, .int (I i))] [] := by
    intro m
    induction m with
    | zero => intro i c μ1 b1 b2 b3 b4 b5 b6 b7; exact absurd rfl b7
    | succ m ih =>
      intro i c μ1 b1 b2 b3 b4 b5 b6 b7
      have hgc := gd_cl (tx := tx) b4
      have hc00 := b4.1
      have e5 : rdS tx tl = if (clS tx tl c).1 = true then (if chA tx tl (clS tx tl c).2.1 = 59 ∧ m ≠ 0 then alS tx tl m ((clS tx tl c).2.1 + 1, (clS tx tl c).2.2) else (decide ((clS tx tl c).2.1 = tl), (clS tx tl c).2)) else (false, (clS tx tl c).2) := b5
      have hx2 := b3.1.1.1.1
      refine x_iload_n (i := 2) (pc := 19) F dX3_readHouse_19 rfl rfl ?_
      refine x_bipush (pc := 20) F dX3_readHouse_20 (by decide) ?_
      refine x_icmp_gt (tgt := 70) (pc := 22) F dX3_readHouse_22 rfl (by omega) (fun h22 => ?_) (fun h22 => ?_)
      · exfalso; omega
      · refine x_aload_n (i := 0) (pc := 25) F dX3_readHouse_25 rfl rfl ?_
        refine x_V0z (ci := 3) (pc := 26) F dX3_readHouse_26 lk_X3_28 rfl (v_15 (by omega)) rfl rfl (c_X3_readClause b3 (by omega)) rfl rfl rfl ?_
        rintro z μ2 ⟨rfl, q1, q2, q3⟩
        refine x_if_neB (tgt := 34) (pc := 29) F dX3_readHouse_29 rfl (fun h29 => ?_) (fun h29 => ?_)
        · try simp only [decide_eq_true_eq, decide_eq_false_iff_not, Bool.and_eq_true, Bool.or_eq_true, Bool.not_eq_true', Bool.not_eq_false', Bool.and_eq_false_iff, Bool.or_eq_false_iff] at h29
          have hC2 := q3 h29
          have hg2 := hgc.2 h29
          have hx3 := hC2.1.1.1.1
          rw [if_pos h29] at e5
          refine x_aload_n (i := 0) (pc := 34) F dX3_readHouse_34 rfl rfl ?_
          refine gf_X3_24 (pc := 35) F dX3_readHouse_35 (v_15 (by omega)) ?_
          refine x_aload_n (i := 0) (pc := 38) F dX3_readHouse_38 rfl rfl ?_
          refine gf_X3_32 (pc := 39) F dX3_readHouse_39 (v_15 (by omega)) ?_
          refine x_icmp_lt (tgt := 47) (pc := 42) F dX3_readHouse_42 rfl (by omega) (fun h42 => ?_) (fun h42 => ?_)
          · refine x_iload_n (i := 2) (pc := 47) F dX3_readHouse_47 rfl rfl ?_
            refine x_bipush (pc := 48) F dX3_readHouse_48 (by decide) ?_
            refine x_icmp_eq (tgt := 62) (pc := 50) F dX3_readHouse_50 rfl (by omega) (fun h50 => ?_) (fun h50 => ?_)
            · refine x_iconst (pc := 62) F dX3_readHouse_62 ?_
              refine tq_retz (b := false) (pc := 63) F dX3_readHouse_63 ?_ rfl rfl rfl
              first | (rw [if_neg (fun z => z.2 (by omega)), decide_eq_false (by omega)] at e5; rw [e5]; exact ⟨rfl, q1, b6.rg q2, fun z => by cases z⟩) | (rw [if_neg (fun z => h59 z.1), decide_eq_false (by omega)] at e5; rw [e5]; rw [if_neg h59] at p3; exact ⟨rfl, p3.1, (b6.rg q2).rg (RG.rf (RF.pl p3)), fun z => by cases z⟩)
            · refine x_aload_n (i := 0) (pc := 53) F dX3_readHouse_53 rfl rfl ?_
              refine x_bipush (pc := 54) F dX3_readHouse_54 (by decide) ?_
              refine x_V1z (ci := 3) (pc := 56) F dX3_readHouse_56 lk_X3_35 rfl (v_15 (by omega)) rfl rfl (c_X3_readSign 59 (by decide) hC2.1.1 q1 (by omega)) rfl rfl rfl ?_
              rintro z μ3 ⟨rfl, p3⟩
              refine x_if_neB (tgt := 64) (pc := 59) F dX3_readHouse_59 rfl (fun h59 => ?_) (fun h59 => ?_)
              · try simp only [decide_eq_true_eq, decide_eq_false_iff_not, Bool.and_eq_true, Bool.or_eq_true, Bool.not_eq_true', Bool.not_eq_false', Bool.and_eq_false_iff, Bool.or_eq_false_iff] at h59
                rw [if_pos h59] at p3
                rw [if_pos ⟨h59, by omega⟩] at e5
                have hS3 := hC2.1.pl p3 (by omega)
                have hC3 : RC μ3 tx tl h ((clS tx tl c).2.1 + 1, (clS tx tl c).2.2) := ⟨hS3, by rw [p3.2.2 _ (by simp)]; exact hC2.2.1, by rw [p3.2.2 _ (by simp)]; exact hC2.2.2⟩
                refine x_iinc (pc := 64) F dX3_readHouse_64 rfl rfl ?_
                refine x_goto (tgt := 19) (pc := 67) F dX3_readHouse_67 rfl ?_
                refine x_sub (L' := [(0, .ref (ad (15, 0, 0))), (1, .ref (ad (12, h, 0))), (2, .int (I (i + 1)))]) ⟨rfl, rfl, rfl, trivial⟩ (ih (i + 1) _ μ3 (by omega) (by omega) hC3 ?_ e5 ((b6.rg q2).rg (RG.rf (RF.pl p3))) (by omega))
                obtain ⟨⟨k0, k0'⟩, k1, k2, k3, k4, k5⟩ := hg2.1
                exact ⟨⟨by simp only; omega, by simp only; omega⟩, by simp only; omega, k2, k3, k4, k5⟩
              · try simp only [decide_eq_true_eq, decide_eq_false_iff_not, Bool.and_eq_true, Bool.or_eq_true, Bool.not_eq_true', Bool.not_eq_false', Bool.and_eq_false_iff, Bool.or_eq_false_iff] at h59
                refine x_iconst (pc := 62) F dX3_readHouse_62 ?_
                refine tq_retz (b := false) (pc := 63) F dX3_readHouse_63 ?_ rfl rfl rfl
                first | (rw [if_neg (fun z => z.2 (by omega)), decide_eq_false (by omega)] at e5; rw [e5]; exact ⟨rfl, q1, b6.rg q2, fun z => by cases z⟩) | (rw [if_neg (fun z => h59 z.1), decide_eq_false (by omega)] at e5; rw [e5]; rw [if_neg h59] at p3; exact ⟨rfl, p3.1, (b6.rg q2).rg (RG.rf (RF.pl p3)), fun z => by cases z⟩)
          · refine x_iconst (pc := 45) F dX3_readHouse_45 ?_
            refine tq_retz (b := true) (pc := 46) F dX3_readHouse_46 ?_ rfl rfl rfl
            have l0 : (clS tx tl c).2.1 = tl := by omega
            have hc0 : chA tx tl (clS tx tl c).2.1 = -1 := by unfold chA; rw [if_neg (by omega)]
            rw [if_neg (by omega), decide_eq_true l0] at e5
            rw [e5]
            exact ⟨rfl, q1, b6.rg q2, fun _ => hC2⟩
        · try simp only [decide_eq_true_eq, decide_eq_false_iff_not, Bool.and_eq_true, Bool.or_eq_true, Bool.not_eq_true', Bool.not_eq_false', Bool.and_eq_false_iff, Bool.or_eq_false_iff] at h29
          refine x_iconst (pc := 32) F dX3_readHouse_32 ?_
          refine tq_retz (b := false) (pc := 33) F dX3_readHouse_33 ?_ rfl rfl rfl
          rw [if_neg (by rw [h29]; decide)] at e5
          rw [e5]
          exact ⟨rfl, q1, b6.rg q2, fun z => by cases z⟩
  refine x_aload_n (i := 0) (pc := 0) F dX3_readHouse_0 rfl rfl ?_
  refine x_aload_n (i := 1) (pc := 1) F dX3_readHouse_1 rfl rfl ?_
  refine pf_X3_15 (pc := 2) F dX3_readHouse_2 (v_15 (by omega)) (hvl_r (by omega)).symm rfl ?_
  generalize hm0 : upM μ (15, 0, 0) 3 h = μ0
  have g3 : μ0 (15, 0, 0) 3 = h := by rw [← hm0, upM_i, if_pos rfl]
  have g15 : ∀ k, k ≠ 3 → μ0 (15, 0, 0) k = μ (15, 0, 0) k := fun k hk => by rw [← hm0, upM_i, if_neg hk]
  have go : ∀ o, o ≠ (15, 0, 0) → μ0 o = μ o := fun o ho => by rw [← hm0, upM_ne ho]
  refine x_aload_n (i := 0) (pc := 5) F dX3_readHouse_5 rfl rfl ?_
  refine gf_X3_15 (pc := 6) F dX3_readHouse_6 (v_15 (by omega)) ?_
  rw [hvl_r (by omega)]
  rw [g3]
  refine x_V0v (ci := 2) (pc := 9) F dX3_readHouse_9 lk_X3_19 rfl (v_12 (by omega)) rfl rfl (c_X2_clear (h := h) (j := 0) ⟨by omega, rfl⟩) rfl rfl rfl ?_
  rintro _ rfl
  refine x_aload_n (i := 0) (pc := 12) F dX3_readHouse_12 rfl rfl ?_
  refine x_iconst (pc := 13) F dX3_readHouse_13 ?_
  refine pf_X3_24 (pc := 14) F dX3_readHouse_14 (v_15 (by omega)) ?_
  refine x_iconst (pc := 17) F dX3_readHouse_17 ?_
  refine x_istore_n (i := 2) (pc := 18) F dX3_readHouse_18 rfl rfl ?_
  refine x_sub (L' := [(0, .ref (ad (15, 0, 0))), (1, .ref (ad (12, h, 0))), (2, .int (I 1))]) ⟨rfl, rfl, rfl, trivial⟩ (loop 10 1 (0, [], fun _ => 0, 10, 0) _ (by omega) (by omega) ⟨⟨⟨?_, fun k x y => ?_⟩, ⟨?_, by simp only; omega, by simp only; omega⟩, ⟨?_, by omega, by omega⟩, ⟨?_, fun i hi => absurd hi (Nat.not_lt_zero i)⟩, by simp⟩, ?_, ?_⟩ ⟨⟨by simp, by simp only; omega⟩, by simp, fun x hx => (by cases hx), fun vals => ⟨by simp [okC], rfl⟩, by simp, by simp⟩ rfl ⟨fun k k2 k3 => ?_, fun o h1 h2 h3 h4 => ?_⟩ (by omega))
  · rw [upM_i, if_neg (by decide), upM_ne (by simp), upM_ne (by simp), upM_ne (by simp), g15 1 (by decide)]; exact hX.1
  · rw [upM_ne (by simp), upM_ne (by simp), upM_ne (by simp), upM_ne (by simp), go _ (by simp)]; exact hX.2 k x y
  · rw [upM_i, if_pos rfl]
  · rw [upM_i, if_neg (by decide), upM_ne (by simp), upM_ne (by simp), upM_ne (by simp), g3]
  · rw [upM_ne (by simp), upM_i, if_neg (by decide), upM_i, if_neg (by decide), upM_i, if_pos rfl]; rfl
  · rw [upM_ne (by simp), upM_i, if_neg (by decide), upM_i, if_pos rfl]
  · rw [upM_ne (by simp), upM_i, if_pos rfl]
  · rw [upM_i, if_neg k2, upM_ne (by simp), upM_ne (by simp), upM_ne (by simp), g15 k k3]
  · rw [upM_ne h1, upM_ne h2, upM_ne h2, upM_ne h2, go o h1]
end RHOUSE
