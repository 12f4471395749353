/-! ===== Reader: signs, numbers ===== -/
/-- only the place moved -/
def PL (μ μ' : Me) (a : Int) : Prop := μ' (15, 0, 0) 2 = a ∧ (∀ k, k ≠ 2 → μ' (15, 0, 0) k = μ (15, 0, 0) k) ∧ ∀ o, o ≠ (15, 0, 0) → μ' o = μ o
theorem PL.trans {μ μ1 μ2 : Me} {a b : Int} (h : PL μ μ1 a) (h2 : PL μ1 μ2 b) : PL μ μ2 b := ⟨h2.1, fun k hk => by rw [h2.2.1 k hk, h.2.1 k hk], fun o ho => by rw [h2.2.2 o ho, h.2.2 o ho]⟩
theorem PL.refl {μ : Me} {a : Int} (h : μ (15, 0, 0) 2 = a) : PL μ μ a := ⟨h, fun _ _ => rfl, fun _ _ => rfl⟩
theorem PL.up (μ : Me) (a : Int) : PL μ (upM μ (15, 0, 0) 2 a) a := ⟨by rw [upM_i, if_pos rfl], fun k hk => by rw [upM_i, if_neg hk], fun o ho => upM_ne ho⟩
theorem TX.pl {μ μ' : Me} {tx : Tn} {tl a : Int} (h : TX μ tx tl) (e : PL μ μ' a) : TX μ' tx tl := by
  obtain ⟨⟨h1, h2⟩, h3⟩ := h
  refine ⟨⟨by rw [e.2.1 1 (by decide)]; exact h1, h2⟩, fun k x y => ?_⟩
  rw [e.2.2 _ (by simp)]
  exact h3 k x y
theorem TX.ch {μ : Me} {tx : Tn} {tl a : Int} (h : TX μ tx tl) (ha : 0 ≤ a) : -1 ≤ chA tx tl a ∧ chA tx tl a < 128 := by
  unfold chA
  split
  · have := (h.2 a ha (by omega)).2
    omega
  · omega
section READ
variable {ad : Ob → Nat} {μ : Me} {nh : Int} {tx : Tn} {tl a : Int}
set_option maxRecDepth 20000 in
theorem c_X3_signAt (hX : TX μ tx tl) (ha : μ (15, 0, 0) 2 = a) (h0 : 0 ≤ a ∧ a ≤ 200) (l : Launch) (E : Ev) (A : Nat → Prop) : Con l E 0 m_X3_signAt A (VC nh) ad μ [.ref (ad (15, 0, 0))] (pi fun z μ' => z = chA tx tl a ∧ μ = μ') := by
  obtain ⟨⟨x1, x2, x3⟩, x4⟩ := hX
  refine con (own := RX3) (by decide +kernel) rfl rfl rfl (fun Γ F => ?_)
  refine x_aload_n (i := 0) (pc := 0) F dX3_signAt_0 rfl rfl ?_
  refine gf_X3_24 (pc := 1) F dX3_signAt_1 (v_15 (by omega)) ?_
  refine x_aload_n (i := 0) (pc := 4) F dX3_signAt_4 rfl rfl ?_
  refine gf_X3_32 (pc := 5) F dX3_signAt_5 (v_15 (by omega)) ?_
  refine x_icmp_ge (tgt := 23) (pc := 8) F dX3_signAt_8 rfl (by omega) (fun h8 => ?_) (fun h8 => ?_)
  · refine x_iconst (pc := 23) F dX3_signAt_23 ?_
    refine tq_reti (pc := 24) F dX3_signAt_24 ?_ rfl rfl rfl
    first | (refine ⟨?_, rfl⟩; unfold chA; rw [if_pos (by omega), ha]; exact hh) | (refine ⟨?_, rfl⟩; unfold chA; rw [if_neg (by omega)])
  · refine x_aload_n (i := 0) (pc := 11) F dX3_signAt_11 rfl rfl ?_
    refine gf_X3_9 (pc := 12) F dX3_signAt_12 (v_15 (by omega)) ?_
    refine x_aload_n (i := 0) (pc := 15) F dX3_signAt_15 rfl rfl ?_
    refine gf_X3_24 (pc := 16) F dX3_signAt_16 (v_15 (by omega)) ?_
    refine tq_ba (pc := 19) F dX3_signAt_19 (v_16 (by omega)) rfl (fun _ => rfl) (by omega) ?_
    have hh := (x4 a (by omega) (by omega)).1
    refine x_goto (tgt := 24) (pc := 20) F dX3_signAt_20 rfl ?_
    refine tq_reti (pc := 24) F dX3_signAt_24 ?_ rfl rfl rfl
    first | (refine ⟨?_, rfl⟩; unfold chA; rw [if_pos (by omega), ha]; exact hh) | (refine ⟨?_, rfl⟩; unfold chA; rw [if_neg (by omega)])
set_option maxRecDepth 20000 in
theorem c_X3_readSign (c : Int) (hc : 0 ≤ c ∧ c < 128) (hX : TX μ tx tl) (ha : μ (15, 0, 0) 2 = a) (h0 : 0 ≤ a ∧ a ≤ 200) (l : Launch) (E : Ev) (A : Nat → Prop) : Con l E 1 m_X3_readSign A (VC nh) ad μ [.ref (ad (15, 0, 0)), .int (I c)] (pz fun z μ' => z = decide (chA tx tl a = c) ∧ PL μ μ' (if chA tx tl a = c then a + 1 else a)) := by
  have hch := hX.ch h0.1
  refine con (own := RX3) (by decide +kernel) rfl rfl rfl (fun Γ F => ?_)
  refine x_aload_n (i := 0) (pc := 0) F dX3_readSign_0 rfl rfl ?_
  refine x_V0i (ci := 3) (pc := 1) F dX3_readSign_1 lk_X3_90 rfl (v_15 (by omega)) rfl rfl (c_X3_signAt hX ha (by omega)) rfl rfl rfl ?_
  rintro _ _ ⟨rfl, rfl⟩
  refine x_iload_n (i := 1) (pc := 4) F dX3_readSign_4 rfl rfl ?_
  refine x_icmp_eq (tgt := 10) (pc := 5) F dX3_readSign_5 rfl (by omega) (fun h5 => ?_) (fun h5 => ?_)
  · refine x_aload_n (i := 0) (pc := 10) F dX3_readSign_10 rfl rfl ?_
    refine x_dup (pc := 11) F dX3_readSign_11 rfl ?_
    refine gf_X3_24 (pc := 12) F dX3_readSign_12 (v_15 (by omega)) ?_
    refine x_iconst (pc := 15) F dX3_readSign_15 ?_
    rw [ha]
    refine x_iadd (pc := 16) F dX3_readSign_16 ?_
    refine pf_X3_24 (pc := 17) F dX3_readSign_17 (v_15 (by omega)) ?_
    refine x_iconst (pc := 20) F dX3_readSign_20 ?_
    refine tq_retz (b := true) (pc := 21) F dX3_readSign_21 ?_ rfl rfl rfl
    exact ⟨by rw [decide_eq_true h5], by rw [if_pos h5]; exact PL.up _ _⟩
  · refine x_iconst (pc := 8) F dX3_readSign_8 ?_
    refine tq_retz (b := false) (pc := 9) F dX3_readSign_9 ?_ rfl rfl rfl
    exact ⟨by rw [decide_eq_false h5], by rw [if_neg h5]; exact PL.refl ha⟩
set_option maxRecDepth 20000 in
theorem c_X3_readNumber (hX : TX μ tx tl) (ha : μ (15, 0, 0) 2 = a) (h0 : 0 ≤ a ∧ a ≤ 150) (l : Launch) (E : Ev) (A : Nat → Prop) : Con l E 1 m_X3_readNumber A (VC nh) ad μ [.ref (ad (15, 0, 0))] (pi fun z μ' => z = nuN tx tl a ∧ PL μ μ' (nuA tx tl a)) := by
  have hch := hX.ch h0.1
  have hch1 := hX.ch (a := a + 1) (by omega)
  have dg : ∀ c, dgP c = true ↔ 48 ≤ c ∧ c ≤ 57 := fun c => by simp [dgP]
  refine con (own := RX3) (by decide +kernel) rfl rfl rfl (fun Γ F => ?_)
  have l2 : ∀ (n w : Int) (μ1 : Me), n = nuN tx tl a → PL μ μ1 (nuA tx tl a) → XX Γ 4 (VC nh) ad (vl ad μ1) 0 0 4 [(0, .ref (ad (15, 0, 0))), (1, .int (I n)), (2, .int (I 2)), (3, .int (I w))] [] := by
    intro n w μ1 h1 h2
    refine x_iload_n (i := 2) (pc := 4) F dX3_readNumber_4 rfl rfl ?_
    refine x_iconst (pc := 5) F dX3_readNumber_5 ?_
    refine x_icmp_ge (tgt := 58) (pc := 6) F dX3_readNumber_6 rfl (by omega) (fun h6 => ?_) (fun h6 => ?_)
    · refine x_iload_n (i := 1) (pc := 58) F dX3_readNumber_58 rfl rfl ?_
      refine tq_reti (pc := 59) F dX3_readNumber_59 ?_ rfl rfl rfl
      exact ⟨h1, h2⟩
    · exfalso; omega
  have l1 : ∀ (w : Int) (μ1 : Me), 48 ≤ chA tx tl a ∧ chA tx tl a ≤ 57 → PL μ μ1 (a + 1) → XX Γ 4 (VC nh) ad (vl ad μ1) 0 0 4 [(0, .ref (ad (15, 0, 0))), (1, .int (I (chA tx tl a - 48))), (2, .int (I 1)), (3, .int (I w))] [] := by
    intro w μ1 h1 h2
    have hX1 := hX.pl h2
    have hd1 := (dg _).mpr h1
    refine x_iload_n (i := 2) (pc := 4) F dX3_readNumber_4 rfl rfl ?_
    refine x_iconst (pc := 5) F dX3_readNumber_5 ?_
    refine x_icmp_ge (tgt := 58) (pc := 6) F dX3_readNumber_6 rfl (by omega) (fun h6 => ?_) (fun h6 => ?_)
    · exfalso; omega
    · refine x_aload_n (i := 0) (pc := 9) F dX3_readNumber_9 rfl rfl ?_
      refine x_V0i (ci := 3) (pc := 10) F dX3_readNumber_10 lk_X3_90 rfl (v_15 (by omega)) rfl rfl (c_X3_signAt hX1 h2.1 (by omega)) rfl rfl rfl ?_
      rintro _ _ ⟨rfl, rfl⟩
      refine x_istore_n (i := 3) (pc := 13) F dX3_readNumber_13 rfl rfl ?_
      refine x_iload_n (i := 3) (pc := 14) F dX3_readNumber_14 rfl rfl ?_
      refine x_bipush (pc := 15) F dX3_readNumber_15 (by decide) ?_
      refine x_icmp_lt (tgt := 26) (pc := 17) F dX3_readNumber_17 rfl (by omega) (fun h17 => ?_) (fun h17 => ?_)
      · refine x_iload_n (i := 1) (pc := 26) F dX3_readNumber_26 rfl rfl ?_
        refine tq_reti (pc := 27) F dX3_readNumber_27 ?_ rfl rfl rfl
        have hd2 : ¬ dgP (chA tx tl (a + 1)) = true := fun z => by have := (dg _).mp z; omega
        exact ⟨by unfold nuN; rw [if_pos hd1, if_neg hd2], by unfold nuA; rw [if_pos hd1, if_neg hd2]; exact h2⟩
      · refine x_iload_n (i := 3) (pc := 20) F dX3_readNumber_20 rfl rfl ?_
        refine x_bipush (pc := 21) F dX3_readNumber_21 (by decide) ?_
        refine x_icmp_le (tgt := 28) (pc := 23) F dX3_readNumber_23 rfl (by omega) (fun h23 => ?_) (fun h23 => ?_)
        · refine x_iload_n (i := 1) (pc := 28) F dX3_readNumber_28 rfl rfl ?_
          refine x_iconst (pc := 29) F dX3_readNumber_29 ?_
          refine tq_max (pc := 30) F dX3_readNumber_30 kw_557 rfl rfl rfl rfl (by omega) ?_
          refine x_bipush (pc := 33) F dX3_readNumber_33 (by decide) ?_
          refine x_imul (pc := 35) F dX3_readNumber_35 ?_
          refine x_iload_n (i := 3) (pc := 36) F dX3_readNumber_36 rfl rfl ?_
          refine x_bipush (pc := 37) F dX3_readNumber_37 (by decide) ?_
          refine x_isub (pc := 39) F dX3_readNumber_39 ?_
          refine x_iadd (pc := 40) F dX3_readNumber_40 ?_
          refine x_istore_n (i := 1) (pc := 41) F dX3_readNumber_41 rfl rfl ?_
          refine x_aload_n (i := 0) (pc := 42) F dX3_readNumber_42 rfl rfl ?_
          refine x_dup (pc := 43) F dX3_readNumber_43 rfl ?_
          refine gf_X3_24 (pc := 44) F dX3_readNumber_44 (v_15 (by omega)) ?_
          rw [h2.1]
          refine x_iconst (pc := 47) F dX3_readNumber_47 ?_
          refine x_iadd (pc := 48) F dX3_readNumber_48 ?_
          refine pf_X3_24 (pc := 49) F dX3_readNumber_49 (v_15 (by omega)) ?_
          refine x_iinc (pc := 52) F dX3_readNumber_52 rfl rfl ?_
          refine x_goto (tgt := 4) (pc := 55) F dX3_readNumber_55 rfl ?_
          have hd2 := (dg (chA tx tl (a + 1))).mpr (by omega)
          exact x_sub (L' := [(0, .ref (ad (15, 0, 0))), (1, .int (I (max (chA tx tl a - 48) 0 * 10 + (chA tx tl (a + 1) - 48)))), (2, .int (I 2)), (3, .int (I (chA tx tl (a + 1))))]) ⟨rfl, rfl, rfl, rfl, trivial⟩ (l2 _ _ _ (by unfold nuN; rw [if_pos hd1, if_pos hd2]; omega) (by unfold nuA; rw [if_pos hd1, if_pos hd2, show a + 2 = a + 1 + 1 by omega]; exact h2.trans (PL.up _ _)))
        · refine x_iload_n (i := 1) (pc := 26) F dX3_readNumber_26 rfl rfl ?_
          refine tq_reti (pc := 27) F dX3_readNumber_27 ?_ rfl rfl rfl
          have hd2 : ¬ dgP (chA tx tl (a + 1)) = true := fun z => by have := (dg _).mp z; omega
          exact ⟨by unfold nuN; rw [if_pos hd1, if_neg hd2], by unfold nuA; rw [if_pos hd1, if_neg hd2]; exact h2⟩
  have l0 : XX Γ 4 (VC nh) ad (vl ad μ) 0 0 4 [(0, .ref (ad (15, 0, 0))), (1, .int (I (-1))), (2, .int (I 0))] [] := by
    refine x_iload_n (i := 2) (pc := 4) F dX3_readNumber_4 rfl rfl ?_
    refine x_iconst (pc := 5) F dX3_readNumber_5 ?_
    refine x_icmp_ge (tgt := 58) (pc := 6) F dX3_readNumber_6 rfl (by omega) (fun h6 => ?_) (fun h6 => ?_)
    · exfalso; omega
    · refine x_aload_n (i := 0) (pc := 9) F dX3_readNumber_9 rfl rfl ?_
      refine x_V0i (ci := 3) (pc := 10) F dX3_readNumber_10 lk_X3_90 rfl (v_15 (by omega)) rfl rfl (c_X3_signAt hX ha (by omega)) rfl rfl rfl ?_
      rintro _ _ ⟨rfl, rfl⟩
      refine x_istore_n (i := 3) (pc := 13) F dX3_readNumber_13 rfl rfl ?_
      refine x_iload_n (i := 3) (pc := 14) F dX3_readNumber_14 rfl rfl ?_
      refine x_bipush (pc := 15) F dX3_readNumber_15 (by decide) ?_
      refine x_icmp_lt (tgt := 26) (pc := 17) F dX3_readNumber_17 rfl (by omega) (fun h17 => ?_) (fun h17 => ?_)
      · refine x_iload_n (i := 1) (pc := 26) F dX3_readNumber_26 rfl rfl ?_
        refine tq_reti (pc := 27) F dX3_readNumber_27 ?_ rfl rfl rfl
        have hd1 : ¬ dgP (chA tx tl a) = true := fun z => by have := (dg _).mp z; omega
        exact ⟨by unfold nuN; rw [if_neg hd1], by unfold nuA; rw [if_neg hd1]; exact PL.refl ha⟩
      · refine x_iload_n (i := 3) (pc := 20) F dX3_readNumber_20 rfl rfl ?_
        refine x_bipush (pc := 21) F dX3_readNumber_21 (by decide) ?_
        refine x_icmp_le (tgt := 28) (pc := 23) F dX3_readNumber_23 rfl (by omega) (fun h23 => ?_) (fun h23 => ?_)
        · refine x_iload_n (i := 1) (pc := 28) F dX3_readNumber_28 rfl rfl ?_
          refine x_iconst (pc := 29) F dX3_readNumber_29 ?_
          refine tq_max (pc := 30) F dX3_readNumber_30 kw_557 rfl rfl rfl rfl (by omega) ?_
          refine x_bipush (pc := 33) F dX3_readNumber_33 (by decide) ?_
          refine x_imul (pc := 35) F dX3_readNumber_35 ?_
          refine x_iload_n (i := 3) (pc := 36) F dX3_readNumber_36 rfl rfl ?_
          refine x_bipush (pc := 37) F dX3_readNumber_37 (by decide) ?_
          refine x_isub (pc := 39) F dX3_readNumber_39 ?_
          refine x_iadd (pc := 40) F dX3_readNumber_40 ?_
          refine x_istore_n (i := 1) (pc := 41) F dX3_readNumber_41 rfl rfl ?_
          refine x_aload_n (i := 0) (pc := 42) F dX3_readNumber_42 rfl rfl ?_
          refine x_dup (pc := 43) F dX3_readNumber_43 rfl ?_
          refine gf_X3_24 (pc := 44) F dX3_readNumber_44 (v_15 (by omega)) ?_
          rw [ha]
          refine x_iconst (pc := 47) F dX3_readNumber_47 ?_
          refine x_iadd (pc := 48) F dX3_readNumber_48 ?_
          refine pf_X3_24 (pc := 49) F dX3_readNumber_49 (v_15 (by omega)) ?_
          refine x_iinc (pc := 52) F dX3_readNumber_52 rfl rfl ?_
          refine x_goto (tgt := 4) (pc := 55) F dX3_readNumber_55 rfl ?_
          exact x_sub (L' := [(0, .ref (ad (15, 0, 0))), (1, .int (I (chA tx tl a - 48))), (2, .int (I 1)), (3, .int (I (chA tx tl a)))]) ⟨rfl, lk_i rfl (by omega), rfl, rfl, trivial⟩ (l1 _ _ (by omega) (PL.up _ _))
        · refine x_iload_n (i := 1) (pc := 26) F dX3_readNumber_26 rfl rfl ?_
          refine tq_reti (pc := 27) F dX3_readNumber_27 ?_ rfl rfl rfl
          have hd1 : ¬ dgP (chA tx tl a) = true := fun z => by have := (dg _).mp z; omega
          exact ⟨by unfold nuN; rw [if_neg hd1], by unfold nuA; rw [if_neg hd1]; exact PL.refl ha⟩
  refine x_iconst (pc := 0) F dX3_readNumber_0 ?_
  refine x_istore_n (i := 1) (pc := 1) F dX3_readNumber_1 rfl rfl ?_
  refine x_iconst (pc := 2) F dX3_readNumber_2 ?_
  refine x_istore_n (i := 2) (pc := 3) F dX3_readNumber_3 rfl rfl ?_
  exact x_sub (L' := [(0, .ref (ad (15, 0, 0))), (1, .int (I (-1))), (2, .int (I 0))]) ⟨rfl, rfl, rfl, trivial⟩ l0
end READ
