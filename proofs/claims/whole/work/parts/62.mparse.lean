/-! ===== the reference reads a text: signs, numbers, tests ===== -/
/-- the text tx of tl signs is read, at a; w: well -/
def RM (μ : Me) (tx : Tn) (tl a w : Int) : Prop := (μ (30, 0, 0) 10 = tl ∧ 0 ≤ tl ∧ tl ≤ 100) ∧ (∀ k, 0 ≤ k → k < tl → μ (37, 0, 0) k = tx k ∧ 0 ≤ tx k ∧ tx k < 128) ∧ (μ (30, 0, 0) 11 = a ∧ 0 ≤ a ∧ a ≤ tl) ∧ μ (30, 0, 0) 12 = w ∧ 0 ≤ w ∧ w ≤ 1
/-- only at and well moved -/
def MV (μ μ' : Me) (a w : Int) : Prop := μ' (30, 0, 0) 11 = a ∧ μ' (30, 0, 0) 12 = w ∧ (∀ k, k ≠ 11 → k ≠ 12 → μ' (30, 0, 0) k = μ (30, 0, 0) k) ∧ ∀ o, o ≠ (30, 0, 0) → μ' o = μ o
theorem MV.trans {μ μ1 μ2 : Me} {a w a2 w2 : Int} (h : MV μ μ1 a w) (h2 : MV μ1 μ2 a2 w2) : MV μ μ2 a2 w2 := ⟨h2.1, h2.2.1, fun k k1 k2 => by rw [h2.2.2.1 k k1 k2, h.2.2.1 k k1 k2], fun o ho => by rw [h2.2.2.2 o ho, h.2.2.2 o ho]⟩
theorem MV.at {μ : Me} {tx : Tn} {tl a w b : Int} (h : RM μ tx tl a w) : MV μ (upM μ (30, 0, 0) 11 b) b w := ⟨by rw [upM_i, if_pos rfl], by rw [upM_i, if_neg (by decide)]; exact h.2.2.2.1, fun k k1 _ => by rw [upM_i, if_neg k1], fun o ho => upM_ne ho⟩
theorem MV.no {μ : Me} {tx : Tn} {tl a w : Int} (h : RM μ tx tl a w) : MV μ (upM μ (30, 0, 0) 12 0) a 0 := ⟨by rw [upM_i, if_neg (by decide)]; exact h.2.2.1.1, by rw [upM_i, if_pos rfl], fun k _ k2 => by rw [upM_i, if_neg k2], fun o ho => upM_ne ho⟩
theorem MV.refl {μ : Me} {tx : Tn} {tl a w : Int} (h : RM μ tx tl a w) : MV μ μ a w := ⟨h.2.2.1.1, h.2.2.2.1, fun _ _ _ => rfl, fun _ _ => rfl⟩
theorem RM.mv {μ μ' : Me} {tx : Tn} {tl a w b w2 : Int} (h : RM μ tx tl a w) (e : MV μ μ' b w2) (hb : (0 ≤ b ∧ b ≤ tl) ∧ 0 ≤ w2 ∧ w2 ≤ 1) : RM μ' tx tl b w2 := by
  obtain ⟨h1, h2, -, -⟩ := h
  refine ⟨by rw [e.2.2.1 10 (by decide) (by decide)]; exact h1, fun k x y => ?_, ⟨e.1, hb.1⟩, e.2.1, hb.2⟩
  rw [e.2.2.2 _ (by simp)]
  exact h2 k x y
theorem RM.ch {μ : Me} {tx : Tn} {tl a w b : Int} (h : RM μ tx tl a w) (hb : 0 ≤ b) : -1 ≤ chA tx tl b ∧ chA tx tl b < 128 ∧ (b < tl → chA tx tl b = μ (37, 0, 0) b) ∧ (¬ b < tl → chA tx tl b = -1) := by
  unfold chA
  by_cases q : b < tl
  · have := h.2.1 b hb q
    rw [if_pos q]
    exact ⟨by omega, by omega, fun _ => this.1.symm, fun z => absurd q z⟩
  · rw [if_neg q]
    exact ⟨by omega, by omega, fun z => absurd z q, fun _ => rfl⟩
def ltr (k : Int) : Int := if k = 0 then 112 else if k = 1 then 107 else if k = 2 then 118 else if k = 3 then 103 else if k = 4 then 116 else 100
theorem ltr_lx {c k : Int} (hk : 0 ≤ k ∧ k < 6) : c = ltr k ↔ lxT c = k := by
  have h : ∀ k < 6, lxT (ltr ((k : Nat) : Int)) = k := by decide
  have h1 := h k.toNat (by omega)
  rw [toNat_c hk.1] at h1
  constructor
  · rintro rfl
    exact h1
  · intro e
    unfold lxT at e
    unfold ltr
    (repeat' split at e) <;> (try omega) <;> subst e <;> simp <;> assumption
theorem ltr_rg (k : Int) : 0 ≤ ltr k ∧ ltr k < 128 := by unfold ltr; (repeat' split) <;> omega
/-- the letters and the words, the names' values -/
def MS (μ : Me) : Prop := (∀ k, 0 ≤ k → k < 6 → μ (39, 0, 0) k = ltr k) ∧ ∀ w k : Nat, w < 4 → k < 6 → μ (40, 0, 0) (6 * (w : Int) + k) = (wdL (w : Int)).getD k 0
def NM (μ : Me) (vals : Tn) : Prop := MS μ ∧ ∀ k, 0 ≤ k → k < 6 → μ (38, 0, 0) k = vals k ∧ -2147483648 ≤ vals k ∧ vals k < 2147483648
theorem MS.mv {μ μ' : Me} {b w : Int} (h : MS μ) (e : MV μ μ' b w) : MS μ' := by
  unfold MS
  rw [e.2.2.2 (39, 0, 0) (by simp), e.2.2.2 (40, 0, 0) (by simp)]
  exact h
theorem NM.mv {μ μ' : Me} {b w : Int} {vals : Tn} (h : NM μ vals) (e : MV μ μ' b w) : NM μ' vals := by
  refine ⟨h.1.mv e, ?_⟩
  rw [e.2.2.2 (38, 0, 0) (by simp)]
  exact h.2
/-- what a reading leaves -/
def MO (μ μ' : Me) (r : Rd) (vals : Tn) (z : Bool) : Prop := MV μ μ' r.2.1 (bI r.1) ∧ (r.1 = true → z = r.2.2.2 vals)
section MP
variable {ad : Ob → Nat} {μ : Me} {tx vals : Tn} {tl a w : Int}
set_option maxRecDepth 20000 in
theorem c_X8_isAt (hR : RM μ tx tl a w) (c : Int) (hc : 0 ≤ c ∧ c < 128) (l : Launch) (E : Ev) (A : Nat → Prop) : Con l E 0 m_X8_isAt A VM ad μ [.ref (ad (30, 0, 0)), .int (I c)] (pz fun z μ' => z = decide (w = 1 ∧ chA tx tl a = c) ∧ μ = μ') := by
  have hch := hR.ch hR.2.2.1.2.1
  obtain ⟨s1, s2, ⟨a1, a2, a3⟩, w1, w2, w3⟩ := id hR
  have hg := s2 a a2
  refine con (own := RX8) (by decide +kernel) rfl rfl rfl (fun Γ F => ?_)
  refine x_aload_n (i := 0) (pc := 0) F dX8_isAt_0 rfl rfl ?_
  refine gf_X8_125 (pc := 1) F dX8_isAt_1 (vm_ok rfl) ?_
  refine x_if_eq (tgt := 35) (pc := 4) F dX8_isAt_4 rfl (by omega) (fun h4 => ?_) (fun h4 => ?_)
  · refine x_iconst (pc := 35) F dX8_isAt_35 ?_
    refine tq_retz (b := false) (pc := 36) F dX8_isAt_36 ?_ rfl rfl rfl
    exact ⟨by simp only [Bool.true_eq, Bool.false_eq, decide_eq_true_eq, decide_eq_false_iff_not]; first | omega | (have := hch.2.2.1 (by omega); omega) | (have := hch.2.2.2 (by omega); omega), rfl⟩
  · refine x_aload_n (i := 0) (pc := 7) F dX8_isAt_7 rfl rfl ?_
    refine gf_X8_128 (pc := 8) F dX8_isAt_8 (vm_ok rfl) ?_
    refine x_aload_n (i := 0) (pc := 11) F dX8_isAt_11 rfl rfl ?_
    refine gf_X8_131 (pc := 12) F dX8_isAt_12 (vm_ok rfl) ?_
    refine x_icmp_ge (tgt := 35) (pc := 15) F dX8_isAt_15 rfl (by omega) (fun h15 => ?_) (fun h15 => ?_)
    · refine x_iconst (pc := 35) F dX8_isAt_35 ?_
      refine tq_retz (b := false) (pc := 36) F dX8_isAt_36 ?_ rfl rfl rfl
      exact ⟨by simp only [Bool.true_eq, Bool.false_eq, decide_eq_true_eq, decide_eq_false_iff_not]; first | omega | (have := hch.2.2.1 (by omega); omega) | (have := hch.2.2.2 (by omega); omega), rfl⟩
    · have hg := hg (by omega)
      refine x_aload_n (i := 0) (pc := 18) F dX8_isAt_18 rfl rfl ?_
      refine gf_X8_30 (pc := 19) F dX8_isAt_19 (vm_ok rfl) ?_
      refine x_aload_n (i := 0) (pc := 22) F dX8_isAt_22 rfl rfl ?_
      refine gf_X8_128 (pc := 23) F dX8_isAt_23 (vm_ok rfl) ?_
      refine tq_ia (pc := 26) F dX8_isAt_26 (vm_ok rfl) rfl (fun _ => rfl) (by omega) ?_
      rw [a1]
      refine x_iload_n (i := 1) (pc := 27) F dX8_isAt_27 rfl rfl ?_
      refine x_icmp_ne (tgt := 35) (pc := 28) F dX8_isAt_28 rfl (by omega) (fun h28 => ?_) (fun h28 => ?_)
      · refine x_iconst (pc := 35) F dX8_isAt_35 ?_
        refine tq_retz (b := false) (pc := 36) F dX8_isAt_36 ?_ rfl rfl rfl
        exact ⟨by simp only [Bool.true_eq, Bool.false_eq, decide_eq_true_eq, decide_eq_false_iff_not]; first | omega | (have := hch.2.2.1 (by omega); omega) | (have := hch.2.2.2 (by omega); omega), rfl⟩
      · refine x_iconst (pc := 31) F dX8_isAt_31 ?_
        refine x_goto (tgt := 36) (pc := 32) F dX8_isAt_32 rfl ?_
        refine tq_retz (b := true) (pc := 36) F dX8_isAt_36 ?_ rfl rfl rfl
        exact ⟨by simp only [Bool.true_eq, Bool.false_eq, decide_eq_true_eq, decide_eq_false_iff_not]; first | omega | (have := hch.2.2.1 (by omega); omega) | (have := hch.2.2.2 (by omega); omega), rfl⟩
set_option maxRecDepth 20000 in
theorem c_X8_takes (hR : RM μ tx tl a w) (c : Int) (hc : 0 ≤ c ∧ c < 128) (l : Launch) (E : Ev) (A : Nat → Prop) : Con l E 1 m_X8_takes A VM ad μ [.ref (ad (30, 0, 0)), .int (I c)] (pv fun μ' => MV μ μ' (if w = 1 ∧ chA tx tl a = c then a + 1 else a) (if w = 1 ∧ chA tx tl a = c then 1 else 0)) := by
  refine con (own := RX8) (by decide +kernel) rfl rfl rfl (fun Γ F => ?_)
  refine x_aload_n (i := 0) (pc := 0) F dX8_takes_0 rfl rfl ?_
  refine x_iload_n (i := 1) (pc := 1) F dX8_takes_1 rfl rfl ?_
  refine x_V1z (ci := 8) (pc := 2) F dX8_takes_2 lk_X8_134 rfl (vm_ok rfl) rfl rfl (c_X8_isAt hR c hc) rfl rfl rfl ?_
  rintro _ _ ⟨rfl, rfl⟩
  refine x_if_eqB (tgt := 21) (pc := 5) F dX8_takes_5 rfl (fun h5 => ?_) (fun h5 => ?_)
  · try simp only [decide_eq_true_eq, decide_eq_false_iff_not, Bool.and_eq_true, Bool.or_eq_true, Bool.not_eq_true', Bool.not_eq_false', Bool.and_eq_false_iff, Bool.or_eq_false_iff] at h5
    refine x_aload_n (i := 0) (pc := 21) F dX8_takes_21 rfl rfl ?_
    refine x_iconst (pc := 22) F dX8_takes_22 ?_
    refine pf_X8_125 (pc := 23) F dX8_takes_23 (vm_ok rfl) (by decide) (by decide) ?_
    refine tq_retv (pc := 26) F dX8_takes_26 ?_ rfl rfl rfl
    first | (rw [if_pos h5, if_pos h5, hR.2.2.1.1]; have q := MV.at (b := a + 1) hR; rw [h5.1] at q; exact q) | (rw [if_neg (by omega), if_neg (by omega)]; exact MV.no hR)
  · try simp only [decide_eq_true_eq, decide_eq_false_iff_not, Bool.and_eq_true, Bool.or_eq_true, Bool.not_eq_true', Bool.not_eq_false', Bool.and_eq_false_iff, Bool.or_eq_false_iff] at h5
    refine x_aload_n (i := 0) (pc := 8) F dX8_takes_8 rfl rfl ?_
    refine x_dup (pc := 9) F dX8_takes_9 rfl ?_
    refine gf_X8_128 (pc := 10) F dX8_takes_10 (vm_ok rfl) ?_
    refine x_iconst (pc := 13) F dX8_takes_13 ?_
    refine x_iadd (pc := 14) F dX8_takes_14 ?_
    refine pf_X8_128 (pc := 15) F dX8_takes_15 (vm_ok rfl) ?_
    refine x_goto (tgt := 26) (pc := 18) F dX8_takes_18 rfl ?_
    refine tq_retv (pc := 26) F dX8_takes_26 ?_ rfl rfl rfl
    first | (rw [if_pos h5, if_pos h5, hR.2.2.1.1]; have q := MV.at (b := a + 1) hR; rw [h5.1] at q; exact q) | (rw [if_neg (by omega), if_neg (by omega)]; exact MV.no hR)
set_option maxRecDepth 20000 in
theorem c_X8_isDigit (hR : RM μ tx tl a w) (l : Launch) (E : Ev) (A : Nat → Prop) : Con l E 0 m_X8_isDigit A VM ad μ [.ref (ad (30, 0, 0))] (pz fun z μ' => z = decide (w = 1 ∧ dgP (chA tx tl a) = true) ∧ μ = μ') := by
  have hch := hR.ch hR.2.2.1.2.1
  obtain ⟨s1, s2, ⟨a1, a2, a3⟩, w1, w2, w3⟩ := id hR
  have hg := s2 a a2
  have dg : dgP (chA tx tl a) = true ↔ 48 ≤ chA tx tl a ∧ chA tx tl a ≤ 57 := by simp [dgP]
  refine con (own := RX8) (by decide +kernel) rfl rfl rfl (fun Γ F => ?_)
  refine x_aload_n (i := 0) (pc := 0) F dX8_isDigit_0 rfl rfl ?_
  refine gf_X8_125 (pc := 1) F dX8_isDigit_1 (vm_ok rfl) ?_
  refine x_if_eq (tgt := 50) (pc := 4) F dX8_isDigit_4 rfl (by omega) (fun h4 => ?_) (fun h4 => ?_)
  · refine x_iconst (pc := 50) F dX8_isDigit_50 ?_
    refine tq_retz (b := false) (pc := 51) F dX8_isDigit_51 ?_ rfl rfl rfl
    exact ⟨by simp only [Bool.true_eq, Bool.false_eq, decide_eq_true_eq, decide_eq_false_iff_not, dg]; first | omega | (have := hch.2.2.1 (by omega); omega) | (have := hch.2.2.2 (by omega); omega), rfl⟩
  · refine x_aload_n (i := 0) (pc := 7) F dX8_isDigit_7 rfl rfl ?_
    refine gf_X8_128 (pc := 8) F dX8_isDigit_8 (vm_ok rfl) ?_
    refine x_aload_n (i := 0) (pc := 11) F dX8_isDigit_11 rfl rfl ?_
    refine gf_X8_131 (pc := 12) F dX8_isDigit_12 (vm_ok rfl) ?_
    refine x_icmp_ge (tgt := 50) (pc := 15) F dX8_isDigit_15 rfl (by omega) (fun h15 => ?_) (fun h15 => ?_)
    · refine x_iconst (pc := 50) F dX8_isDigit_50 ?_
      refine tq_retz (b := false) (pc := 51) F dX8_isDigit_51 ?_ rfl rfl rfl
      exact ⟨by simp only [Bool.true_eq, Bool.false_eq, decide_eq_true_eq, decide_eq_false_iff_not, dg]; first | omega | (have := hch.2.2.1 (by omega); omega) | (have := hch.2.2.2 (by omega); omega), rfl⟩
    · have hg := hg (by omega)
      refine x_aload_n (i := 0) (pc := 18) F dX8_isDigit_18 rfl rfl ?_
      refine gf_X8_30 (pc := 19) F dX8_isDigit_19 (vm_ok rfl) ?_
      refine x_aload_n (i := 0) (pc := 22) F dX8_isDigit_22 rfl rfl ?_
      refine gf_X8_128 (pc := 23) F dX8_isDigit_23 (vm_ok rfl) ?_
      refine tq_ia (pc := 26) F dX8_isDigit_26 (vm_ok rfl) rfl (fun _ => rfl) (by omega) ?_
      rw [a1]
      refine x_bipush (pc := 27) F dX8_isDigit_27 (by decide) ?_
      refine x_icmp_lt (tgt := 50) (pc := 29) F dX8_isDigit_29 rfl (by omega) (fun h29 => ?_) (fun h29 => ?_)
      · refine x_iconst (pc := 50) F dX8_isDigit_50 ?_
        refine tq_retz (b := false) (pc := 51) F dX8_isDigit_51 ?_ rfl rfl rfl
        exact ⟨by simp only [Bool.true_eq, Bool.false_eq, decide_eq_true_eq, decide_eq_false_iff_not, dg]; first | omega | (have := hch.2.2.1 (by omega); omega) | (have := hch.2.2.2 (by omega); omega), rfl⟩
      · refine x_aload_n (i := 0) (pc := 32) F dX8_isDigit_32 rfl rfl ?_
        refine gf_X8_30 (pc := 33) F dX8_isDigit_33 (vm_ok rfl) ?_
        refine x_aload_n (i := 0) (pc := 36) F dX8_isDigit_36 rfl rfl ?_
        refine gf_X8_128 (pc := 37) F dX8_isDigit_37 (vm_ok rfl) ?_
        refine tq_ia (pc := 40) F dX8_isDigit_40 (vm_ok rfl) rfl (fun _ => rfl) (by omega) ?_
        rw [a1]
        refine x_bipush (pc := 41) F dX8_isDigit_41 (by decide) ?_
        refine x_icmp_gt (tgt := 50) (pc := 43) F dX8_isDigit_43 rfl (by omega) (fun h43 => ?_) (fun h43 => ?_)
        · refine x_iconst (pc := 50) F dX8_isDigit_50 ?_
          refine tq_retz (b := false) (pc := 51) F dX8_isDigit_51 ?_ rfl rfl rfl
          exact ⟨by simp only [Bool.true_eq, Bool.false_eq, decide_eq_true_eq, decide_eq_false_iff_not, dg]; first | omega | (have := hch.2.2.1 (by omega); omega) | (have := hch.2.2.2 (by omega); omega), rfl⟩
        · refine x_iconst (pc := 46) F dX8_isDigit_46 ?_
          refine x_goto (tgt := 51) (pc := 47) F dX8_isDigit_47 rfl ?_
          refine tq_retz (b := true) (pc := 51) F dX8_isDigit_51 ?_ rfl rfl rfl
          exact ⟨by simp only [Bool.true_eq, Bool.false_eq, decide_eq_true_eq, decide_eq_false_iff_not, dg]; first | omega | (have := hch.2.2.1 (by omega); omega) | (have := hch.2.2.2 (by omega); omega), rfl⟩
set_option maxRecDepth 20000 in
theorem c_X8_number (hR : RM μ tx tl a w) (l : Launch) (E : Ev) (A : Nat → Prop) : Con l E 1 m_X8_number A VM ad μ [.ref (ad (30, 0, 0))] (pi fun z μ' => z = (if w = 1 ∧ nuN tx tl a ≠ -1 then nuN tx tl a else 0) ∧ MV μ μ' (if w = 1 then nuA tx tl a else a) (if w = 1 ∧ nuN tx tl a ≠ -1 then 1 else 0)) := by
  have hch := hR.ch hR.2.2.1.2.1
  have hch1 := hR.ch (b := a + 1) (by have := hR.2.2.1.2.1; omega)
  obtain ⟨s1, s2, ⟨a1, a2, a3⟩, w1, w2, w3⟩ := id hR
  have dg : ∀ c, dgP c = true ↔ 48 ≤ c ∧ c ≤ 57 := fun c => by simp [dgP]
  refine con (own := RX8) (by decide +kernel) rfl rfl rfl (fun Γ F => ?_)
  refine x_aload_n (i := 0) (pc := 0) F dX8_number_0 rfl rfl ?_
  refine x_V0z (ci := 8) (pc := 1) F dX8_number_1 lk_X8_137 rfl (vm_ok rfl) rfl rfl (c_X8_isDigit hR) rfl rfl rfl ?_
  rintro _ _ ⟨rfl, rfl⟩
  refine x_if_neB (tgt := 14) (pc := 4) F dX8_number_4 rfl (fun h4 => ?_) (fun h4 => ?_)
  · try simp only [decide_eq_true_eq, decide_eq_false_iff_not, Bool.and_eq_true, Bool.or_eq_true, Bool.not_eq_true', Bool.not_eq_false', Bool.and_eq_false_iff, Bool.or_eq_false_iff] at h4
    obtain ⟨hw, hd⟩ := h4
    have hd' := (dg _).mp hd
    have l0 : a < tl := chA_lt (tx := tx) (by omega)
    have hc0 := hch.2.2.1 l0
    refine x_aload_n (i := 0) (pc := 14) F dX8_number_14 rfl rfl ?_
    refine gf_X8_30 (pc := 15) F dX8_number_15 (vm_ok rfl) ?_
    refine x_aload_n (i := 0) (pc := 18) F dX8_number_18 rfl rfl ?_
    refine gf_X8_128 (pc := 19) F dX8_number_19 (vm_ok rfl) ?_
    refine tq_ia (pc := 22) F dX8_number_22 (vm_ok rfl) rfl (fun _ => rfl) (by omega) ?_
    rw [a1, ← hc0]
    refine x_bipush (pc := 23) F dX8_number_23 (by decide) ?_
    refine x_isub (pc := 25) F dX8_number_25 ?_
    refine x_istore_n (i := 1) (pc := 26) F dX8_number_26 rfl rfl ?_
    refine x_aload_n (i := 0) (pc := 27) F dX8_number_27 rfl rfl ?_
    refine x_dup (pc := 28) F dX8_number_28 rfl ?_
    refine gf_X8_128 (pc := 29) F dX8_number_29 (vm_ok rfl) ?_
    refine x_iconst (pc := 32) F dX8_number_32 ?_
    rw [a1]
    refine x_iadd (pc := 33) F dX8_number_33 ?_
    refine pf_X8_128 (pc := 34) F dX8_number_34 (vm_ok rfl) ?_
    have q1 : MV μ (upM μ (30, 0, 0) 11 (a + 1)) (a + 1) w := MV.at hR
    have hR1 := hR.mv q1 (by omega)
    refine x_aload_n (i := 0) (pc := 37) F dX8_number_37 rfl rfl ?_
    refine x_V0z (ci := 8) (pc := 38) F dX8_number_38 lk_X8_137 rfl (vm_ok rfl) rfl rfl (c_X8_isDigit hR1) rfl rfl rfl ?_
    rintro _ _ ⟨rfl, rfl⟩
    refine x_if_eqB (tgt := 72) (pc := 41) F dX8_number_41 rfl (fun h41 => ?_) (fun h41 => ?_)
    · try simp only [decide_eq_true_eq, decide_eq_false_iff_not, Bool.and_eq_true, Bool.or_eq_true, Bool.not_eq_true', Bool.not_eq_false', Bool.and_eq_false_iff, Bool.or_eq_false_iff] at h41
      refine x_iload_n (i := 1) (pc := 72) F dX8_number_72 rfl rfl ?_
      refine tq_reti (pc := 73) F dX8_number_73 ?_ rfl rfl rfl
      first | (have hd2' : ¬ dgP (chA tx tl (a + 1)) = true := (fun q => by first | (exact h41 ⟨hw, q⟩) | (rcases h41 with h41 | h41; exact h41 hw; exact h41 q)); have en : nuN tx tl a = chA tx tl a - 48 := (by unfold nuN; rw [if_pos hd, if_neg hd2']); have ea : nuA tx tl a = a + 1 := (by unfold nuA; rw [if_pos hd, if_neg hd2']); rw [if_pos hw, if_pos ⟨hw, by omega⟩, if_pos ⟨hw, by omega⟩, ea, en]; rw [hw] at q1; exact ⟨rfl, q1⟩) | (have en : nuN tx tl a = 10 * (chA tx tl a - 48) + (chA tx tl (a + 1) - 48) := (by unfold nuN; rw [if_pos hd, if_pos h41.2]); have ea : nuA tx tl a = a + 2 := (by unfold nuA; rw [if_pos hd, if_pos h41.2]); rw [if_pos hw, if_pos ⟨hw, by omega⟩, if_pos ⟨hw, by omega⟩, ea, en]; have q2 : MV _ _ (a + 1 + 1) w := MV.at hR1; rw [hw] at q2; exact ⟨by omega, by rw [show a + 2 = a + 1 + 1 by omega]; exact q1.trans q2⟩)
    · try simp only [decide_eq_true_eq, decide_eq_false_iff_not, Bool.and_eq_true, Bool.or_eq_true, Bool.not_eq_true', Bool.not_eq_false', Bool.and_eq_false_iff, Bool.or_eq_false_iff] at h41
      have hd2 := (dg _).mp h41.2
      have l1 : a + 1 < tl := chA_lt (tx := tx) (by omega)
      have hc1 := hch1.2.2.1 l1
      refine x_bipush (pc := 44) F dX8_number_44 (by decide) ?_
      refine x_iload_n (i := 1) (pc := 46) F dX8_number_46 rfl rfl ?_
      refine x_imul (pc := 47) F dX8_number_47 ?_
      refine x_aload_n (i := 0) (pc := 48) F dX8_number_48 rfl rfl ?_
      refine gf_X8_30 (pc := 49) F dX8_number_49 (vm_ok rfl) ?_
      refine x_aload_n (i := 0) (pc := 52) F dX8_number_52 rfl rfl ?_
      refine gf_X8_128 (pc := 53) F dX8_number_53 (vm_ok rfl) ?_
      rw [hR1.2.2.1.1]
      refine tq_ia (pc := 56) F dX8_number_56 (vm_ok rfl) rfl (fun _ => rfl) (by omega) ?_
      rw [q1.2.2.2 _ (by simp), ← hc1]
      refine x_iadd (pc := 57) F dX8_number_57 ?_
      refine x_bipush (pc := 58) F dX8_number_58 (by decide) ?_
      refine x_isub (pc := 60) F dX8_number_60 ?_
      refine x_istore_n (i := 1) (pc := 61) F dX8_number_61 rfl rfl ?_
      refine x_aload_n (i := 0) (pc := 62) F dX8_number_62 rfl rfl ?_
      refine x_dup (pc := 63) F dX8_number_63 rfl ?_
      refine gf_X8_128 (pc := 64) F dX8_number_64 (vm_ok rfl) ?_
      refine x_iconst (pc := 67) F dX8_number_67 ?_
      rw [hR1.2.2.1.1]
      refine x_iadd (pc := 68) F dX8_number_68 ?_
      refine pf_X8_128 (pc := 69) F dX8_number_69 (vm_ok rfl) ?_
      refine x_iload_n (i := 1) (pc := 72) F dX8_number_72 rfl rfl ?_
      refine tq_reti (pc := 73) F dX8_number_73 ?_ rfl rfl rfl
      first | (have hd2' : ¬ dgP (chA tx tl (a + 1)) = true := (fun q => by first | (exact h41 ⟨hw, q⟩) | (rcases h41 with h41 | h41; exact h41 hw; exact h41 q)); have en : nuN tx tl a = chA tx tl a - 48 := (by unfold nuN; rw [if_pos hd, if_neg hd2']); have ea : nuA tx tl a = a + 1 := (by unfold nuA; rw [if_pos hd, if_neg hd2']); rw [if_pos hw, if_pos ⟨hw, by omega⟩, if_pos ⟨hw, by omega⟩, ea, en]; rw [hw] at q1; exact ⟨rfl, q1⟩) | (have en : nuN tx tl a = 10 * (chA tx tl a - 48) + (chA tx tl (a + 1) - 48) := (by unfold nuN; rw [if_pos hd, if_pos h41.2]); have ea : nuA tx tl a = a + 2 := (by unfold nuA; rw [if_pos hd, if_pos h41.2]); rw [if_pos hw, if_pos ⟨hw, by omega⟩, if_pos ⟨hw, by omega⟩, ea, en]; have q2 : MV _ _ (a + 1 + 1) w := MV.at hR1; rw [hw] at q2; exact ⟨by omega, by rw [show a + 2 = a + 1 + 1 by omega]; exact q1.trans q2⟩)
  · try simp only [decide_eq_true_eq, decide_eq_false_iff_not, Bool.and_eq_true, Bool.or_eq_true, Bool.not_eq_true', Bool.not_eq_false', Bool.and_eq_false_iff, Bool.or_eq_false_iff] at h4
    refine x_aload_n (i := 0) (pc := 7) F dX8_number_7 rfl rfl ?_
    refine x_iconst (pc := 8) F dX8_number_8 ?_
    refine pf_X8_125 (pc := 9) F dX8_number_9 (vm_ok rfl) (by decide) (by decide) ?_
    refine x_iconst (pc := 12) F dX8_number_12 ?_
    refine tq_reti (pc := 13) F dX8_number_13 ?_ rfl rfl rfl
    have en : w = 1 → nuN tx tl a = -1 ∧ nuA tx tl a = a := fun z => by
      have : ¬ dgP (chA tx tl a) = true := fun q => by first | (exact h4 ⟨z, q⟩) | (have := h4.resolve_left (by omega); rw [q] at this; cases this) | (rcases h4 with h4 | h4; exact h4 z; exact h4 q)
      unfold nuN nuA; rw [if_neg this, if_neg this]; exact ⟨rfl, rfl⟩
    have key : ¬ (w = 1 ∧ nuN tx tl a ≠ -1) := fun z => z.2 (en z.1).1
    rw [if_neg key, if_neg key]
    have ea : (if w = 1 then nuA tx tl a else a) = a := by split; exact (en (by assumption)).2; rfl
    rw [ea]
    exact ⟨rfl, MV.no hR⟩
set_option maxRecDepth 20000 in
theorem c_X8_test0 (hR : RM μ tx tl a 0) (hN : MS μ) (l : Launch) (E : Ev) (A : Nat → Prop) : Con l E 2 m_X8_test A VM ad μ [.ref (ad (30, 0, 0))] (pz fun z μ' => MV μ μ' a 0) := by
  refine con (own := RX8) (by decide +kernel) rfl rfl rfl (fun Γ F => ?_)
  have loop : ∀ (N k : Nat), 6 - k < N → k ≤ 6 → XX Γ 4 VM ad (vl ad μ) 0 0 4 [(0, .ref (ad (30, 0, 0))), (1, .int (I (-1))), (2, .int (I k))] [] := by
    intro N
    induction N with
    | zero => intro k b1; omega
    | succ N ih =>
      intro k b1 b2
      refine x_iload_n (i := 2) (pc := 4) F dX8_test_4 rfl rfl ?_
      refine x_bipush (pc := 5) F dX8_test_5 (by decide) ?_
      refine x_icmp_ge (tgt := 35) (pc := 7) F dX8_test_7 rfl (by omega) (fun h7 => ?_) (fun h7 => ?_)
      · refine x_iload_n (i := 1) (pc := 35) F dX8_test_35 rfl rfl ?_
        refine x_iconst (pc := 36) F dX8_test_36 ?_
        refine x_icmp_ne (tgt := 47) (pc := 37) F dX8_test_37 rfl (by omega) (fun h37 => ?_) (fun h37 => ?_)
        · exfalso; omega
        · refine x_aload_n (i := 0) (pc := 40) F dX8_test_40 rfl rfl ?_
          refine x_iconst (pc := 41) F dX8_test_41 ?_
          refine pf_X8_125 (pc := 42) F dX8_test_42 (vm_ok rfl) (by decide) (by decide) ?_
          refine x_iconst (pc := 45) F dX8_test_45 ?_
          refine tq_retz (b := false) (pc := 46) F dX8_test_46 ?_ rfl rfl rfl
          exact MV.no hR
      · refine x_aload_n (i := 0) (pc := 10) F dX8_test_10 rfl rfl ?_
        refine x_aload_n (i := 0) (pc := 11) F dX8_test_11 rfl rfl ?_
        refine gf_X8_36 (pc := 12) F dX8_test_12 (vm_ok rfl) ?_
        refine x_iload_n (i := 2) (pc := 15) F dX8_test_15 rfl rfl ?_
        have hl := hN.1 k (by omega) (by omega)
        have hlr := ltr_rg k
        refine tq_ca (pc := 16) F dX8_test_16 (vm_ok rfl) rfl (fun _ => rfl) (by omega) ?_
        rw [hl]
        refine x_V1z (ci := 8) (pc := 17) F dX8_test_17 lk_X8_134 rfl (vm_ok rfl) rfl rfl (c_X8_isAt hR _ (by omega)) rfl rfl rfl ?_
        rintro _ _ ⟨rfl, rfl⟩
        refine x_if_eqB (tgt := 27) (pc := 20) F dX8_test_20 rfl (fun h20 => ?_) (fun h20 => ?_)
        · try simp only [decide_eq_true_eq, decide_eq_false_iff_not, Bool.and_eq_true, Bool.or_eq_true, Bool.not_eq_true', Bool.not_eq_false', Bool.and_eq_false_iff, Bool.or_eq_false_iff] at h20
          refine x_iload_n (i := 1) (pc := 27) F dX8_test_27 rfl rfl ?_
          refine x_istore_n (i := 1) (pc := 28) F dX8_test_28 rfl rfl ?_
          refine x_iinc (pc := 29) F dX8_test_29 rfl rfl ?_
          refine x_goto (tgt := 4) (pc := 32) F dX8_test_32 rfl ?_
          exact x_sub (L' := [(0, .ref (ad (30, 0, 0))), (1, .int (I (-1))), (2, .int (I ((k + 1 : Nat) : Int)))]) ⟨rfl, rfl, rfl, trivial⟩ (ih (k + 1) (by omega) (by omega))
        · try simp only [decide_eq_true_eq, decide_eq_false_iff_not, Bool.and_eq_true, Bool.or_eq_true, Bool.not_eq_true', Bool.not_eq_false', Bool.and_eq_false_iff, Bool.or_eq_false_iff] at h20
          exfalso; omega
  refine x_iconst (pc := 0) F dX8_test_0 ?_
  refine x_istore_n (i := 1) (pc := 1) F dX8_test_1 rfl rfl ?_
  refine x_iconst (pc := 2) F dX8_test_2 ?_
  refine x_istore_n (i := 2) (pc := 3) F dX8_test_3 rfl rfl ?_
  exact x_sub (L' := [(0, .ref (ad (30, 0, 0))), (1, .int (I (-1))), (2, .int (I ((0 : Nat) : Int)))]) ⟨rfl, rfl, rfl, trivial⟩ (loop 7 0 (by omega) (by omega))
set_option maxRecDepth 20000 in
theorem c_X8_test (hR : RM μ tx tl a 1) (hN : NM μ vals) (l : Launch) (E : Ev) (A : Nat → Prop) : Con l E 2 m_X8_test A VM ad μ [.ref (ad (30, 0, 0))] (pz fun z μ' => MO μ μ' (testS tx tl a) vals z) := by
  have hch := hR.ch hR.2.2.1.2.1
  have hch1 := hR.ch (b := a + 1) (by have := hR.2.2.1.2.1; omega)
  have hlx := lxT_rg (chA tx tl a)
  have hsg := sgT_rg (chA tx tl (a + 1))
  obtain ⟨s1, s2, ⟨a1, a2, a3⟩, w1, w2, w3⟩ := id hR
  refine con (own := RX8) (by decide +kernel) rfl rfl rfl (fun Γ F => ?_)
  have l84 : ∀ (c : Int) (μ1 : Me), lxT (chA tx tl a) ≠ -1 → a < tl → MV μ μ1 (a + 1) 1 → (c = -1 ∧ chA tx tl (a + 1) = 60 ∨ c = 1 ∧ chA tx tl (a + 1) = 62 ∨ c = 0 ∧ chA tx tl (a + 1) ≠ 60 ∧ chA tx tl (a + 1) ≠ 62) → XX Γ 4 VM ad (vl ad μ1) 0 0 84 [(0, .ref (ad (30, 0, 0))), (1, .int (I (lxT (chA tx tl a))))] [.int (I c)] := by
    intro c μ1 hl0 l0 q1 hc
    have hR1 := hR.mv q1 (by omega)
    have hsg1 : (if chA tx tl (a + 1) = 60 then (0 : Int) else if chA tx tl (a + 1) = 61 then 1 else if chA tx tl (a + 1) = 62 then 2 else -1) = sgT (chA tx tl (a + 1)) := rfl
    have hn2 : a + 2 ≤ tl → (nuN tx tl (a + 2) = -1 ∧ nuA tx tl (a + 2) = a + 2) ∨ (0 ≤ nuN tx tl (a + 2) ∧ nuN tx tl (a + 2) ≤ 99 ∧ a + 2 + 1 ≤ nuA tx tl (a + 2) ∧ nuA tx tl (a + 2) ≤ tl) := fun q => nu_rg (tx := tx) (a + 2) q
    have l1 : sgT (chA tx tl (a + 1)) ≠ -1 → a + 1 < tl := fun z => chA_lt (tx := tx) (fun q => z (by rw [q]; rfl))
    refine x_istore_n (i := 2) (pc := 84) F dX8_test_84 rfl rfl ?_
    refine x_aload_n (i := 0) (pc := 85) F dX8_test_85 rfl rfl ?_
    refine x_iload_n (i := 2) (pc := 86) F dX8_test_86 rfl rfl ?_
    refine x_if_ge (tgt := 95) (pc := 87) F dX8_test_87 rfl (by omega) (fun h87 => ?_) (fun h87 => ?_)
    · refine x_iload_n (i := 2) (pc := 95) F dX8_test_95 rfl rfl ?_
      refine x_if_le (tgt := 104) (pc := 96) F dX8_test_96 rfl (by omega) (fun h96 => ?_) (fun h96 => ?_)
      · refine x_bipush (pc := 104) F dX8_test_104 (by decide) ?_
        refine x_V1v (ci := 8) (pc := 106) F dX8_test_106 lk_X8_141 rfl (vm_ok rfl) rfl rfl (c_X8_takes hR1 _ (by omega)) rfl rfl rfl ?_
        rintro μ2 p2
        have p2' : MV μ1 μ2 (if sgT (chA tx tl (a + 1)) = -1 then a + 1 else a + 2) (if sgT (chA tx tl (a + 1)) = -1 then 0 else 1) := by
          by_cases q : sgT (chA tx tl (a + 1)) = -1
          · rw [if_pos q, if_pos q]; rw [if_neg (by (repeat' split at hsg1) <;> omega), if_neg (by (repeat' split at hsg1) <;> omega)] at p2; exact p2
          · rw [if_neg q, if_neg q]; rw [if_pos (by (repeat' split at hsg1) <;> omega), if_pos (by (repeat' split at hsg1) <;> omega), show a + 1 + 1 = a + 2 by omega] at p2; exact p2
        have hR2 := hR1.mv p2' (by by_cases q : sgT (chA tx tl (a + 1)) = -1; (rw [if_pos q, if_pos q]; omega); (rw [if_neg q, if_neg q]; have := l1 q; omega))
        refine x_aload_n (i := 0) (pc := 109) F dX8_test_109 rfl rfl ?_
        refine x_V0i (ci := 8) (pc := 110) F dX8_test_110 lk_X8_145 rfl (vm_ok rfl) rfl rfl (c_X8_number hR2) rfl rfl rfl ?_
        rintro z μ3 ⟨ez, p3⟩
        have hv : μ3 (38, 0, 0) (lxT (chA tx tl a)) = vals (lxT (chA tx tl a)) ∧ -2147483648 ≤ vals (lxT (chA tx tl a)) ∧ vals (lxT (chA tx tl a)) < 2147483648 := by rw [p3.2.2.2 _ (by simp), p2.2.2.2 _ (by simp), q1.2.2.2 _ (by simp)]; exact hN.2 _ (by omega) (by omega)
        have hz : 0 ≤ z ∧ z ≤ 99 := by
          rw [ez]; by_cases q2 : sgT (chA tx tl (a + 1)) = -1
          · rw [if_neg (fun z => by rw [if_pos q2] at z; exact absurd z.1 (by decide))]; omega
          · have h1 := l1 q2; have h2 := hn2 (by omega); simp only [if_neg q2]; split <;> omega
        refine x_istore_n (i := 3) (pc := 113) F dX8_test_113 rfl rfl ?_
        refine x_iload_n (i := 2) (pc := 114) F dX8_test_114 rfl rfl ?_
        refine x_if_ge (tgt := 136) (pc := 115) F dX8_test_115 rfl (by omega) (fun h115 => ?_) (fun h115 => ?_)
        · refine x_iload_n (i := 2) (pc := 136) F dX8_test_136 rfl rfl ?_
          refine x_if_le (tgt := 158) (pc := 137) F dX8_test_137 rfl (by omega) (fun h137 => ?_) (fun h137 => ?_)
          · refine x_aload_n (i := 0) (pc := 158) F dX8_test_158 rfl rfl ?_
            refine gf_X8_33 (pc := 159) F dX8_test_159 (vm_ok rfl) ?_
            refine x_iload_n (i := 1) (pc := 162) F dX8_test_162 rfl rfl ?_
            refine tq_ia (pc := 163) F dX8_test_163 (vm_ok rfl) rfl (fun _ => rfl) (by omega) ?_
            refine x_iload_n (i := 3) (pc := 164) F dX8_test_164 rfl rfl ?_
            refine x_icmp_ne (tgt := 172) (pc := 165) F dX8_test_165 rfl (by omega) (fun h165 => ?_) (fun h165 => ?_)
            · refine x_iconst (pc := 172) F dX8_test_172 ?_
              refine tq_retz (b := false) (pc := 173) F dX8_test_173 ?_ rfl rfl rfl
              by_cases q : sgT (chA tx tl (a + 1)) = -1
              · rw [if_pos q, if_pos q, if_neg (by decide), if_neg (fun z => absurd z.1 (by decide))] at p3
                have e : testS tx tl a = rdF (a + 1) := by unfold testS; rw [if_neg hl0, if_pos q]
                rw [e]; exact ⟨(q1.trans p2').trans p3, fun z => by cases z⟩
              rw [if_neg q, if_neg q, if_pos rfl] at p3
              rw [if_neg q, if_neg q] at ez
              have hn3 := hn2 (by have := l1 q; omega)
              by_cases q2 : nuN tx tl (a + 2) = -1
              · rw [if_neg (fun z => z.2 q2), show nuA tx tl (a + 2) = a + 2 by omega] at p3
                have e : testS tx tl a = rdF (a + 2) := by unfold testS; rw [if_neg hl0, if_neg q, if_pos q2]
                rw [e]; exact ⟨(q1.trans p2').trans p3, fun z => by cases z⟩
              rw [if_pos ⟨rfl, q2⟩] at p3 ez
              have e : testS tx tl a = (true, nuA tx tl (a + 2), [(3 * lxT (chA tx tl a) + sgT (chA tx tl (a + 1)), nuN tx tl (a + 2))], fun vals => tstS (sgT (chA tx tl (a + 1))) (vals (lxT (chA tx tl a))) (nuN tx tl (a + 2))) := by unfold testS; rw [if_neg hl0, if_neg q, if_neg q2]
              rw [e]
              refine ⟨(q1.trans p2').trans p3, fun _ => ?_⟩
              have hs3 : sgT (chA tx tl (a + 1)) = c + 1 := by (repeat' split at hsg1) <;> omega
              simp only [tstS, ← ez, hs3]
              first | (exfalso; omega) | skip
              all_goals (rw [hv.1] at *)
              all_goals (repeat' split)
              all_goals first | (exfalso; omega) | (symm; first | exact decide_eq_true (by omega) | exact decide_eq_false (by omega))
            · refine x_iconst (pc := 168) F dX8_test_168 ?_
              refine x_goto (tgt := 173) (pc := 169) F dX8_test_169 rfl ?_
              refine tq_retz (b := true) (pc := 173) F dX8_test_173 ?_ rfl rfl rfl
              by_cases q : sgT (chA tx tl (a + 1)) = -1
              · rw [if_pos q, if_pos q, if_neg (by decide), if_neg (fun z => absurd z.1 (by decide))] at p3
                have e : testS tx tl a = rdF (a + 1) := by unfold testS; rw [if_neg hl0, if_pos q]
                rw [e]; exact ⟨(q1.trans p2').trans p3, fun z => by cases z⟩
              rw [if_neg q, if_neg q, if_pos rfl] at p3
              rw [if_neg q, if_neg q] at ez
              have hn3 := hn2 (by have := l1 q; omega)
              by_cases q2 : nuN tx tl (a + 2) = -1
              · rw [if_neg (fun z => z.2 q2), show nuA tx tl (a + 2) = a + 2 by omega] at p3
                have e : testS tx tl a = rdF (a + 2) := by unfold testS; rw [if_neg hl0, if_neg q, if_pos q2]
                rw [e]; exact ⟨(q1.trans p2').trans p3, fun z => by cases z⟩
              rw [if_pos ⟨rfl, q2⟩] at p3 ez
              have e : testS tx tl a = (true, nuA tx tl (a + 2), [(3 * lxT (chA tx tl a) + sgT (chA tx tl (a + 1)), nuN tx tl (a + 2))], fun vals => tstS (sgT (chA tx tl (a + 1))) (vals (lxT (chA tx tl a))) (nuN tx tl (a + 2))) := by unfold testS; rw [if_neg hl0, if_neg q, if_neg q2]
              rw [e]
              refine ⟨(q1.trans p2').trans p3, fun _ => ?_⟩
              have hs3 : sgT (chA tx tl (a + 1)) = c + 1 := by (repeat' split at hsg1) <;> omega
              simp only [tstS, ← ez, hs3]
              first | (exfalso; omega) | skip
              all_goals (rw [hv.1] at *)
              all_goals (repeat' split)
              all_goals first | (exfalso; omega) | (symm; first | exact decide_eq_true (by omega) | exact decide_eq_false (by omega))
          · refine x_aload_n (i := 0) (pc := 140) F dX8_test_140 rfl rfl ?_
            refine gf_X8_33 (pc := 141) F dX8_test_141 (vm_ok rfl) ?_
            refine x_iload_n (i := 1) (pc := 144) F dX8_test_144 rfl rfl ?_
            refine tq_ia (pc := 145) F dX8_test_145 (vm_ok rfl) rfl (fun _ => rfl) (by omega) ?_
            refine x_iload_n (i := 3) (pc := 146) F dX8_test_146 rfl rfl ?_
            refine x_icmp_le (tgt := 154) (pc := 147) F dX8_test_147 rfl (by omega) (fun h147 => ?_) (fun h147 => ?_)
            · refine x_iconst (pc := 154) F dX8_test_154 ?_
              refine x_goto (tgt := 173) (pc := 155) F dX8_test_155 rfl ?_
              refine tq_retz (b := false) (pc := 173) F dX8_test_173 ?_ rfl rfl rfl
              by_cases q : sgT (chA tx tl (a + 1)) = -1
              · rw [if_pos q, if_pos q, if_neg (by decide), if_neg (fun z => absurd z.1 (by decide))] at p3
                have e : testS tx tl a = rdF (a + 1) := by unfold testS; rw [if_neg hl0, if_pos q]
                rw [e]; exact ⟨(q1.trans p2').trans p3, fun z => by cases z⟩
              rw [if_neg q, if_neg q, if_pos rfl] at p3
              rw [if_neg q, if_neg q] at ez
              have hn3 := hn2 (by have := l1 q; omega)
              by_cases q2 : nuN tx tl (a + 2) = -1
              · rw [if_neg (fun z => z.2 q2), show nuA tx tl (a + 2) = a + 2 by omega] at p3
                have e : testS tx tl a = rdF (a + 2) := by unfold testS; rw [if_neg hl0, if_neg q, if_pos q2]
                rw [e]; exact ⟨(q1.trans p2').trans p3, fun z => by cases z⟩
              rw [if_pos ⟨rfl, q2⟩] at p3 ez
              have e : testS tx tl a = (true, nuA tx tl (a + 2), [(3 * lxT (chA tx tl a) + sgT (chA tx tl (a + 1)), nuN tx tl (a + 2))], fun vals => tstS (sgT (chA tx tl (a + 1))) (vals (lxT (chA tx tl a))) (nuN tx tl (a + 2))) := by unfold testS; rw [if_neg hl0, if_neg q, if_neg q2]
              rw [e]
              refine ⟨(q1.trans p2').trans p3, fun _ => ?_⟩
              have hs3 : sgT (chA tx tl (a + 1)) = c + 1 := by (repeat' split at hsg1) <;> omega
              simp only [tstS, ← ez, hs3]
              first | (exfalso; omega) | skip
              all_goals (rw [hv.1] at *)
              all_goals (repeat' split)
              all_goals first | (exfalso; omega) | (symm; first | exact decide_eq_true (by omega) | exact decide_eq_false (by omega))
            · refine x_iconst (pc := 150) F dX8_test_150 ?_
              refine x_goto (tgt := 173) (pc := 151) F dX8_test_151 rfl ?_
              refine tq_retz (b := true) (pc := 173) F dX8_test_173 ?_ rfl rfl rfl
              by_cases q : sgT (chA tx tl (a + 1)) = -1
              · rw [if_pos q, if_pos q, if_neg (by decide), if_neg (fun z => absurd z.1 (by decide))] at p3
                have e : testS tx tl a = rdF (a + 1) := by unfold testS; rw [if_neg hl0, if_pos q]
                rw [e]; exact ⟨(q1.trans p2').trans p3, fun z => by cases z⟩
              rw [if_neg q, if_neg q, if_pos rfl] at p3
              rw [if_neg q, if_neg q] at ez
              have hn3 := hn2 (by have := l1 q; omega)
              by_cases q2 : nuN tx tl (a + 2) = -1
              · rw [if_neg (fun z => z.2 q2), show nuA tx tl (a + 2) = a + 2 by omega] at p3
                have e : testS tx tl a = rdF (a + 2) := by unfold testS; rw [if_neg hl0, if_neg q, if_pos q2]
                rw [e]; exact ⟨(q1.trans p2').trans p3, fun z => by cases z⟩
              rw [if_pos ⟨rfl, q2⟩] at p3 ez
              have e : testS tx tl a = (true, nuA tx tl (a + 2), [(3 * lxT (chA tx tl a) + sgT (chA tx tl (a + 1)), nuN tx tl (a + 2))], fun vals => tstS (sgT (chA tx tl (a + 1))) (vals (lxT (chA tx tl a))) (nuN tx tl (a + 2))) := by unfold testS; rw [if_neg hl0, if_neg q, if_neg q2]
              rw [e]
              refine ⟨(q1.trans p2').trans p3, fun _ => ?_⟩
              have hs3 : sgT (chA tx tl (a + 1)) = c + 1 := by (repeat' split at hsg1) <;> omega
              simp only [tstS, ← ez, hs3]
              first | (exfalso; omega) | skip
              all_goals (rw [hv.1] at *)
              all_goals (repeat' split)
              all_goals first | (exfalso; omega) | (symm; first | exact decide_eq_true (by omega) | exact decide_eq_false (by omega))
        · refine x_aload_n (i := 0) (pc := 118) F dX8_test_118 rfl rfl ?_
          refine gf_X8_33 (pc := 119) F dX8_test_119 (vm_ok rfl) ?_
          refine x_iload_n (i := 1) (pc := 122) F dX8_test_122 rfl rfl ?_
          refine tq_ia (pc := 123) F dX8_test_123 (vm_ok rfl) rfl (fun _ => rfl) (by omega) ?_
          refine x_iload_n (i := 3) (pc := 124) F dX8_test_124 rfl rfl ?_
          refine x_icmp_ge (tgt := 132) (pc := 125) F dX8_test_125 rfl (by omega) (fun h125 => ?_) (fun h125 => ?_)
          · refine x_iconst (pc := 132) F dX8_test_132 ?_
            refine x_goto (tgt := 173) (pc := 133) F dX8_test_133 rfl ?_
            refine tq_retz (b := false) (pc := 173) F dX8_test_173 ?_ rfl rfl rfl
            by_cases q : sgT (chA tx tl (a + 1)) = -1
            · rw [if_pos q, if_pos q, if_neg (by decide), if_neg (fun z => absurd z.1 (by decide))] at p3
              have e : testS tx tl a = rdF (a + 1) := by unfold testS; rw [if_neg hl0, if_pos q]
              rw [e]; exact ⟨(q1.trans p2').trans p3, fun z => by cases z⟩
            rw [if_neg q, if_neg q, if_pos rfl] at p3
            rw [if_neg q, if_neg q] at ez
            have hn3 := hn2 (by have := l1 q; omega)
            by_cases q2 : nuN tx tl (a + 2) = -1
            · rw [if_neg (fun z => z.2 q2), show nuA tx tl (a + 2) = a + 2 by omega] at p3
              have e : testS tx tl a = rdF (a + 2) := by unfold testS; rw [if_neg hl0, if_neg q, if_pos q2]
              rw [e]; exact ⟨(q1.trans p2').trans p3, fun z => by cases z⟩
            rw [if_pos ⟨rfl, q2⟩] at p3 ez
            have e : testS tx tl a = (true, nuA tx tl (a + 2), [(3 * lxT (chA tx tl a) + sgT (chA tx tl (a + 1)), nuN tx tl (a + 2))], fun vals => tstS (sgT (chA tx tl (a + 1))) (vals (lxT (chA tx tl a))) (nuN tx tl (a + 2))) := by unfold testS; rw [if_neg hl0, if_neg q, if_neg q2]
            rw [e]
            refine ⟨(q1.trans p2').trans p3, fun _ => ?_⟩
            have hs3 : sgT (chA tx tl (a + 1)) = c + 1 := by (repeat' split at hsg1) <;> omega
            simp only [tstS, ← ez, hs3]
            first | (exfalso; omega) | skip
            all_goals (rw [hv.1] at *)
            all_goals (repeat' split)
            all_goals first | (exfalso; omega) | (symm; first | exact decide_eq_true (by omega) | exact decide_eq_false (by omega))
          · refine x_iconst (pc := 128) F dX8_test_128 ?_
            refine x_goto (tgt := 173) (pc := 129) F dX8_test_129 rfl ?_
            refine tq_retz (b := true) (pc := 173) F dX8_test_173 ?_ rfl rfl rfl
            by_cases q : sgT (chA tx tl (a + 1)) = -1
            · rw [if_pos q, if_pos q, if_neg (by decide), if_neg (fun z => absurd z.1 (by decide))] at p3
              have e : testS tx tl a = rdF (a + 1) := by unfold testS; rw [if_neg hl0, if_pos q]
              rw [e]; exact ⟨(q1.trans p2').trans p3, fun z => by cases z⟩
            rw [if_neg q, if_neg q, if_pos rfl] at p3
            rw [if_neg q, if_neg q] at ez
            have hn3 := hn2 (by have := l1 q; omega)
            by_cases q2 : nuN tx tl (a + 2) = -1
            · rw [if_neg (fun z => z.2 q2), show nuA tx tl (a + 2) = a + 2 by omega] at p3
              have e : testS tx tl a = rdF (a + 2) := by unfold testS; rw [if_neg hl0, if_neg q, if_pos q2]
              rw [e]; exact ⟨(q1.trans p2').trans p3, fun z => by cases z⟩
            rw [if_pos ⟨rfl, q2⟩] at p3 ez
            have e : testS tx tl a = (true, nuA tx tl (a + 2), [(3 * lxT (chA tx tl a) + sgT (chA tx tl (a + 1)), nuN tx tl (a + 2))], fun vals => tstS (sgT (chA tx tl (a + 1))) (vals (lxT (chA tx tl a))) (nuN tx tl (a + 2))) := by unfold testS; rw [if_neg hl0, if_neg q, if_neg q2]
            rw [e]
            refine ⟨(q1.trans p2').trans p3, fun _ => ?_⟩
            have hs3 : sgT (chA tx tl (a + 1)) = c + 1 := by (repeat' split at hsg1) <;> omega
            simp only [tstS, ← ez, hs3]
            first | (exfalso; omega) | skip
            all_goals (rw [hv.1] at *)
            all_goals (repeat' split)
            all_goals first | (exfalso; omega) | (symm; first | exact decide_eq_true (by omega) | exact decide_eq_false (by omega))
      · refine x_bipush (pc := 99) F dX8_test_99 (by decide) ?_
        refine x_goto (tgt := 106) (pc := 101) F dX8_test_101 rfl ?_
        refine x_V1v (ci := 8) (pc := 106) F dX8_test_106 lk_X8_141 rfl (vm_ok rfl) rfl rfl (c_X8_takes hR1 _ (by omega)) rfl rfl rfl ?_
        rintro μ2 p2
        have p2' : MV μ1 μ2 (if sgT (chA tx tl (a + 1)) = -1 then a + 1 else a + 2) (if sgT (chA tx tl (a + 1)) = -1 then 0 else 1) := by
          by_cases q : sgT (chA tx tl (a + 1)) = -1
          · rw [if_pos q, if_pos q]; rw [if_neg (by (repeat' split at hsg1) <;> omega), if_neg (by (repeat' split at hsg1) <;> omega)] at p2; exact p2
          · rw [if_neg q, if_neg q]; rw [if_pos (by (repeat' split at hsg1) <;> omega), if_pos (by (repeat' split at hsg1) <;> omega), show a + 1 + 1 = a + 2 by omega] at p2; exact p2
        have hR2 := hR1.mv p2' (by by_cases q : sgT (chA tx tl (a + 1)) = -1; (rw [if_pos q, if_pos q]; omega); (rw [if_neg q, if_neg q]; have := l1 q; omega))
        refine x_aload_n (i := 0) (pc := 109) F dX8_test_109 rfl rfl ?_
        refine x_V0i (ci := 8) (pc := 110) F dX8_test_110 lk_X8_145 rfl (vm_ok rfl) rfl rfl (c_X8_number hR2) rfl rfl rfl ?_
        rintro z μ3 ⟨ez, p3⟩
        have hv : μ3 (38, 0, 0) (lxT (chA tx tl a)) = vals (lxT (chA tx tl a)) ∧ -2147483648 ≤ vals (lxT (chA tx tl a)) ∧ vals (lxT (chA tx tl a)) < 2147483648 := by rw [p3.2.2.2 _ (by simp), p2.2.2.2 _ (by simp), q1.2.2.2 _ (by simp)]; exact hN.2 _ (by omega) (by omega)
        have hz : 0 ≤ z ∧ z ≤ 99 := by
          rw [ez]; by_cases q2 : sgT (chA tx tl (a + 1)) = -1
          · rw [if_neg (fun z => by rw [if_pos q2] at z; exact absurd z.1 (by decide))]; omega
          · have h1 := l1 q2; have h2 := hn2 (by omega); simp only [if_neg q2]; split <;> omega
        refine x_istore_n (i := 3) (pc := 113) F dX8_test_113 rfl rfl ?_
        refine x_iload_n (i := 2) (pc := 114) F dX8_test_114 rfl rfl ?_
        refine x_if_ge (tgt := 136) (pc := 115) F dX8_test_115 rfl (by omega) (fun h115 => ?_) (fun h115 => ?_)
        · refine x_iload_n (i := 2) (pc := 136) F dX8_test_136 rfl rfl ?_
          refine x_if_le (tgt := 158) (pc := 137) F dX8_test_137 rfl (by omega) (fun h137 => ?_) (fun h137 => ?_)
          · refine x_aload_n (i := 0) (pc := 158) F dX8_test_158 rfl rfl ?_
            refine gf_X8_33 (pc := 159) F dX8_test_159 (vm_ok rfl) ?_
            refine x_iload_n (i := 1) (pc := 162) F dX8_test_162 rfl rfl ?_
            refine tq_ia (pc := 163) F dX8_test_163 (vm_ok rfl) rfl (fun _ => rfl) (by omega) ?_
            refine x_iload_n (i := 3) (pc := 164) F dX8_test_164 rfl rfl ?_
            refine x_icmp_ne (tgt := 172) (pc := 165) F dX8_test_165 rfl (by omega) (fun h165 => ?_) (fun h165 => ?_)
            · refine x_iconst (pc := 172) F dX8_test_172 ?_
              refine tq_retz (b := false) (pc := 173) F dX8_test_173 ?_ rfl rfl rfl
              by_cases q : sgT (chA tx tl (a + 1)) = -1
              · rw [if_pos q, if_pos q, if_neg (by decide), if_neg (fun z => absurd z.1 (by decide))] at p3
                have e : testS tx tl a = rdF (a + 1) := by unfold testS; rw [if_neg hl0, if_pos q]
                rw [e]; exact ⟨(q1.trans p2').trans p3, fun z => by cases z⟩
              rw [if_neg q, if_neg q, if_pos rfl] at p3
              rw [if_neg q, if_neg q] at ez
              have hn3 := hn2 (by have := l1 q; omega)
              by_cases q2 : nuN tx tl (a + 2) = -1
              · rw [if_neg (fun z => z.2 q2), show nuA tx tl (a + 2) = a + 2 by omega] at p3
                have e : testS tx tl a = rdF (a + 2) := by unfold testS; rw [if_neg hl0, if_neg q, if_pos q2]
                rw [e]; exact ⟨(q1.trans p2').trans p3, fun z => by cases z⟩
              rw [if_pos ⟨rfl, q2⟩] at p3 ez
              have e : testS tx tl a = (true, nuA tx tl (a + 2), [(3 * lxT (chA tx tl a) + sgT (chA tx tl (a + 1)), nuN tx tl (a + 2))], fun vals => tstS (sgT (chA tx tl (a + 1))) (vals (lxT (chA tx tl a))) (nuN tx tl (a + 2))) := by unfold testS; rw [if_neg hl0, if_neg q, if_neg q2]
              rw [e]
              refine ⟨(q1.trans p2').trans p3, fun _ => ?_⟩
              have hs3 : sgT (chA tx tl (a + 1)) = c + 1 := by (repeat' split at hsg1) <;> omega
              simp only [tstS, ← ez, hs3]
              first | (exfalso; omega) | skip
              all_goals (rw [hv.1] at *)
              all_goals (repeat' split)
              all_goals first | (exfalso; omega) | (symm; first | exact decide_eq_true (by omega) | exact decide_eq_false (by omega))
            · refine x_iconst (pc := 168) F dX8_test_168 ?_
              refine x_goto (tgt := 173) (pc := 169) F dX8_test_169 rfl ?_
              refine tq_retz (b := true) (pc := 173) F dX8_test_173 ?_ rfl rfl rfl
              by_cases q : sgT (chA tx tl (a + 1)) = -1
              · rw [if_pos q, if_pos q, if_neg (by decide), if_neg (fun z => absurd z.1 (by decide))] at p3
                have e : testS tx tl a = rdF (a + 1) := by unfold testS; rw [if_neg hl0, if_pos q]
                rw [e]; exact ⟨(q1.trans p2').trans p3, fun z => by cases z⟩
              rw [if_neg q, if_neg q, if_pos rfl] at p3
              rw [if_neg q, if_neg q] at ez
              have hn3 := hn2 (by have := l1 q; omega)
              by_cases q2 : nuN tx tl (a + 2) = -1
              · rw [if_neg (fun z => z.2 q2), show nuA tx tl (a + 2) = a + 2 by omega] at p3
                have e : testS tx tl a = rdF (a + 2) := by unfold testS; rw [if_neg hl0, if_neg q, if_pos q2]
                rw [e]; exact ⟨(q1.trans p2').trans p3, fun z => by cases z⟩
              rw [if_pos ⟨rfl, q2⟩] at p3 ez
              have e : testS tx tl a = (true, nuA tx tl (a + 2), [(3 * lxT (chA tx tl a) + sgT (chA tx tl (a + 1)), nuN tx tl (a + 2))], fun vals => tstS (sgT (chA tx tl (a + 1))) (vals (lxT (chA tx tl a))) (nuN tx tl (a + 2))) := by unfold testS; rw [if_neg hl0, if_neg q, if_neg q2]
              rw [e]
              refine ⟨(q1.trans p2').trans p3, fun _ => ?_⟩
              have hs3 : sgT (chA tx tl (a + 1)) = c + 1 := by (repeat' split at hsg1) <;> omega
              simp only [tstS, ← ez, hs3]
              first | (exfalso; omega) | skip
              all_goals (rw [hv.1] at *)
              all_goals (repeat' split)
              all_goals first | (exfalso; omega) | (symm; first | exact decide_eq_true (by omega) | exact decide_eq_false (by omega))
          · refine x_aload_n (i := 0) (pc := 140) F dX8_test_140 rfl rfl ?_
            refine gf_X8_33 (pc := 141) F dX8_test_141 (vm_ok rfl) ?_
            refine x_iload_n (i := 1) (pc := 144) F dX8_test_144 rfl rfl ?_
            refine tq_ia (pc := 145) F dX8_test_145 (vm_ok rfl) rfl (fun _ => rfl) (by omega) ?_
            refine x_iload_n (i := 3) (pc := 146) F dX8_test_146 rfl rfl ?_
            refine x_icmp_le (tgt := 154) (pc := 147) F dX8_test_147 rfl (by omega) (fun h147 => ?_) (fun h147 => ?_)
            · refine x_iconst (pc := 154) F dX8_test_154 ?_
              refine x_goto (tgt := 173) (pc := 155) F dX8_test_155 rfl ?_
              refine tq_retz (b := false) (pc := 173) F dX8_test_173 ?_ rfl rfl rfl
              by_cases q : sgT (chA tx tl (a + 1)) = -1
              · rw [if_pos q, if_pos q, if_neg (by decide), if_neg (fun z => absurd z.1 (by decide))] at p3
                have e : testS tx tl a = rdF (a + 1) := by unfold testS; rw [if_neg hl0, if_pos q]
                rw [e]; exact ⟨(q1.trans p2').trans p3, fun z => by cases z⟩
              rw [if_neg q, if_neg q, if_pos rfl] at p3
              rw [if_neg q, if_neg q] at ez
              have hn3 := hn2 (by have := l1 q; omega)
              by_cases q2 : nuN tx tl (a + 2) = -1
              · rw [if_neg (fun z => z.2 q2), show nuA tx tl (a + 2) = a + 2 by omega] at p3
                have e : testS tx tl a = rdF (a + 2) := by unfold testS; rw [if_neg hl0, if_neg q, if_pos q2]
                rw [e]; exact ⟨(q1.trans p2').trans p3, fun z => by cases z⟩
              rw [if_pos ⟨rfl, q2⟩] at p3 ez
              have e : testS tx tl a = (true, nuA tx tl (a + 2), [(3 * lxT (chA tx tl a) + sgT (chA tx tl (a + 1)), nuN tx tl (a + 2))], fun vals => tstS (sgT (chA tx tl (a + 1))) (vals (lxT (chA tx tl a))) (nuN tx tl (a + 2))) := by unfold testS; rw [if_neg hl0, if_neg q, if_neg q2]
              rw [e]
              refine ⟨(q1.trans p2').trans p3, fun _ => ?_⟩
              have hs3 : sgT (chA tx tl (a + 1)) = c + 1 := by (repeat' split at hsg1) <;> omega
              simp only [tstS, ← ez, hs3]
              first | (exfalso; omega) | skip
              all_goals (rw [hv.1] at *)
              all_goals (repeat' split)
              all_goals first | (exfalso; omega) | (symm; first | exact decide_eq_true (by omega) | exact decide_eq_false (by omega))
            · refine x_iconst (pc := 150) F dX8_test_150 ?_
              refine x_goto (tgt := 173) (pc := 151) F dX8_test_151 rfl ?_
              refine tq_retz (b := true) (pc := 173) F dX8_test_173 ?_ rfl rfl rfl
              by_cases q : sgT (chA tx tl (a + 1)) = -1
              · rw [if_pos q, if_pos q, if_neg (by decide), if_neg (fun z => absurd z.1 (by decide))] at p3
                have e : testS tx tl a = rdF (a + 1) := by unfold testS; rw [if_neg hl0, if_pos q]
                rw [e]; exact ⟨(q1.trans p2').trans p3, fun z => by cases z⟩
              rw [if_neg q, if_neg q, if_pos rfl] at p3
              rw [if_neg q, if_neg q] at ez
              have hn3 := hn2 (by have := l1 q; omega)
              by_cases q2 : nuN tx tl (a + 2) = -1
              · rw [if_neg (fun z => z.2 q2), show nuA tx tl (a + 2) = a + 2 by omega] at p3
                have e : testS tx tl a = rdF (a + 2) := by unfold testS; rw [if_neg hl0, if_neg q, if_pos q2]
                rw [e]; exact ⟨(q1.trans p2').trans p3, fun z => by cases z⟩
              rw [if_pos ⟨rfl, q2⟩] at p3 ez
              have e : testS tx tl a = (true, nuA tx tl (a + 2), [(3 * lxT (chA tx tl a) + sgT (chA tx tl (a + 1)), nuN tx tl (a + 2))], fun vals => tstS (sgT (chA tx tl (a + 1))) (vals (lxT (chA tx tl a))) (nuN tx tl (a + 2))) := by unfold testS; rw [if_neg hl0, if_neg q, if_neg q2]
              rw [e]
              refine ⟨(q1.trans p2').trans p3, fun _ => ?_⟩
              have hs3 : sgT (chA tx tl (a + 1)) = c + 1 := by (repeat' split at hsg1) <;> omega
              simp only [tstS, ← ez, hs3]
              first | (exfalso; omega) | skip
              all_goals (rw [hv.1] at *)
              all_goals (repeat' split)
              all_goals first | (exfalso; omega) | (symm; first | exact decide_eq_true (by omega) | exact decide_eq_false (by omega))
        · refine x_aload_n (i := 0) (pc := 118) F dX8_test_118 rfl rfl ?_
          refine gf_X8_33 (pc := 119) F dX8_test_119 (vm_ok rfl) ?_
          refine x_iload_n (i := 1) (pc := 122) F dX8_test_122 rfl rfl ?_
          refine tq_ia (pc := 123) F dX8_test_123 (vm_ok rfl) rfl (fun _ => rfl) (by omega) ?_
          refine x_iload_n (i := 3) (pc := 124) F dX8_test_124 rfl rfl ?_
          refine x_icmp_ge (tgt := 132) (pc := 125) F dX8_test_125 rfl (by omega) (fun h125 => ?_) (fun h125 => ?_)
          · refine x_iconst (pc := 132) F dX8_test_132 ?_
            refine x_goto (tgt := 173) (pc := 133) F dX8_test_133 rfl ?_
            refine tq_retz (b := false) (pc := 173) F dX8_test_173 ?_ rfl rfl rfl
            by_cases q : sgT (chA tx tl (a + 1)) = -1
            · rw [if_pos q, if_pos q, if_neg (by decide), if_neg (fun z => absurd z.1 (by decide))] at p3
              have e : testS tx tl a = rdF (a + 1) := by unfold testS; rw [if_neg hl0, if_pos q]
              rw [e]; exact ⟨(q1.trans p2').trans p3, fun z => by cases z⟩
            rw [if_neg q, if_neg q, if_pos rfl] at p3
            rw [if_neg q, if_neg q] at ez
            have hn3 := hn2 (by have := l1 q; omega)
            by_cases q2 : nuN tx tl (a + 2) = -1
            · rw [if_neg (fun z => z.2 q2), show nuA tx tl (a + 2) = a + 2 by omega] at p3
              have e : testS tx tl a = rdF (a + 2) := by unfold testS; rw [if_neg hl0, if_neg q, if_pos q2]
              rw [e]; exact ⟨(q1.trans p2').trans p3, fun z => by cases z⟩
            rw [if_pos ⟨rfl, q2⟩] at p3 ez
            have e : testS tx tl a = (true, nuA tx tl (a + 2), [(3 * lxT (chA tx tl a) + sgT (chA tx tl (a + 1)), nuN tx tl (a + 2))], fun vals => tstS (sgT (chA tx tl (a + 1))) (vals (lxT (chA tx tl a))) (nuN tx tl (a + 2))) := by unfold testS; rw [if_neg hl0, if_neg q, if_neg q2]
            rw [e]
            refine ⟨(q1.trans p2').trans p3, fun _ => ?_⟩
            have hs3 : sgT (chA tx tl (a + 1)) = c + 1 := by (repeat' split at hsg1) <;> omega
            simp only [tstS, ← ez, hs3]
            first | (exfalso; omega) | skip
            all_goals (rw [hv.1] at *)
            all_goals (repeat' split)
            all_goals first | (exfalso; omega) | (symm; first | exact decide_eq_true (by omega) | exact decide_eq_false (by omega))
          · refine x_iconst (pc := 128) F dX8_test_128 ?_
            refine x_goto (tgt := 173) (pc := 129) F dX8_test_129 rfl ?_
            refine tq_retz (b := true) (pc := 173) F dX8_test_173 ?_ rfl rfl rfl
            by_cases q : sgT (chA tx tl (a + 1)) = -1
            · rw [if_pos q, if_pos q, if_neg (by decide), if_neg (fun z => absurd z.1 (by decide))] at p3
              have e : testS tx tl a = rdF (a + 1) := by unfold testS; rw [if_neg hl0, if_pos q]
              rw [e]; exact ⟨(q1.trans p2').trans p3, fun z => by cases z⟩
            rw [if_neg q, if_neg q, if_pos rfl] at p3
            rw [if_neg q, if_neg q] at ez
            have hn3 := hn2 (by have := l1 q; omega)
            by_cases q2 : nuN tx tl (a + 2) = -1
            · rw [if_neg (fun z => z.2 q2), show nuA tx tl (a + 2) = a + 2 by omega] at p3
              have e : testS tx tl a = rdF (a + 2) := by unfold testS; rw [if_neg hl0, if_neg q, if_pos q2]
              rw [e]; exact ⟨(q1.trans p2').trans p3, fun z => by cases z⟩
            rw [if_pos ⟨rfl, q2⟩] at p3 ez
            have e : testS tx tl a = (true, nuA tx tl (a + 2), [(3 * lxT (chA tx tl a) + sgT (chA tx tl (a + 1)), nuN tx tl (a + 2))], fun vals => tstS (sgT (chA tx tl (a + 1))) (vals (lxT (chA tx tl a))) (nuN tx tl (a + 2))) := by unfold testS; rw [if_neg hl0, if_neg q, if_neg q2]
            rw [e]
            refine ⟨(q1.trans p2').trans p3, fun _ => ?_⟩
            have hs3 : sgT (chA tx tl (a + 1)) = c + 1 := by (repeat' split at hsg1) <;> omega
            simp only [tstS, ← ez, hs3]
            first | (exfalso; omega) | skip
            all_goals (rw [hv.1] at *)
            all_goals (repeat' split)
            all_goals first | (exfalso; omega) | (symm; first | exact decide_eq_true (by omega) | exact decide_eq_false (by omega))
    · refine x_bipush (pc := 90) F dX8_test_90 (by decide) ?_
      refine x_goto (tgt := 106) (pc := 92) F dX8_test_92 rfl ?_
      refine x_V1v (ci := 8) (pc := 106) F dX8_test_106 lk_X8_141 rfl (vm_ok rfl) rfl rfl (c_X8_takes hR1 _ (by omega)) rfl rfl rfl ?_
      rintro μ2 p2
      have p2' : MV μ1 μ2 (if sgT (chA tx tl (a + 1)) = -1 then a + 1 else a + 2) (if sgT (chA tx tl (a + 1)) = -1 then 0 else 1) := by
        by_cases q : sgT (chA tx tl (a + 1)) = -1
        · rw [if_pos q, if_pos q]; rw [if_neg (by (repeat' split at hsg1) <;> omega), if_neg (by (repeat' split at hsg1) <;> omega)] at p2; exact p2
        · rw [if_neg q, if_neg q]; rw [if_pos (by (repeat' split at hsg1) <;> omega), if_pos (by (repeat' split at hsg1) <;> omega), show a + 1 + 1 = a + 2 by omega] at p2; exact p2
      have hR2 := hR1.mv p2' (by by_cases q : sgT (chA tx tl (a + 1)) = -1; (rw [if_pos q, if_pos q]; omega); (rw [if_neg q, if_neg q]; have := l1 q; omega))
      refine x_aload_n (i := 0) (pc := 109) F dX8_test_109 rfl rfl ?_
      refine x_V0i (ci := 8) (pc := 110) F dX8_test_110 lk_X8_145 rfl (vm_ok rfl) rfl rfl (c_X8_number hR2) rfl rfl rfl ?_
      rintro z μ3 ⟨ez, p3⟩
      have hv : μ3 (38, 0, 0) (lxT (chA tx tl a)) = vals (lxT (chA tx tl a)) ∧ -2147483648 ≤ vals (lxT (chA tx tl a)) ∧ vals (lxT (chA tx tl a)) < 2147483648 := by rw [p3.2.2.2 _ (by simp), p2.2.2.2 _ (by simp), q1.2.2.2 _ (by simp)]; exact hN.2 _ (by omega) (by omega)
      have hz : 0 ≤ z ∧ z ≤ 99 := by
        rw [ez]; by_cases q2 : sgT (chA tx tl (a + 1)) = -1
        · rw [if_neg (fun z => by rw [if_pos q2] at z; exact absurd z.1 (by decide))]; omega
        · have h1 := l1 q2; have h2 := hn2 (by omega); simp only [if_neg q2]; split <;> omega
      refine x_istore_n (i := 3) (pc := 113) F dX8_test_113 rfl rfl ?_
      refine x_iload_n (i := 2) (pc := 114) F dX8_test_114 rfl rfl ?_
      refine x_if_ge (tgt := 136) (pc := 115) F dX8_test_115 rfl (by omega) (fun h115 => ?_) (fun h115 => ?_)
      · refine x_iload_n (i := 2) (pc := 136) F dX8_test_136 rfl rfl ?_
        refine x_if_le (tgt := 158) (pc := 137) F dX8_test_137 rfl (by omega) (fun h137 => ?_) (fun h137 => ?_)
        · refine x_aload_n (i := 0) (pc := 158) F dX8_test_158 rfl rfl ?_
          refine gf_X8_33 (pc := 159) F dX8_test_159 (vm_ok rfl) ?_
          refine x_iload_n (i := 1) (pc := 162) F dX8_test_162 rfl rfl ?_
          refine tq_ia (pc := 163) F dX8_test_163 (vm_ok rfl) rfl (fun _ => rfl) (by omega) ?_
          refine x_iload_n (i := 3) (pc := 164) F dX8_test_164 rfl rfl ?_
          refine x_icmp_ne (tgt := 172) (pc := 165) F dX8_test_165 rfl (by omega) (fun h165 => ?_) (fun h165 => ?_)
          · refine x_iconst (pc := 172) F dX8_test_172 ?_
            refine tq_retz (b := false) (pc := 173) F dX8_test_173 ?_ rfl rfl rfl
            by_cases q : sgT (chA tx tl (a + 1)) = -1
            · rw [if_pos q, if_pos q, if_neg (by decide), if_neg (fun z => absurd z.1 (by decide))] at p3
              have e : testS tx tl a = rdF (a + 1) := by unfold testS; rw [if_neg hl0, if_pos q]
              rw [e]; exact ⟨(q1.trans p2').trans p3, fun z => by cases z⟩
            rw [if_neg q, if_neg q, if_pos rfl] at p3
            rw [if_neg q, if_neg q] at ez
            have hn3 := hn2 (by have := l1 q; omega)
            by_cases q2 : nuN tx tl (a + 2) = -1
            · rw [if_neg (fun z => z.2 q2), show nuA tx tl (a + 2) = a + 2 by omega] at p3
              have e : testS tx tl a = rdF (a + 2) := by unfold testS; rw [if_neg hl0, if_neg q, if_pos q2]
              rw [e]; exact ⟨(q1.trans p2').trans p3, fun z => by cases z⟩
            rw [if_pos ⟨rfl, q2⟩] at p3 ez
            have e : testS tx tl a = (true, nuA tx tl (a + 2), [(3 * lxT (chA tx tl a) + sgT (chA tx tl (a + 1)), nuN tx tl (a + 2))], fun vals => tstS (sgT (chA tx tl (a + 1))) (vals (lxT (chA tx tl a))) (nuN tx tl (a + 2))) := by unfold testS; rw [if_neg hl0, if_neg q, if_neg q2]
            rw [e]
            refine ⟨(q1.trans p2').trans p3, fun _ => ?_⟩
            have hs3 : sgT (chA tx tl (a + 1)) = c + 1 := by (repeat' split at hsg1) <;> omega
            simp only [tstS, ← ez, hs3]
            first | (exfalso; omega) | skip
            all_goals (rw [hv.1] at *)
            all_goals (repeat' split)
            all_goals first | (exfalso; omega) | (symm; first | exact decide_eq_true (by omega) | exact decide_eq_false (by omega))
          · refine x_iconst (pc := 168) F dX8_test_168 ?_
            refine x_goto (tgt := 173) (pc := 169) F dX8_test_169 rfl ?_
            refine tq_retz (b := true) (pc := 173) F dX8_test_173 ?_ rfl rfl rfl
            by_cases q : sgT (chA tx tl (a + 1)) = -1
            · rw [if_pos q, if_pos q, if_neg (by decide), if_neg (fun z => absurd z.1 (by decide))] at p3
              have e : testS tx tl a = rdF (a + 1) := by unfold testS; rw [if_neg hl0, if_pos q]
              rw [e]; exact ⟨(q1.trans p2').trans p3, fun z => by cases z⟩
            rw [if_neg q, if_neg q, if_pos rfl] at p3
            rw [if_neg q, if_neg q] at ez
            have hn3 := hn2 (by have := l1 q; omega)
            by_cases q2 : nuN tx tl (a + 2) = -1
            · rw [if_neg (fun z => z.2 q2), show nuA tx tl (a + 2) = a + 2 by omega] at p3
              have e : testS tx tl a = rdF (a + 2) := by unfold testS; rw [if_neg hl0, if_neg q, if_pos q2]
              rw [e]; exact ⟨(q1.trans p2').trans p3, fun z => by cases z⟩
            rw [if_pos ⟨rfl, q2⟩] at p3 ez
            have e : testS tx tl a = (true, nuA tx tl (a + 2), [(3 * lxT (chA tx tl a) + sgT (chA tx tl (a + 1)), nuN tx tl (a + 2))], fun vals => tstS (sgT (chA tx tl (a + 1))) (vals (lxT (chA tx tl a))) (nuN tx tl (a + 2))) := by unfold testS; rw [if_neg hl0, if_neg q, if_neg q2]
            rw [e]
            refine ⟨(q1.trans p2').trans p3, fun _ => ?_⟩
            have hs3 : sgT (chA tx tl (a + 1)) = c + 1 := by (repeat' split at hsg1) <;> omega
            simp only [tstS, ← ez, hs3]
            first | (exfalso; omega) | skip
            all_goals (rw [hv.1] at *)
            all_goals (repeat' split)
            all_goals first | (exfalso; omega) | (symm; first | exact decide_eq_true (by omega) | exact decide_eq_false (by omega))
        · refine x_aload_n (i := 0) (pc := 140) F dX8_test_140 rfl rfl ?_
          refine gf_X8_33 (pc := 141) F dX8_test_141 (vm_ok rfl) ?_
          refine x_iload_n (i := 1) (pc := 144) F dX8_test_144 rfl rfl ?_
          refine tq_ia (pc := 145) F dX8_test_145 (vm_ok rfl) rfl (fun _ => rfl) (by omega) ?_
          refine x_iload_n (i := 3) (pc := 146) F dX8_test_146 rfl rfl ?_
          refine x_icmp_le (tgt := 154) (pc := 147) F dX8_test_147 rfl (by omega) (fun h147 => ?_) (fun h147 => ?_)
          · refine x_iconst (pc := 154) F dX8_test_154 ?_
            refine x_goto (tgt := 173) (pc := 155) F dX8_test_155 rfl ?_
            refine tq_retz (b := false) (pc := 173) F dX8_test_173 ?_ rfl rfl rfl
            by_cases q : sgT (chA tx tl (a + 1)) = -1
            · rw [if_pos q, if_pos q, if_neg (by decide), if_neg (fun z => absurd z.1 (by decide))] at p3
              have e : testS tx tl a = rdF (a + 1) := by unfold testS; rw [if_neg hl0, if_pos q]
              rw [e]; exact ⟨(q1.trans p2').trans p3, fun z => by cases z⟩
            rw [if_neg q, if_neg q, if_pos rfl] at p3
            rw [if_neg q, if_neg q] at ez
            have hn3 := hn2 (by have := l1 q; omega)
            by_cases q2 : nuN tx tl (a + 2) = -1
            · rw [if_neg (fun z => z.2 q2), show nuA tx tl (a + 2) = a + 2 by omega] at p3
              have e : testS tx tl a = rdF (a + 2) := by unfold testS; rw [if_neg hl0, if_neg q, if_pos q2]
              rw [e]; exact ⟨(q1.trans p2').trans p3, fun z => by cases z⟩
            rw [if_pos ⟨rfl, q2⟩] at p3 ez
            have e : testS tx tl a = (true, nuA tx tl (a + 2), [(3 * lxT (chA tx tl a) + sgT (chA tx tl (a + 1)), nuN tx tl (a + 2))], fun vals => tstS (sgT (chA tx tl (a + 1))) (vals (lxT (chA tx tl a))) (nuN tx tl (a + 2))) := by unfold testS; rw [if_neg hl0, if_neg q, if_neg q2]
            rw [e]
            refine ⟨(q1.trans p2').trans p3, fun _ => ?_⟩
            have hs3 : sgT (chA tx tl (a + 1)) = c + 1 := by (repeat' split at hsg1) <;> omega
            simp only [tstS, ← ez, hs3]
            first | (exfalso; omega) | skip
            all_goals (rw [hv.1] at *)
            all_goals (repeat' split)
            all_goals first | (exfalso; omega) | (symm; first | exact decide_eq_true (by omega) | exact decide_eq_false (by omega))
          · refine x_iconst (pc := 150) F dX8_test_150 ?_
            refine x_goto (tgt := 173) (pc := 151) F dX8_test_151 rfl ?_
            refine tq_retz (b := true) (pc := 173) F dX8_test_173 ?_ rfl rfl rfl
            by_cases q : sgT (chA tx tl (a + 1)) = -1
            · rw [if_pos q, if_pos q, if_neg (by decide), if_neg (fun z => absurd z.1 (by decide))] at p3
              have e : testS tx tl a = rdF (a + 1) := by unfold testS; rw [if_neg hl0, if_pos q]
              rw [e]; exact ⟨(q1.trans p2').trans p3, fun z => by cases z⟩
            rw [if_neg q, if_neg q, if_pos rfl] at p3
            rw [if_neg q, if_neg q] at ez
            have hn3 := hn2 (by have := l1 q; omega)
            by_cases q2 : nuN tx tl (a + 2) = -1
            · rw [if_neg (fun z => z.2 q2), show nuA tx tl (a + 2) = a + 2 by omega] at p3
              have e : testS tx tl a = rdF (a + 2) := by unfold testS; rw [if_neg hl0, if_neg q, if_pos q2]
              rw [e]; exact ⟨(q1.trans p2').trans p3, fun z => by cases z⟩
            rw [if_pos ⟨rfl, q2⟩] at p3 ez
            have e : testS tx tl a = (true, nuA tx tl (a + 2), [(3 * lxT (chA tx tl a) + sgT (chA tx tl (a + 1)), nuN tx tl (a + 2))], fun vals => tstS (sgT (chA tx tl (a + 1))) (vals (lxT (chA tx tl a))) (nuN tx tl (a + 2))) := by unfold testS; rw [if_neg hl0, if_neg q, if_neg q2]
            rw [e]
            refine ⟨(q1.trans p2').trans p3, fun _ => ?_⟩
            have hs3 : sgT (chA tx tl (a + 1)) = c + 1 := by (repeat' split at hsg1) <;> omega
            simp only [tstS, ← ez, hs3]
            first | (exfalso; omega) | skip
            all_goals (rw [hv.1] at *)
            all_goals (repeat' split)
            all_goals first | (exfalso; omega) | (symm; first | exact decide_eq_true (by omega) | exact decide_eq_false (by omega))
      · refine x_aload_n (i := 0) (pc := 118) F dX8_test_118 rfl rfl ?_
        refine gf_X8_33 (pc := 119) F dX8_test_119 (vm_ok rfl) ?_
        refine x_iload_n (i := 1) (pc := 122) F dX8_test_122 rfl rfl ?_
        refine tq_ia (pc := 123) F dX8_test_123 (vm_ok rfl) rfl (fun _ => rfl) (by omega) ?_
        refine x_iload_n (i := 3) (pc := 124) F dX8_test_124 rfl rfl ?_
        refine x_icmp_ge (tgt := 132) (pc := 125) F dX8_test_125 rfl (by omega) (fun h125 => ?_) (fun h125 => ?_)
        · refine x_iconst (pc := 132) F dX8_test_132 ?_
          refine x_goto (tgt := 173) (pc := 133) F dX8_test_133 rfl ?_
          refine tq_retz (b := false) (pc := 173) F dX8_test_173 ?_ rfl rfl rfl
          by_cases q : sgT (chA tx tl (a + 1)) = -1
          · rw [if_pos q, if_pos q, if_neg (by decide), if_neg (fun z => absurd z.1 (by decide))] at p3
            have e : testS tx tl a = rdF (a + 1) := by unfold testS; rw [if_neg hl0, if_pos q]
            rw [e]; exact ⟨(q1.trans p2').trans p3, fun z => by cases z⟩
          rw [if_neg q, if_neg q, if_pos rfl] at p3
          rw [if_neg q, if_neg q] at ez
          have hn3 := hn2 (by have := l1 q; omega)
          by_cases q2 : nuN tx tl (a + 2) = -1
          · rw [if_neg (fun z => z.2 q2), show nuA tx tl (a + 2) = a + 2 by omega] at p3
            have e : testS tx tl a = rdF (a + 2) := by unfold testS; rw [if_neg hl0, if_neg q, if_pos q2]
            rw [e]; exact ⟨(q1.trans p2').trans p3, fun z => by cases z⟩
          rw [if_pos ⟨rfl, q2⟩] at p3 ez
          have e : testS tx tl a = (true, nuA tx tl (a + 2), [(3 * lxT (chA tx tl a) + sgT (chA tx tl (a + 1)), nuN tx tl (a + 2))], fun vals => tstS (sgT (chA tx tl (a + 1))) (vals (lxT (chA tx tl a))) (nuN tx tl (a + 2))) := by unfold testS; rw [if_neg hl0, if_neg q, if_neg q2]
          rw [e]
          refine ⟨(q1.trans p2').trans p3, fun _ => ?_⟩
          have hs3 : sgT (chA tx tl (a + 1)) = c + 1 := by (repeat' split at hsg1) <;> omega
          simp only [tstS, ← ez, hs3]
          first | (exfalso; omega) | skip
          all_goals (rw [hv.1] at *)
          all_goals (repeat' split)
          all_goals first | (exfalso; omega) | (symm; first | exact decide_eq_true (by omega) | exact decide_eq_false (by omega))
        · refine x_iconst (pc := 128) F dX8_test_128 ?_
          refine x_goto (tgt := 173) (pc := 129) F dX8_test_129 rfl ?_
          refine tq_retz (b := true) (pc := 173) F dX8_test_173 ?_ rfl rfl rfl
          by_cases q : sgT (chA tx tl (a + 1)) = -1
          · rw [if_pos q, if_pos q, if_neg (by decide), if_neg (fun z => absurd z.1 (by decide))] at p3
            have e : testS tx tl a = rdF (a + 1) := by unfold testS; rw [if_neg hl0, if_pos q]
            rw [e]; exact ⟨(q1.trans p2').trans p3, fun z => by cases z⟩
          rw [if_neg q, if_neg q, if_pos rfl] at p3
          rw [if_neg q, if_neg q] at ez
          have hn3 := hn2 (by have := l1 q; omega)
          by_cases q2 : nuN tx tl (a + 2) = -1
          · rw [if_neg (fun z => z.2 q2), show nuA tx tl (a + 2) = a + 2 by omega] at p3
            have e : testS tx tl a = rdF (a + 2) := by unfold testS; rw [if_neg hl0, if_neg q, if_pos q2]
            rw [e]; exact ⟨(q1.trans p2').trans p3, fun z => by cases z⟩
          rw [if_pos ⟨rfl, q2⟩] at p3 ez
          have e : testS tx tl a = (true, nuA tx tl (a + 2), [(3 * lxT (chA tx tl a) + sgT (chA tx tl (a + 1)), nuN tx tl (a + 2))], fun vals => tstS (sgT (chA tx tl (a + 1))) (vals (lxT (chA tx tl a))) (nuN tx tl (a + 2))) := by unfold testS; rw [if_neg hl0, if_neg q, if_neg q2]
          rw [e]
          refine ⟨(q1.trans p2').trans p3, fun _ => ?_⟩
          have hs3 : sgT (chA tx tl (a + 1)) = c + 1 := by (repeat' split at hsg1) <;> omega
          simp only [tstS, ← ez, hs3]
          first | (exfalso; omega) | skip
          all_goals (rw [hv.1] at *)
          all_goals (repeat' split)
          all_goals first | (exfalso; omega) | (symm; first | exact decide_eq_true (by omega) | exact decide_eq_false (by omega))
  have loop : ∀ (N k : Nat), 6 - k < N → k ≤ 6 → XX Γ 4 VM ad (vl ad μ) 0 0 4 [(0, .ref (ad (30, 0, 0))), (1, .int (I (if lxT (chA tx tl a) < k then lxT (chA tx tl a) else -1))), (2, .int (I k))] [] := by
    intro N
    induction N with
    | zero => intro k b1; omega
    | succ N ih =>
      intro k b1 b2
      refine x_iload_n (i := 2) (pc := 4) F dX8_test_4 rfl rfl ?_
      refine x_bipush (pc := 5) F dX8_test_5 (by decide) ?_
      refine x_icmp_ge (tgt := 35) (pc := 7) F dX8_test_7 rfl (by omega) (fun h7 => ?_) (fun h7 => ?_)
      · obtain rfl : k = 6 := by omega
        rw [if_pos (by omega)]
        refine x_iload_n (i := 1) (pc := 35) F dX8_test_35 rfl rfl ?_
        refine x_iconst (pc := 36) F dX8_test_36 ?_
        refine x_icmp_ne (tgt := 47) (pc := 37) F dX8_test_37 rfl (by omega) (fun h37 => ?_) (fun h37 => ?_)
        · have l0 : a < tl := chA_lt (tx := tx) (fun q => h37 (by rw [q]; rfl))
          refine x_aload_n (i := 0) (pc := 47) F dX8_test_47 rfl rfl ?_
          refine x_dup (pc := 48) F dX8_test_48 rfl ?_
          refine gf_X8_128 (pc := 49) F dX8_test_49 (vm_ok rfl) ?_
          refine x_iconst (pc := 52) F dX8_test_52 ?_
          rw [a1]
          refine x_iadd (pc := 53) F dX8_test_53 ?_
          refine pf_X8_128 (pc := 54) F dX8_test_54 (vm_ok rfl) ?_
          have q1 : MV μ (upM μ (30, 0, 0) 11 (a + 1)) (a + 1) 1 := MV.at hR
          have hR1 := hR.mv q1 (by omega)
          refine x_aload_n (i := 0) (pc := 57) F dX8_test_57 rfl rfl ?_
          refine x_bipush (pc := 58) F dX8_test_58 (by decide) ?_
          refine x_V1z (ci := 8) (pc := 60) F dX8_test_60 lk_X8_134 rfl (vm_ok rfl) rfl rfl (c_X8_isAt hR1 60 (by decide)) rfl rfl rfl ?_
          rintro _ _ ⟨rfl, rfl⟩
          refine x_if_eqB (tgt := 70) (pc := 63) F dX8_test_63 rfl (fun h63 => ?_) (fun h63 => ?_)
          · try simp only [decide_eq_true_eq, decide_eq_false_iff_not, Bool.and_eq_true, Bool.or_eq_true, Bool.not_eq_true', Bool.not_eq_false', Bool.and_eq_false_iff, Bool.or_eq_false_iff] at h63
            try rw [true_and] at h63
            refine x_aload_n (i := 0) (pc := 70) F dX8_test_70 rfl rfl ?_
            refine x_bipush (pc := 71) F dX8_test_71 (by decide) ?_
            refine x_V1z (ci := 8) (pc := 73) F dX8_test_73 lk_X8_134 rfl (vm_ok rfl) rfl rfl (c_X8_isAt hR1 62 (by decide)) rfl rfl rfl ?_
            rintro _ _ ⟨rfl, rfl⟩
            refine x_if_eqB (tgt := 83) (pc := 76) F dX8_test_76 rfl (fun h76 => ?_) (fun h76 => ?_)
            · try simp only [decide_eq_true_eq, decide_eq_false_iff_not, Bool.and_eq_true, Bool.or_eq_true, Bool.not_eq_true', Bool.not_eq_false', Bool.and_eq_false_iff, Bool.or_eq_false_iff] at h76
              try rw [true_and] at h76
              refine x_iconst (pc := 83) F dX8_test_83 ?_
              exact x_sub (L' := [(0, .ref (ad (30, 0, 0))), (1, .int (I (lxT (chA tx tl a))))]) ⟨rfl, rfl, trivial⟩ (l84 _ _ h37 l0 q1 (by omega))
            · try simp only [decide_eq_true_eq, decide_eq_false_iff_not, Bool.and_eq_true, Bool.or_eq_true, Bool.not_eq_true', Bool.not_eq_false', Bool.and_eq_false_iff, Bool.or_eq_false_iff] at h76
              try rw [true_and] at h76
              refine x_iconst (pc := 79) F dX8_test_79 ?_
              refine x_goto (tgt := 84) (pc := 80) F dX8_test_80 rfl ?_
              exact x_sub (L' := [(0, .ref (ad (30, 0, 0))), (1, .int (I (lxT (chA tx tl a))))]) ⟨rfl, rfl, trivial⟩ (l84 _ _ h37 l0 q1 (by omega))
          · try simp only [decide_eq_true_eq, decide_eq_false_iff_not, Bool.and_eq_true, Bool.or_eq_true, Bool.not_eq_true', Bool.not_eq_false', Bool.and_eq_false_iff, Bool.or_eq_false_iff] at h63
            try rw [true_and] at h63
            refine x_iconst (pc := 66) F dX8_test_66 ?_
            refine x_goto (tgt := 84) (pc := 67) F dX8_test_67 rfl ?_
            exact x_sub (L' := [(0, .ref (ad (30, 0, 0))), (1, .int (I (lxT (chA tx tl a))))]) ⟨rfl, rfl, trivial⟩ (l84 _ _ h37 l0 q1 (by omega))
        · refine x_aload_n (i := 0) (pc := 40) F dX8_test_40 rfl rfl ?_
          refine x_iconst (pc := 41) F dX8_test_41 ?_
          refine pf_X8_125 (pc := 42) F dX8_test_42 (vm_ok rfl) (by decide) (by decide) ?_
          refine x_iconst (pc := 45) F dX8_test_45 ?_
          refine tq_retz (b := false) (pc := 46) F dX8_test_46 ?_ rfl rfl rfl
          have e : testS tx tl a = rdF a := by unfold testS; rw [if_pos h37]
          rw [e]; exact ⟨MV.no hR, fun z => by cases z⟩
      · refine x_aload_n (i := 0) (pc := 10) F dX8_test_10 rfl rfl ?_
        refine x_aload_n (i := 0) (pc := 11) F dX8_test_11 rfl rfl ?_
        refine gf_X8_36 (pc := 12) F dX8_test_12 (vm_ok rfl) ?_
        refine x_iload_n (i := 2) (pc := 15) F dX8_test_15 rfl rfl ?_
        have hl := hN.1.1 k (by omega) (by omega)
        have hlr := ltr_rg k
        have hlx2 := ltr_lx (c := chA tx tl a) (k := (k : Int)) (by omega)
        refine tq_ca (pc := 16) F dX8_test_16 (vm_ok rfl) rfl (fun _ => rfl) (by omega) ?_
        rw [hl]
        refine x_V1z (ci := 8) (pc := 17) F dX8_test_17 lk_X8_134 rfl (vm_ok rfl) rfl rfl (c_X8_isAt hR _ (by omega)) rfl rfl rfl ?_
        rintro _ _ ⟨rfl, rfl⟩
        refine x_if_eqB (tgt := 27) (pc := 20) F dX8_test_20 rfl (fun h20 => ?_) (fun h20 => ?_)
        · try simp only [decide_eq_true_eq, decide_eq_false_iff_not, Bool.and_eq_true, Bool.or_eq_true, Bool.not_eq_true', Bool.not_eq_false', Bool.and_eq_false_iff, Bool.or_eq_false_iff] at h20
          refine x_iload_n (i := 1) (pc := 27) F dX8_test_27 rfl rfl ?_
          refine x_istore_n (i := 1) (pc := 28) F dX8_test_28 rfl rfl ?_
          refine x_iinc (pc := 29) F dX8_test_29 rfl rfl ?_
          refine x_goto (tgt := 4) (pc := 32) F dX8_test_32 rfl ?_
          refine x_sub (L' := [(0, .ref (ad (30, 0, 0))), (1, .int (I (if lxT (chA tx tl a) < ((k + 1 : Nat) : Int) then lxT (chA tx tl a) else -1))), (2, .int (I ((k + 1 : Nat) : Int)))]) ⟨rfl, lk_i rfl ?_, rfl, trivial⟩ (ih (k + 1) (by omega) (by omega))
          first | (have h1 := hlx2.mp h20.2; rw [if_pos (by omega)]; omega) | (have h1 : lxT (chA tx tl a) ≠ k := (fun q => by have := hlx2.mpr q; first | exact h20 ⟨trivial, this⟩ | exact h20 ⟨rfl, this⟩ | (rcases h20 with h20 | h20; exact h20 rfl; exact h20 this) | exact h20 this); (repeat' split) <;> omega)
        · try simp only [decide_eq_true_eq, decide_eq_false_iff_not, Bool.and_eq_true, Bool.or_eq_true, Bool.not_eq_true', Bool.not_eq_false', Bool.and_eq_false_iff, Bool.or_eq_false_iff] at h20
          refine x_iload_n (i := 2) (pc := 23) F dX8_test_23 rfl rfl ?_
          refine x_goto (tgt := 28) (pc := 24) F dX8_test_24 rfl ?_
          refine x_istore_n (i := 1) (pc := 28) F dX8_test_28 rfl rfl ?_
          refine x_iinc (pc := 29) F dX8_test_29 rfl rfl ?_
          refine x_goto (tgt := 4) (pc := 32) F dX8_test_32 rfl ?_
          refine x_sub (L' := [(0, .ref (ad (30, 0, 0))), (1, .int (I (if lxT (chA tx tl a) < ((k + 1 : Nat) : Int) then lxT (chA tx tl a) else -1))), (2, .int (I ((k + 1 : Nat) : Int)))]) ⟨rfl, lk_i rfl ?_, rfl, trivial⟩ (ih (k + 1) (by omega) (by omega))
          first | (have h1 := hlx2.mp h20.2; rw [if_pos (by omega)]; omega) | (have h1 : lxT (chA tx tl a) ≠ k := (fun q => by have := hlx2.mpr q; first | exact h20 ⟨trivial, this⟩ | exact h20 ⟨rfl, this⟩ | (rcases h20 with h20 | h20; exact h20 rfl; exact h20 this) | exact h20 this); (repeat' split) <;> omega)
  refine x_iconst (pc := 0) F dX8_test_0 ?_
  refine x_istore_n (i := 1) (pc := 1) F dX8_test_1 rfl rfl ?_
  refine x_iconst (pc := 2) F dX8_test_2 ?_
  refine x_istore_n (i := 2) (pc := 3) F dX8_test_3 rfl rfl ?_
  exact x_sub (L' := [(0, .ref (ad (30, 0, 0))), (1, .int (I (if lxT (chA tx tl a) < ((0 : Nat) : Int) then lxT (chA tx tl a) else -1))), (2, .int (I ((0 : Nat) : Int)))]) ⟨rfl, lk_i rfl (by split <;> omega), rfl, trivial⟩ (loop 7 0 (by omega) (by omega))
end MP
