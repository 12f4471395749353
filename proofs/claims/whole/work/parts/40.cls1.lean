/-! ===== the class: comers, gates ===== -/
theorem I_wrap (a : Int) : I a = I (a + 4294967296) := by
  unfold I
  rw [Int32.ofInt_add]
  have : Int32.ofInt 4294967296 = 0 := by decide
  rw [this]
  exact (Int32.add_zero _).symm
section CLS1
variable {ad : Ob → Nat} {μ : Me} {nh : Int} {T : Tn} {S : Hs}
theorem c_isInW (V : Ob → Prop) (a b : Int) (h : -2147483748 ≤ a ∧ a < 2147483648 ∧ 0 ≤ b ∧ b < 2147483000) (l : Launch) (E : Ev) (A : Nat → Prop) : Con l E 0 m_X7_isIn A V ad μ [.int (I a), .int (I b)] (pz fun z μ' => z = decide (0 ≤ a ∧ a < b) ∧ μ = μ') := by
  by_cases h1 : -2147483648 ≤ a
  · exact c_X7_isIn a b (by omega) l E A
  · have h2 := c_X7_isIn (V := V) (ad := ad) (μ := μ) (a + 4294967296) b (by omega) l E A
    rw [← I_wrap] at h2
    refine h2.to ?_
    rintro v μ' ⟨z, hv, rfl, hm⟩
    refine ⟨_, hv, ?_, hm⟩
    rw [decide_eq_decide]
    omega
set_option maxRecDepth 20000 in
theorem c_X7_isComer (c : Int) (hc : -2147483748 ≤ c ∧ c < 2147483648) (hR0 : TR μ 0 T) (hI : TI T) (l : Launch) (E : Ev) (A : Nat → Prop) : Con l E 1 m_X7_isComer A (VC nh) ad μ [.ref (ad (0, 0, 0)), .int (I c)] (pz fun z μ' => z = decide (0 ≤ c ∧ c < T 76) ∧ μ = μ') := by
  have h76 := hI.2.2.1
  have hm : μ (1, 0, 0) 5 = T 76 := hR0.2.2.1.1
  refine con (own := RX7) (by decide +kernel) rfl rfl rfl (fun Γ F => ?_)
  refine x_iload_n (i := 1) (pc := 0) F dX7_isComer_0 rfl rfl ?_
  refine x_aload_n (i := 0) (pc := 1) F dX7_isComer_1 rfl rfl ?_
  refine gf_X7_62 (pc := 2) F dX7_isComer_2 (v_0 (by omega)) ?_
  refine gf_X7_79 (pc := 5) F dX7_isComer_5 (v_1 (by omega)) ?_
  rw [hm]
  refine x_S2z (pc := 8) F dX7_isComer_8 lk_X7_83 rfl (c_isInW _ _ _ (by omega)) rfl rfl rfl ?_
  rintro _ _ ⟨rfl, rfl⟩
  refine tq_retz (pc := 11) F dX7_isComer_11 ?_ rfl rfl rfl
  exact ⟨rfl, rfl⟩
/-- a cell of the class's now Town, or scratch -/
def nwO (o : Ob) : Prop := 1 ≤ o.1 ∧ o.1 ≤ 9 ∧ o.2.1 = 0
theorem TR_set {k z : Int} {o : Ob} {t : Int} {f : Int} (h : TR μ t T) (c : Int) (hc : 0 ≤ c ∧ c < 6) (hk : o = (4, t, c) ∧ 1 ≤ f ∧ f ≤ 6 ∧ k = 15 + 10 * c + f ∨ o = (5, t, c) ∧ 0 ≤ f ∧ f < 4 ∧ k = 22 + 10 * c + f) : TR (upM μ o f z) t (upT T k z) := by
  have eo : ∀ j, j ≠ k → upT T k z j = T j := fun j hj => upT_ne hj
  have ho : o = (4, t, c) ∨ o = (5, t, c) := by rcases hk with h | h <;> simp [h.1]
  have hkr : 16 + 10 * c ≤ k ∧ k < 26 + 10 * c := by omega
  have eu : ∀ o' : Ob, o' ≠ (4, t, c) → o' ≠ (5, t, c) → upM μ o f z o' = μ o' := fun o' a b => upM_ne (by rintro rfl; rcases ho with h | h <;> contradiction)
  refine ⟨fun g' a b => GR_eq (GR_fr (h.1 g' a b) (eu _ (by simp) (by simp)) (eu _ (by simp) (by simp))) (fun j x y => eo j (by omega)), fun q a b => ?_, ?_, RR_eq (RR_fr h.2.2.2 (fun o ho hot => eu o (by rintro rfl; simp at ho) (by rintro rfl; simp at ho))) (fun j x => eo j (by omega))⟩
  · by_cases hqc : q = c
    · subst hqc
      obtain ⟨c0, c1, c2, c3, c4, c5, c6, c7⟩ := h.2.1 q a b
      rcases hk with ⟨rfl, f1, f2, rfl⟩ | ⟨rfl, f1, f2, rfl⟩
      · have e5 : upM μ (4, t, q) f z (5, t, q) = μ (5, t, q) := upM_ne (by simp)
        have key : ∀ i : Int, 1 ≤ i → i ≤ 6 → μ (4, t, q) i = T (15 + 10 * q + i) → upM μ (4, t, q) f z (4, t, q) i = upT T (15 + 10 * q + f) z (15 + 10 * q + i) := by
          intro i i1 i2 hi
          rw [upM_i]
          by_cases e : i = f
          · rw [if_pos e, e, upT_eq]
          · rw [if_neg e, upT_ne (by omega), hi]
        refine ⟨by rw [upM_i, if_neg (by omega)]; exact c0, ?_, ?_, ?_, ?_, ?_, ?_, fun j x y => by rw [e5, upT_ne (by omega)]; exact c7 j x y⟩
        · have := key 1 (by decide) (by decide) (by rw [c1]; congr 1; omega)
          rw [this]; congr 1; omega
        · have := key 2 (by decide) (by decide) (by rw [c2]; congr 1; omega)
          rw [this]; congr 1; omega
        · have := key 3 (by decide) (by decide) (by rw [c3]; congr 1; omega)
          rw [this]; congr 1; omega
        · have := key 4 (by decide) (by decide) (by rw [c4]; congr 1; omega)
          rw [this]; congr 1; omega
        · have := key 5 (by decide) (by decide) (by rw [c5]; congr 1; omega)
          rw [this]; congr 1; omega
        · have := key 6 (by decide) (by decide) (by rw [c6]; congr 1; omega)
          rw [this]; congr 1; omega
      · have e4 : upM μ (5, t, q) f z (4, t, q) = μ (4, t, q) := upM_ne (by simp)
        refine ⟨by rw [e4]; exact c0, ?_, ?_, ?_, ?_, ?_, ?_, fun j x y => ?_⟩
        · rw [e4, upT_ne (by omega)]; exact c1
        · rw [e4, upT_ne (by omega)]; exact c2
        · rw [e4, upT_ne (by omega)]; exact c3
        · rw [e4, upT_ne (by omega)]; exact c4
        · rw [e4, upT_ne (by omega)]; exact c5
        · rw [e4, upT_ne (by omega)]; exact c6
        · rw [upM_i]
          by_cases e : j = f
          · rw [if_pos e, e, upT_eq]
          · rw [if_neg e, upT_ne (by omega)]; exact c7 j x y
    · exact CR_eq (CR_fr (h.2.1 q a b) (eu _ (by simp; omega) (by simp)) (eu _ (by simp) (by simp; omega))) (fun j x y => eo j (by omega))
  · unfold SR
    rw [eu _ (by simp) (by simp), eo _ (by omega), eo _ (by omega), eo _ (by omega)]
    exact h.2.2.1
set_option maxRecDepth 20000 in
theorem c_X7_comer (k v w g : Int) (hk : -2147483648 ≤ k ∧ k < 2147483648) (hv : -2147483648 ≤ v ∧ v < 2147483648) (hw : -2147483648 ≤ w ∧ w < 2147483648) (hg : -2147483648 ≤ g ∧ g < 2147483648) (hR0 : TR μ 0 T) (hI : TI T) (l : Launch) (E : Ev) (A : Nat → Prop) : Con l E 3 m_X7_comer A (VC nh) ad μ [.ref (ad (0, 0, 0)), .int (I k), .int (I v), .int (I w), .int (I g)] (pi fun z μ' => z = comerZ T k v w g ∧ TR μ' 0 (comerT T k v w g) ∧ ∀ o, ¬ nwO o → μ' o = μ o) := by
  have h76 := hI.2.2.1
  have hm : μ (1, 0, 0) 5 = T 76 := hR0.2.2.1.1
  refine con (own := RX7) (by decide +kernel) rfl rfl rfl (fun Γ F => ?_)
  refine x_iload_n (i := 1) (pc := 0) F dX7_comer_0 rfl rfl ?_
  refine x_bipush (pc := 1) F dX7_comer_1 (by decide) ?_
  refine x_S2z (pc := 3) F dX7_comer_3 lk_X7_83 rfl (c_isInW _ _ _ (by omega)) rfl rfl rfl ?_
  rintro _ _ ⟨rfl, rfl⟩
  refine x_if_eqB (tgt := 18) (pc := 6) F dX7_comer_6 rfl (fun h6 => ?_) (fun h6 => ?_)
  · try simp only [decide_eq_true_eq, decide_eq_false_iff_not, Bool.and_eq_true, Bool.or_eq_true, Bool.not_eq_true', Bool.not_eq_false', Bool.and_eq_false_iff, Bool.or_eq_false_iff] at h6
    refine x_iconst (pc := 18) F dX7_comer_18 ?_
    refine tq_reti (pc := 19) F dX7_comer_19 ?_ rfl rfl rfl
    have hz : comerZ T k v w g = -1 := by unfold comerZ; rw [if_neg (by omega)]
    exact ⟨hz.symm, by unfold comerT; rw [if_neg (by omega)]; exact hR0, fun o _ => rfl⟩
  · try simp only [decide_eq_true_eq, decide_eq_false_iff_not, Bool.and_eq_true, Bool.or_eq_true, Bool.not_eq_true', Bool.not_eq_false', Bool.and_eq_false_iff, Bool.or_eq_false_iff] at h6
    refine x_iload (i := 4) (pc := 9) F dX7_comer_9 rfl ?_
    refine x_iconst (pc := 11) F dX7_comer_11 ?_
    refine x_S2z (pc := 12) F dX7_comer_12 lk_X7_83 rfl (c_isInW _ _ _ (by omega)) rfl rfl rfl ?_
    rintro _ _ ⟨rfl, rfl⟩
    refine x_if_neB (tgt := 20) (pc := 15) F dX7_comer_15 rfl (fun h15 => ?_) (fun h15 => ?_)
    · try simp only [decide_eq_true_eq, decide_eq_false_iff_not, Bool.and_eq_true, Bool.or_eq_true, Bool.not_eq_true', Bool.not_eq_false', Bool.and_eq_false_iff, Bool.or_eq_false_iff] at h15
      refine x_iload_n (i := 2) (pc := 20) F dX7_comer_20 rfl rfl ?_
      refine x_bipush (pc := 21) F dX7_comer_21 (by decide) ?_
      refine x_S2z (pc := 23) F dX7_comer_23 lk_X7_83 rfl (c_isInW _ _ _ (by omega)) rfl rfl rfl ?_
      rintro _ _ ⟨rfl, rfl⟩
      refine x_if_eqB (tgt := 39) (pc := 26) F dX7_comer_26 rfl (fun h26 => ?_) (fun h26 => ?_)
      · try simp only [decide_eq_true_eq, decide_eq_false_iff_not, Bool.and_eq_true, Bool.or_eq_true, Bool.not_eq_true', Bool.not_eq_false', Bool.and_eq_false_iff, Bool.or_eq_false_iff] at h26
        refine x_bipush (pc := 39) F dX7_comer_39 (by decide) ?_
        refine tq_reti (pc := 41) F dX7_comer_41 ?_ rfl rfl rfl
        have hz : comerZ T k v w g = -2 := by unfold comerZ; rw [if_pos (by omega), if_neg (by omega)]
        exact ⟨hz.symm, by unfold comerT; rw [if_neg (by omega)]; exact hR0, fun o _ => rfl⟩
      · try simp only [decide_eq_true_eq, decide_eq_false_iff_not, Bool.and_eq_true, Bool.or_eq_true, Bool.not_eq_true', Bool.not_eq_false', Bool.and_eq_false_iff, Bool.or_eq_false_iff] at h26
        refine x_iload_n (i := 3) (pc := 29) F dX7_comer_29 rfl rfl ?_
        refine x_sipush (pc := 30) F dX7_comer_30 (by decide) ?_
        refine x_S2z (pc := 33) F dX7_comer_33 lk_X7_83 rfl (c_isInW _ _ _ (by omega)) rfl rfl rfl ?_
        rintro _ _ ⟨rfl, rfl⟩
        refine x_if_neB (tgt := 42) (pc := 36) F dX7_comer_36 rfl (fun h36 => ?_) (fun h36 => ?_)
        · try simp only [decide_eq_true_eq, decide_eq_false_iff_not, Bool.and_eq_true, Bool.or_eq_true, Bool.not_eq_true', Bool.not_eq_false', Bool.and_eq_false_iff, Bool.or_eq_false_iff] at h36
          refine x_aload_n (i := 0) (pc := 42) F dX7_comer_42 rfl rfl ?_
          refine gf_X7_62 (pc := 43) F dX7_comer_43 (v_0 (by omega)) ?_
          refine gf_X7_79 (pc := 46) F dX7_comer_46 (v_1 (by omega)) ?_
          rw [hm]
          refine x_bipush (pc := 49) F dX7_comer_49 (by decide) ?_
          refine x_icmp_lt (tgt := 57) (pc := 51) F dX7_comer_51 rfl (by omega) (fun h51 => ?_) (fun h51 => ?_)
          · refine x_aload_n (i := 0) (pc := 57) F dX7_comer_57 rfl rfl ?_
            refine gf_X7_62 (pc := 58) F dX7_comer_58 (v_0 (by omega)) ?_
            refine gf_X7_94 (pc := 61) F dX7_comer_61 (v_1 (by omega)) ?_
            refine x_aload_n (i := 0) (pc := 64) F dX7_comer_64 rfl rfl ?_
            refine gf_X7_62 (pc := 65) F dX7_comer_65 (v_0 (by omega)) ?_
            refine gf_X7_79 (pc := 68) F dX7_comer_68 (v_1 (by omega)) ?_
            rw [hm]
            refine tq_pa (pc := 71) F dX7_comer_71 (v_11 (by omega)) (by omega) ?_
            refine x_iload_n (i := 1) (pc := 72) F dX7_comer_72 rfl rfl ?_
            refine x_iload_n (i := 2) (pc := 73) F dX7_comer_73 rfl rfl ?_
            refine x_iload_n (i := 3) (pc := 74) F dX7_comer_74 rfl rfl ?_
            refine x_iload (i := 4) (pc := 75) F dX7_comer_75 rfl ?_
            refine x_V4v (ci := 0) (pc := 77) F dX7_comer_77 lk_X7_98 rfl (v_4 (by omega)) rfl rfl (c_X0_begin _ _ _ _ (by omega)) rfl rfl rfl ?_
            rintro μ2 ⟨e1, e2, e3⟩
            have f1 : μ2 (1, 0, 0) = μ (1, 0, 0) := e3 _ (by simp) (by simp)
            have f2 : μ2 (1, 0, 0) 5 = T 76 := by rw [f1]; exact hm
            refine x_aload_n (i := 0) (pc := 80) F dX7_comer_80 rfl rfl ?_
            refine gf_X7_62 (pc := 81) F dX7_comer_81 (v_0 (by omega)) ?_
            refine x_dup (pc := 84) F dX7_comer_84 rfl ?_
            refine gf_X7_79 (pc := 85) F dX7_comer_85 (v_1 (by omega)) ?_
            rw [f2]
            refine x_iconst (pc := 88) F dX7_comer_88 ?_
            refine x_iadd (pc := 89) F dX7_comer_89 ?_
            refine pf_X7_79 (pc := 90) F dX7_comer_90 (v_1 (by omega)) ?_
            refine x_aload_n (i := 0) (pc := 93) F dX7_comer_93 rfl rfl ?_
            refine gf_X7_62 (pc := 94) F dX7_comer_94 (v_0 (by omega)) ?_
            refine gf_X7_79 (pc := 97) F dX7_comer_97 (v_1 (by omega)) ?_
            rw [show upM μ2 (1, 0, 0) 5 (T 76 + 1) (1, 0, 0) 5 = T 76 + 1 by rw [upM_i, if_pos rfl]]
            refine x_iconst (pc := 100) F dX7_comer_100 ?_
            refine x_isub (pc := 101) F dX7_comer_101 ?_
            refine tq_reti (pc := 102) F dX7_comer_102 ?_ rfl rfl rfl
            have hz : comerZ T k v w g = T 76 := by unfold comerZ; rw [if_pos (by omega), if_pos (by omega), if_pos (by omega)]
            refine ⟨by rw [hz]; omega, ?_, fun o ho => ?_⟩
            · unfold comerT; rw [if_pos (by omega)]
              have eo : ∀ j, j ≠ 76 → ¬ (16 + 10 * T 76 ≤ j ∧ j < 26 + 10 * T 76) → comerN T k v w g j = T j := fun j a b => by unfold comerN; rw [if_neg a, if_neg (by omega), if_neg (by omega), if_neg (by omega), if_neg (by omega), if_neg (by omega)]
              have eu : ∀ o : Ob, o ≠ (1, 0, 0) → o ≠ (4, 0, T 76) → o ≠ (5, 0, T 76) → upM μ2 (1, 0, 0) 5 (T 76 + 1) o = μ o := fun o a b c => by rw [upM_ne a, e3 o b c]
              refine ⟨fun g' a b => GR_eq (GR_fr (hR0.1 g' a b) (eu _ (by simp) (by simp) (by simp)) (eu _ (by simp) (by simp) (by simp))) (fun j x y => eo j (by omega) (by omega)), fun q a b => ?_, ⟨?_, ?_, ?_⟩, RR_eq (RR_fr hR0.2.2.2 (fun o ho hot => eu o (by rintro rfl; simp at ho) (by rintro rfl; simp at ho) (by rintro rfl; simp at ho))) (fun j x => eo j (by omega) (by omega))⟩
              · by_cases hq : q = T 76
                · subst hq
                  have e4 : upM μ2 (1, 0, 0) 5 (T 76 + 1) (4, 0, T 76) = μ2 (4, 0, T 76) := upM_ne (by simp)
                  have e5 : upM μ2 (1, 0, 0) 5 (T 76 + 1) (5, 0, T 76) = μ2 (5, 0, T 76) := upM_ne (by simp)
                  have c0 := (hR0.2.1 (T 76) a b).1
                  unfold CR comerN
                  rw [e4, e5, e1, e1, e1, e1, e1, e1, e1]
                  refine ⟨c0, ?_, ?_, ?_, ?_, ?_, ?_, fun j x y => ?_⟩
                  · rw [if_pos rfl, if_neg (by omega), if_pos rfl]
                  · rw [if_neg (by decide), if_pos rfl, if_neg (by omega), if_neg (by omega), if_pos rfl]
                  · rw [if_neg (by decide), if_neg (by decide), if_pos rfl, if_neg (by omega), if_neg (by omega), if_neg (by omega), if_pos rfl]
                  · rw [if_neg (by decide), if_neg (by decide), if_neg (by decide), if_pos rfl, if_neg (by omega), if_neg (by omega), if_neg (by omega), if_neg (by omega), if_pos rfl]
                  · rw [if_neg (by decide), if_neg (by decide), if_neg (by decide), if_neg (by decide), if_pos rfl, if_neg (by omega), if_neg (by omega), if_neg (by omega), if_neg (by omega), if_neg (by omega), if_pos (by omega)]
                  · rw [if_neg (by decide), if_neg (by decide), if_neg (by decide), if_neg (by decide), if_neg (by decide), if_pos rfl, if_neg (by omega), if_neg (by omega), if_neg (by omega), if_neg (by omega), if_neg (by omega), if_pos (by omega)]
                  · rw [e2 j x y, if_neg (by omega), if_neg (by omega), if_neg (by omega), if_neg (by omega), if_neg (by omega), if_pos (by omega)]
                · exact CR_eq (CR_fr (hR0.2.1 q a b) (eu _ (by simp) (by simp; omega) (by simp)) (eu _ (by simp) (by simp) (by simp; omega))) (fun j x y => eo j (by omega) (by omega))
              · rw [upM_i, if_pos rfl]; unfold comerN; rw [if_pos rfl]
              · rw [upM_i, if_neg (by decide), f1, eo _ (by omega) (by omega)]; exact hR0.2.2.1.2.1
              · rw [upM_i, if_neg (by decide), f1, eo _ (by omega) (by omega)]; exact hR0.2.2.1.2.2
            · rw [upM_ne (by rintro rfl; exact ho ⟨by simp, by simp, rfl⟩), e3 o (by rintro rfl; exact ho ⟨by simp, by simp, rfl⟩) (by rintro rfl; exact ho ⟨by simp, by simp, rfl⟩)]
          · refine x_bipush (pc := 54) F dX7_comer_54 (by decide) ?_
            refine tq_reti (pc := 56) F dX7_comer_56 ?_ rfl rfl rfl
            have hz : comerZ T k v w g = -4 := by unfold comerZ; rw [if_pos (by omega), if_pos (by omega), if_neg (by omega)]
            exact ⟨hz.symm, by unfold comerT; rw [if_neg (by omega)]; exact hR0, fun o _ => rfl⟩
        · try simp only [decide_eq_true_eq, decide_eq_false_iff_not, Bool.and_eq_true, Bool.or_eq_true, Bool.not_eq_true', Bool.not_eq_false', Bool.and_eq_false_iff, Bool.or_eq_false_iff] at h36
          refine x_bipush (pc := 39) F dX7_comer_39 (by decide) ?_
          refine tq_reti (pc := 41) F dX7_comer_41 ?_ rfl rfl rfl
          have hz : comerZ T k v w g = -2 := by unfold comerZ; rw [if_pos (by omega), if_neg (by omega)]
          exact ⟨hz.symm, by unfold comerT; rw [if_neg (by omega)]; exact hR0, fun o _ => rfl⟩
    · try simp only [decide_eq_true_eq, decide_eq_false_iff_not, Bool.and_eq_true, Bool.or_eq_true, Bool.not_eq_true', Bool.not_eq_false', Bool.and_eq_false_iff, Bool.or_eq_false_iff] at h15
      refine x_iconst (pc := 18) F dX7_comer_18 ?_
      refine tq_reti (pc := 19) F dX7_comer_19 ?_ rfl rfl rfl
      have hz : comerZ T k v w g = -1 := by unfold comerZ; rw [if_neg (by omega)]
      exact ⟨hz.symm, by unfold comerT; rw [if_neg (by omega)]; exact hR0, fun o _ => rfl⟩
set_option maxRecDepth 20000 in
theorem c_X7_set (c w n : Int) (hc : -2147483648 ≤ c ∧ c < 2147483648) (hw : -2147483648 ≤ w ∧ w < 2147483648) (hn : -2147483648 ≤ n ∧ n < 2147483648) (hR0 : TR μ 0 T) (hI : TI T) (l : Launch) (E : Ev) (A : Nat → Prop) : Con l E 3 m_X7_set A (VC nh) ad μ [.ref (ad (0, 0, 0)), .int (I c), .int (I w), .int (I n)] (pi fun z μ' => z = setZ T c w n ∧ TR μ' 0 (setT T c w n) ∧ ∀ o, ¬ nwO o → μ' o = μ o) := by
  have h76 := hI.2.2.1
  refine con (own := RX7) (by decide +kernel) rfl rfl rfl (fun Γ F => ?_)
  refine x_aload_n (i := 0) (pc := 0) F dX7_set_0 rfl rfl ?_
  refine x_iload_n (i := 1) (pc := 1) F dX7_set_1 rfl rfl ?_
  refine x_V1z (ci := 7) (pc := 2) F dX7_set_2 lk_X7_102 rfl (v_0 (by omega)) rfl rfl (c_X7_isComer _ (by omega) hR0 hI) rfl rfl rfl ?_
  rintro _ _ ⟨rfl, rfl⟩
  refine x_if_eqB (tgt := 16) (pc := 5) F dX7_set_5 rfl (fun h5 => ?_) (fun h5 => ?_)
  · try simp only [decide_eq_true_eq, decide_eq_false_iff_not, Bool.and_eq_true, Bool.or_eq_true, Bool.not_eq_true', Bool.not_eq_false', Bool.and_eq_false_iff, Bool.or_eq_false_iff] at h5
    refine x_iconst (pc := 16) F dX7_set_16 ?_
    refine tq_reti (pc := 17) F dX7_set_17 ?_ rfl rfl rfl
    exact ⟨by unfold setZ; rw [if_neg (by omega)], by unfold setT; rw [if_neg (by omega)]; exact hR0, fun o _ => rfl⟩
  · try simp only [decide_eq_true_eq, decide_eq_false_iff_not, Bool.and_eq_true, Bool.or_eq_true, Bool.not_eq_true', Bool.not_eq_false', Bool.and_eq_false_iff, Bool.or_eq_false_iff] at h5
    refine x_iload_n (i := 2) (pc := 8) F dX7_set_8 rfl rfl ?_
    refine x_iconst (pc := 9) F dX7_set_9 ?_
    refine x_S2z (pc := 10) F dX7_set_10 lk_X7_83 rfl (c_isInW _ _ _ (by omega)) rfl rfl rfl ?_
    rintro _ _ ⟨rfl, rfl⟩
    refine x_if_neB (tgt := 18) (pc := 13) F dX7_set_13 rfl (fun h13 => ?_) (fun h13 => ?_)
    · try simp only [decide_eq_true_eq, decide_eq_false_iff_not, Bool.and_eq_true, Bool.or_eq_true, Bool.not_eq_true', Bool.not_eq_false', Bool.and_eq_false_iff, Bool.or_eq_false_iff] at h13
      refine x_iload_n (i := 3) (pc := 18) F dX7_set_18 rfl rfl ?_
      refine x_iload_n (i := 2) (pc := 19) F dX7_set_19 rfl rfl ?_
      refine x_if_ne (tgt := 29) (pc := 20) F dX7_set_20 rfl (by omega) (fun h20 => ?_) (fun h20 => ?_)
      · refine x_iload_n (i := 2) (pc := 29) F dX7_set_29 rfl rfl ?_
        refine x_iconst (pc := 30) F dX7_set_30 ?_
        refine x_icmp_ne (tgt := 38) (pc := 31) F dX7_set_31 rfl (by omega) (fun h31 => ?_) (fun h31 => ?_)
        · refine x_bipush (pc := 38) F dX7_set_38 (by decide) ?_
          refine x_S2z (pc := 40) F dX7_set_40 lk_X7_83 rfl (c_isInW _ _ _ (by omega)) rfl rfl rfl ?_
          rintro _ _ ⟨rfl, rfl⟩
          refine x_if_neB (tgt := 49) (pc := 43) F dX7_set_43 rfl (fun h43 => ?_) (fun h43 => ?_)
          · try simp only [decide_eq_true_eq, decide_eq_false_iff_not, Bool.and_eq_true, Bool.or_eq_true, Bool.not_eq_true', Bool.not_eq_false', Bool.and_eq_false_iff, Bool.or_eq_false_iff] at h43
            refine x_aload_n (i := 0) (pc := 49) F dX7_set_49 rfl rfl ?_
            refine gf_X7_62 (pc := 50) F dX7_set_50 (v_0 (by omega)) ?_
            refine gf_X7_94 (pc := 53) F dX7_set_53 (v_1 (by omega)) ?_
            refine x_iload_n (i := 1) (pc := 56) F dX7_set_56 rfl rfl ?_
            refine tq_pa (pc := 57) F dX7_set_57 (v_11 (by omega)) (by omega) ?_
            refine x_astore (i := 4) (pc := 58) F dX7_set_58 rfl ?_
            refine x_iload_n (i := 2) (pc := 60) F dX7_set_60 rfl rfl ?_
            refine x_if_ne (tgt := 80) (pc := 61) F dX7_set_61 rfl (by omega) (fun h61 => ?_) (fun h61 => ?_)
            · refine x_iload_n (i := 2) (pc := 80) F dX7_set_80 rfl rfl ?_
              refine x_iconst (pc := 81) F dX7_set_81 ?_
              refine x_icmp_ne (tgt := 101) (pc := 82) F dX7_set_82 rfl (by omega) (fun h82 => ?_) (fun h82 => ?_)
              · refine x_aload (i := 4) (pc := 101) F dX7_set_101 rfl ?_
                refine gf_X7_126 (pc := 103) F dX7_set_103 (v_4 (by omega)) ?_
                refine x_istore (i := 5) (pc := 106) F dX7_set_106 rfl ?_
                refine x_aload (i := 4) (pc := 108) F dX7_set_108 rfl ?_
                refine x_iload_n (i := 3) (pc := 110) F dX7_set_110 rfl rfl ?_
                refine pf_X7_126 (pc := 111) F dX7_set_111 (v_4 (by omega)) ?_
                refine x_iload (i := 5) (pc := 114) F dX7_set_114 rfl ?_
                refine tq_reti (pc := 116) F dX7_set_116 ?_ rfl rfl rfl
                have hcc := hR0.2.1 c (by omega) (by omega)
                have hlim : 0 ≤ n ∧ n < setLim w := by unfold setLim; split <;> (try split) <;> omega
                refine ⟨by unfold setZ; rw [if_pos (by omega), if_pos hlim]; first | (rw [hcc.2.2.2.1]; congr 1; omega) | (rw [hcc.2.2.2.2.1]; congr 1; omega) | (rw [hcc.2.2.2.2.2.1]; congr 1; omega), ?_, fun o ho => upM_ne (by rintro rfl; exact ho ⟨by simp, by simp, rfl⟩)⟩
                unfold setT; rw [if_pos ⟨by omega, hlim⟩]; exact TR_set hR0 c (by omega) (Or.inl ⟨rfl, by omega, by omega, by omega⟩)
              · refine x_aload (i := 4) (pc := 85) F dX7_set_85 rfl ?_
                refine gf_X7_123 (pc := 87) F dX7_set_87 (v_4 (by omega)) ?_
                refine x_istore (i := 5) (pc := 90) F dX7_set_90 rfl ?_
                refine x_aload (i := 4) (pc := 92) F dX7_set_92 rfl ?_
                refine x_iload_n (i := 3) (pc := 94) F dX7_set_94 rfl rfl ?_
                refine pf_X7_123 (pc := 95) F dX7_set_95 (v_4 (by omega)) ?_
                refine x_goto (tgt := 114) (pc := 98) F dX7_set_98 rfl ?_
                refine x_iload (i := 5) (pc := 114) F dX7_set_114 rfl ?_
                refine tq_reti (pc := 116) F dX7_set_116 ?_ rfl rfl rfl
                have hcc := hR0.2.1 c (by omega) (by omega)
                have hlim : 0 ≤ n ∧ n < setLim w := by unfold setLim; split <;> (try split) <;> omega
                refine ⟨by unfold setZ; rw [if_pos (by omega), if_pos hlim]; first | (rw [hcc.2.2.2.1]; congr 1; omega) | (rw [hcc.2.2.2.2.1]; congr 1; omega) | (rw [hcc.2.2.2.2.2.1]; congr 1; omega), ?_, fun o ho => upM_ne (by rintro rfl; exact ho ⟨by simp, by simp, rfl⟩)⟩
                unfold setT; rw [if_pos ⟨by omega, hlim⟩]; exact TR_set hR0 c (by omega) (Or.inl ⟨rfl, by omega, by omega, by omega⟩)
            · refine x_aload (i := 4) (pc := 64) F dX7_set_64 rfl ?_
              refine gf_X7_120 (pc := 66) F dX7_set_66 (v_4 (by omega)) ?_
              refine x_istore (i := 5) (pc := 69) F dX7_set_69 rfl ?_
              refine x_aload (i := 4) (pc := 71) F dX7_set_71 rfl ?_
              refine x_iload_n (i := 3) (pc := 73) F dX7_set_73 rfl rfl ?_
              refine pf_X7_120 (pc := 74) F dX7_set_74 (v_4 (by omega)) ?_
              refine x_goto (tgt := 114) (pc := 77) F dX7_set_77 rfl ?_
              refine x_iload (i := 5) (pc := 114) F dX7_set_114 rfl ?_
              refine tq_reti (pc := 116) F dX7_set_116 ?_ rfl rfl rfl
              have hcc := hR0.2.1 c (by omega) (by omega)
              have hlim : 0 ≤ n ∧ n < setLim w := by unfold setLim; split <;> (try split) <;> omega
              refine ⟨by unfold setZ; rw [if_pos (by omega), if_pos hlim]; first | (rw [hcc.2.2.2.1]; congr 1; omega) | (rw [hcc.2.2.2.2.1]; congr 1; omega) | (rw [hcc.2.2.2.2.2.1]; congr 1; omega), ?_, fun o ho => upM_ne (by rintro rfl; exact ho ⟨by simp, by simp, rfl⟩)⟩
              unfold setT; rw [if_pos ⟨by omega, hlim⟩]; exact TR_set hR0 c (by omega) (Or.inl ⟨rfl, by omega, by omega, by omega⟩)
          · try simp only [decide_eq_true_eq, decide_eq_false_iff_not, Bool.and_eq_true, Bool.or_eq_true, Bool.not_eq_true', Bool.not_eq_false', Bool.and_eq_false_iff, Bool.or_eq_false_iff] at h43
            refine x_bipush (pc := 46) F dX7_set_46 (by decide) ?_
            refine tq_reti (pc := 48) F dX7_set_48 ?_ rfl rfl rfl
            exact ⟨by unfold setZ setLim; rw [if_pos (by omega)]; (repeat' split) <;> omega, by unfold setT setLim; rw [if_neg (by split <;> (try split) <;> omega)]; exact hR0, fun o _ => rfl⟩
        · refine x_iconst (pc := 34) F dX7_set_34 ?_
          refine x_goto (tgt := 40) (pc := 35) F dX7_set_35 rfl ?_
          refine x_S2z (pc := 40) F dX7_set_40 lk_X7_83 rfl (c_isInW _ _ _ (by omega)) rfl rfl rfl ?_
          rintro _ _ ⟨rfl, rfl⟩
          refine x_if_neB (tgt := 49) (pc := 43) F dX7_set_43 rfl (fun h43 => ?_) (fun h43 => ?_)
          · try simp only [decide_eq_true_eq, decide_eq_false_iff_not, Bool.and_eq_true, Bool.or_eq_true, Bool.not_eq_true', Bool.not_eq_false', Bool.and_eq_false_iff, Bool.or_eq_false_iff] at h43
            refine x_aload_n (i := 0) (pc := 49) F dX7_set_49 rfl rfl ?_
            refine gf_X7_62 (pc := 50) F dX7_set_50 (v_0 (by omega)) ?_
            refine gf_X7_94 (pc := 53) F dX7_set_53 (v_1 (by omega)) ?_
            refine x_iload_n (i := 1) (pc := 56) F dX7_set_56 rfl rfl ?_
            refine tq_pa (pc := 57) F dX7_set_57 (v_11 (by omega)) (by omega) ?_
            refine x_astore (i := 4) (pc := 58) F dX7_set_58 rfl ?_
            refine x_iload_n (i := 2) (pc := 60) F dX7_set_60 rfl rfl ?_
            refine x_if_ne (tgt := 80) (pc := 61) F dX7_set_61 rfl (by omega) (fun h61 => ?_) (fun h61 => ?_)
            · refine x_iload_n (i := 2) (pc := 80) F dX7_set_80 rfl rfl ?_
              refine x_iconst (pc := 81) F dX7_set_81 ?_
              refine x_icmp_ne (tgt := 101) (pc := 82) F dX7_set_82 rfl (by omega) (fun h82 => ?_) (fun h82 => ?_)
              · refine x_aload (i := 4) (pc := 101) F dX7_set_101 rfl ?_
                refine gf_X7_126 (pc := 103) F dX7_set_103 (v_4 (by omega)) ?_
                refine x_istore (i := 5) (pc := 106) F dX7_set_106 rfl ?_
                refine x_aload (i := 4) (pc := 108) F dX7_set_108 rfl ?_
                refine x_iload_n (i := 3) (pc := 110) F dX7_set_110 rfl rfl ?_
                refine pf_X7_126 (pc := 111) F dX7_set_111 (v_4 (by omega)) ?_
                refine x_iload (i := 5) (pc := 114) F dX7_set_114 rfl ?_
                refine tq_reti (pc := 116) F dX7_set_116 ?_ rfl rfl rfl
                have hcc := hR0.2.1 c (by omega) (by omega)
                have hlim : 0 ≤ n ∧ n < setLim w := by unfold setLim; split <;> (try split) <;> omega
                refine ⟨by unfold setZ; rw [if_pos (by omega), if_pos hlim]; first | (rw [hcc.2.2.2.1]; congr 1; omega) | (rw [hcc.2.2.2.2.1]; congr 1; omega) | (rw [hcc.2.2.2.2.2.1]; congr 1; omega), ?_, fun o ho => upM_ne (by rintro rfl; exact ho ⟨by simp, by simp, rfl⟩)⟩
                unfold setT; rw [if_pos ⟨by omega, hlim⟩]; exact TR_set hR0 c (by omega) (Or.inl ⟨rfl, by omega, by omega, by omega⟩)
              · refine x_aload (i := 4) (pc := 85) F dX7_set_85 rfl ?_
                refine gf_X7_123 (pc := 87) F dX7_set_87 (v_4 (by omega)) ?_
                refine x_istore (i := 5) (pc := 90) F dX7_set_90 rfl ?_
                refine x_aload (i := 4) (pc := 92) F dX7_set_92 rfl ?_
                refine x_iload_n (i := 3) (pc := 94) F dX7_set_94 rfl rfl ?_
                refine pf_X7_123 (pc := 95) F dX7_set_95 (v_4 (by omega)) ?_
                refine x_goto (tgt := 114) (pc := 98) F dX7_set_98 rfl ?_
                refine x_iload (i := 5) (pc := 114) F dX7_set_114 rfl ?_
                refine tq_reti (pc := 116) F dX7_set_116 ?_ rfl rfl rfl
                have hcc := hR0.2.1 c (by omega) (by omega)
                have hlim : 0 ≤ n ∧ n < setLim w := by unfold setLim; split <;> (try split) <;> omega
                refine ⟨by unfold setZ; rw [if_pos (by omega), if_pos hlim]; first | (rw [hcc.2.2.2.1]; congr 1; omega) | (rw [hcc.2.2.2.2.1]; congr 1; omega) | (rw [hcc.2.2.2.2.2.1]; congr 1; omega), ?_, fun o ho => upM_ne (by rintro rfl; exact ho ⟨by simp, by simp, rfl⟩)⟩
                unfold setT; rw [if_pos ⟨by omega, hlim⟩]; exact TR_set hR0 c (by omega) (Or.inl ⟨rfl, by omega, by omega, by omega⟩)
            · refine x_aload (i := 4) (pc := 64) F dX7_set_64 rfl ?_
              refine gf_X7_120 (pc := 66) F dX7_set_66 (v_4 (by omega)) ?_
              refine x_istore (i := 5) (pc := 69) F dX7_set_69 rfl ?_
              refine x_aload (i := 4) (pc := 71) F dX7_set_71 rfl ?_
              refine x_iload_n (i := 3) (pc := 73) F dX7_set_73 rfl rfl ?_
              refine pf_X7_120 (pc := 74) F dX7_set_74 (v_4 (by omega)) ?_
              refine x_goto (tgt := 114) (pc := 77) F dX7_set_77 rfl ?_
              refine x_iload (i := 5) (pc := 114) F dX7_set_114 rfl ?_
              refine tq_reti (pc := 116) F dX7_set_116 ?_ rfl rfl rfl
              have hcc := hR0.2.1 c (by omega) (by omega)
              have hlim : 0 ≤ n ∧ n < setLim w := by unfold setLim; split <;> (try split) <;> omega
              refine ⟨by unfold setZ; rw [if_pos (by omega), if_pos hlim]; first | (rw [hcc.2.2.2.1]; congr 1; omega) | (rw [hcc.2.2.2.2.1]; congr 1; omega) | (rw [hcc.2.2.2.2.2.1]; congr 1; omega), ?_, fun o ho => upM_ne (by rintro rfl; exact ho ⟨by simp, by simp, rfl⟩)⟩
              unfold setT; rw [if_pos ⟨by omega, hlim⟩]; exact TR_set hR0 c (by omega) (Or.inl ⟨rfl, by omega, by omega, by omega⟩)
          · try simp only [decide_eq_true_eq, decide_eq_false_iff_not, Bool.and_eq_true, Bool.or_eq_true, Bool.not_eq_true', Bool.not_eq_false', Bool.and_eq_false_iff, Bool.or_eq_false_iff] at h43
            refine x_bipush (pc := 46) F dX7_set_46 (by decide) ?_
            refine tq_reti (pc := 48) F dX7_set_48 ?_ rfl rfl rfl
            exact ⟨by unfold setZ setLim; rw [if_pos (by omega)]; (repeat' split) <;> omega, by unfold setT setLim; rw [if_neg (by split <;> (try split) <;> omega)]; exact hR0, fun o _ => rfl⟩
      · refine x_sipush (pc := 23) F dX7_set_23 (by decide) ?_
        refine x_goto (tgt := 40) (pc := 26) F dX7_set_26 rfl ?_
        refine x_S2z (pc := 40) F dX7_set_40 lk_X7_83 rfl (c_isInW _ _ _ (by omega)) rfl rfl rfl ?_
        rintro _ _ ⟨rfl, rfl⟩
        refine x_if_neB (tgt := 49) (pc := 43) F dX7_set_43 rfl (fun h43 => ?_) (fun h43 => ?_)
        · try simp only [decide_eq_true_eq, decide_eq_false_iff_not, Bool.and_eq_true, Bool.or_eq_true, Bool.not_eq_true', Bool.not_eq_false', Bool.and_eq_false_iff, Bool.or_eq_false_iff] at h43
          refine x_aload_n (i := 0) (pc := 49) F dX7_set_49 rfl rfl ?_
          refine gf_X7_62 (pc := 50) F dX7_set_50 (v_0 (by omega)) ?_
          refine gf_X7_94 (pc := 53) F dX7_set_53 (v_1 (by omega)) ?_
          refine x_iload_n (i := 1) (pc := 56) F dX7_set_56 rfl rfl ?_
          refine tq_pa (pc := 57) F dX7_set_57 (v_11 (by omega)) (by omega) ?_
          refine x_astore (i := 4) (pc := 58) F dX7_set_58 rfl ?_
          refine x_iload_n (i := 2) (pc := 60) F dX7_set_60 rfl rfl ?_
          refine x_if_ne (tgt := 80) (pc := 61) F dX7_set_61 rfl (by omega) (fun h61 => ?_) (fun h61 => ?_)
          · refine x_iload_n (i := 2) (pc := 80) F dX7_set_80 rfl rfl ?_
            refine x_iconst (pc := 81) F dX7_set_81 ?_
            refine x_icmp_ne (tgt := 101) (pc := 82) F dX7_set_82 rfl (by omega) (fun h82 => ?_) (fun h82 => ?_)
            · refine x_aload (i := 4) (pc := 101) F dX7_set_101 rfl ?_
              refine gf_X7_126 (pc := 103) F dX7_set_103 (v_4 (by omega)) ?_
              refine x_istore (i := 5) (pc := 106) F dX7_set_106 rfl ?_
              refine x_aload (i := 4) (pc := 108) F dX7_set_108 rfl ?_
              refine x_iload_n (i := 3) (pc := 110) F dX7_set_110 rfl rfl ?_
              refine pf_X7_126 (pc := 111) F dX7_set_111 (v_4 (by omega)) ?_
              refine x_iload (i := 5) (pc := 114) F dX7_set_114 rfl ?_
              refine tq_reti (pc := 116) F dX7_set_116 ?_ rfl rfl rfl
              have hcc := hR0.2.1 c (by omega) (by omega)
              have hlim : 0 ≤ n ∧ n < setLim w := by unfold setLim; split <;> (try split) <;> omega
              refine ⟨by unfold setZ; rw [if_pos (by omega), if_pos hlim]; first | (rw [hcc.2.2.2.1]; congr 1; omega) | (rw [hcc.2.2.2.2.1]; congr 1; omega) | (rw [hcc.2.2.2.2.2.1]; congr 1; omega), ?_, fun o ho => upM_ne (by rintro rfl; exact ho ⟨by simp, by simp, rfl⟩)⟩
              unfold setT; rw [if_pos ⟨by omega, hlim⟩]; exact TR_set hR0 c (by omega) (Or.inl ⟨rfl, by omega, by omega, by omega⟩)
            · refine x_aload (i := 4) (pc := 85) F dX7_set_85 rfl ?_
              refine gf_X7_123 (pc := 87) F dX7_set_87 (v_4 (by omega)) ?_
              refine x_istore (i := 5) (pc := 90) F dX7_set_90 rfl ?_
              refine x_aload (i := 4) (pc := 92) F dX7_set_92 rfl ?_
              refine x_iload_n (i := 3) (pc := 94) F dX7_set_94 rfl rfl ?_
              refine pf_X7_123 (pc := 95) F dX7_set_95 (v_4 (by omega)) ?_
              refine x_goto (tgt := 114) (pc := 98) F dX7_set_98 rfl ?_
              refine x_iload (i := 5) (pc := 114) F dX7_set_114 rfl ?_
              refine tq_reti (pc := 116) F dX7_set_116 ?_ rfl rfl rfl
              have hcc := hR0.2.1 c (by omega) (by omega)
              have hlim : 0 ≤ n ∧ n < setLim w := by unfold setLim; split <;> (try split) <;> omega
              refine ⟨by unfold setZ; rw [if_pos (by omega), if_pos hlim]; first | (rw [hcc.2.2.2.1]; congr 1; omega) | (rw [hcc.2.2.2.2.1]; congr 1; omega) | (rw [hcc.2.2.2.2.2.1]; congr 1; omega), ?_, fun o ho => upM_ne (by rintro rfl; exact ho ⟨by simp, by simp, rfl⟩)⟩
              unfold setT; rw [if_pos ⟨by omega, hlim⟩]; exact TR_set hR0 c (by omega) (Or.inl ⟨rfl, by omega, by omega, by omega⟩)
          · refine x_aload (i := 4) (pc := 64) F dX7_set_64 rfl ?_
            refine gf_X7_120 (pc := 66) F dX7_set_66 (v_4 (by omega)) ?_
            refine x_istore (i := 5) (pc := 69) F dX7_set_69 rfl ?_
            refine x_aload (i := 4) (pc := 71) F dX7_set_71 rfl ?_
            refine x_iload_n (i := 3) (pc := 73) F dX7_set_73 rfl rfl ?_
            refine pf_X7_120 (pc := 74) F dX7_set_74 (v_4 (by omega)) ?_
            refine x_goto (tgt := 114) (pc := 77) F dX7_set_77 rfl ?_
            refine x_iload (i := 5) (pc := 114) F dX7_set_114 rfl ?_
            refine tq_reti (pc := 116) F dX7_set_116 ?_ rfl rfl rfl
            have hcc := hR0.2.1 c (by omega) (by omega)
            have hlim : 0 ≤ n ∧ n < setLim w := by unfold setLim; split <;> (try split) <;> omega
            refine ⟨by unfold setZ; rw [if_pos (by omega), if_pos hlim]; first | (rw [hcc.2.2.2.1]; congr 1; omega) | (rw [hcc.2.2.2.2.1]; congr 1; omega) | (rw [hcc.2.2.2.2.2.1]; congr 1; omega), ?_, fun o ho => upM_ne (by rintro rfl; exact ho ⟨by simp, by simp, rfl⟩)⟩
            unfold setT; rw [if_pos ⟨by omega, hlim⟩]; exact TR_set hR0 c (by omega) (Or.inl ⟨rfl, by omega, by omega, by omega⟩)
        · try simp only [decide_eq_true_eq, decide_eq_false_iff_not, Bool.and_eq_true, Bool.or_eq_true, Bool.not_eq_true', Bool.not_eq_false', Bool.and_eq_false_iff, Bool.or_eq_false_iff] at h43
          refine x_bipush (pc := 46) F dX7_set_46 (by decide) ?_
          refine tq_reti (pc := 48) F dX7_set_48 ?_ rfl rfl rfl
          exact ⟨by unfold setZ setLim; rw [if_pos (by omega)]; (repeat' split) <;> omega, by unfold setT setLim; rw [if_neg (by split <;> (try split) <;> omega)]; exact hR0, fun o _ => rfl⟩
    · try simp only [decide_eq_true_eq, decide_eq_false_iff_not, Bool.and_eq_true, Bool.or_eq_true, Bool.not_eq_true', Bool.not_eq_false', Bool.and_eq_false_iff, Bool.or_eq_false_iff] at h13
      refine x_iconst (pc := 16) F dX7_set_16 ?_
      refine tq_reti (pc := 17) F dX7_set_17 ?_ rfl rfl rfl
      exact ⟨by unfold setZ; rw [if_neg (by omega)], by unfold setT; rw [if_neg (by omega)]; exact hR0, fun o _ => rfl⟩
set_option maxRecDepth 20000 in
theorem c_X7_row (c w n : Int) (hc : -2147483648 ≤ c ∧ c < 2147483648) (hw : -2147483648 ≤ w ∧ w < 2147483648) (hn : -2147483648 ≤ n ∧ n < 2147483648) (hR0 : TR μ 0 T) (hI : TI T) (l : Launch) (E : Ev) (A : Nat → Prop) : Con l E 3 m_X7_row A (VC nh) ad μ [.ref (ad (0, 0, 0)), .int (I c), .int (I w), .int (I n)] (pi fun z μ' => z = rowZ T c w n ∧ TR μ' 0 (rowT T c w n) ∧ ∀ o, ¬ nwO o → μ' o = μ o) := by
  have h76 := hI.2.2.1
  refine con (own := RX7) (by decide +kernel) rfl rfl rfl (fun Γ F => ?_)
  refine x_aload_n (i := 0) (pc := 0) F dX7_row_0 rfl rfl ?_
  refine x_iload_n (i := 1) (pc := 1) F dX7_row_1 rfl rfl ?_
  refine x_V1z (ci := 7) (pc := 2) F dX7_row_2 lk_X7_102 rfl (v_0 (by omega)) rfl rfl (c_X7_isComer _ (by omega) hR0 hI) rfl rfl rfl ?_
  rintro _ _ ⟨rfl, rfl⟩
  refine x_if_eqB (tgt := 16) (pc := 5) F dX7_row_5 rfl (fun h5 => ?_) (fun h5 => ?_)
  · try simp only [decide_eq_true_eq, decide_eq_false_iff_not, Bool.and_eq_true, Bool.or_eq_true, Bool.not_eq_true', Bool.not_eq_false', Bool.and_eq_false_iff, Bool.or_eq_false_iff] at h5
    refine x_iconst (pc := 16) F dX7_row_16 ?_
    refine tq_reti (pc := 17) F dX7_row_17 ?_ rfl rfl rfl
    exact ⟨by unfold rowZ; rw [if_neg (by omega)], by unfold rowT; rw [if_neg (by omega)]; exact hR0, fun o _ => rfl⟩
  · try simp only [decide_eq_true_eq, decide_eq_false_iff_not, Bool.and_eq_true, Bool.or_eq_true, Bool.not_eq_true', Bool.not_eq_false', Bool.and_eq_false_iff, Bool.or_eq_false_iff] at h5
    refine x_iload_n (i := 2) (pc := 8) F dX7_row_8 rfl rfl ?_
    refine x_iconst (pc := 9) F dX7_row_9 ?_
    refine x_S2z (pc := 10) F dX7_row_10 lk_X7_83 rfl (c_isInW _ _ _ (by omega)) rfl rfl rfl ?_
    rintro _ _ ⟨rfl, rfl⟩
    refine x_if_neB (tgt := 18) (pc := 13) F dX7_row_13 rfl (fun h13 => ?_) (fun h13 => ?_)
    · try simp only [decide_eq_true_eq, decide_eq_false_iff_not, Bool.and_eq_true, Bool.or_eq_true, Bool.not_eq_true', Bool.not_eq_false', Bool.and_eq_false_iff, Bool.or_eq_false_iff] at h13
      refine x_iload_n (i := 3) (pc := 18) F dX7_row_18 rfl rfl ?_
      refine x_bipush (pc := 19) F dX7_row_19 (by decide) ?_
      refine x_S2z (pc := 21) F dX7_row_21 lk_X7_83 rfl (c_isInW _ _ _ (by omega)) rfl rfl rfl ?_
      rintro _ _ ⟨rfl, rfl⟩
      refine x_if_neB (tgt := 30) (pc := 24) F dX7_row_24 rfl (fun h24 => ?_) (fun h24 => ?_)
      · try simp only [decide_eq_true_eq, decide_eq_false_iff_not, Bool.and_eq_true, Bool.or_eq_true, Bool.not_eq_true', Bool.not_eq_false', Bool.and_eq_false_iff, Bool.or_eq_false_iff] at h24
        obtain ⟨c0, c1, c2, c3, c4, c5, c6, c7⟩ := hR0.2.1 c (by omega) (by omega)
        have hkd := (hI.2.1 c (by omega) (by omega)).1
        refine x_aload_n (i := 0) (pc := 30) F dX7_row_30 rfl rfl ?_
        refine gf_X7_62 (pc := 31) F dX7_row_31 (v_0 (by omega)) ?_
        refine gf_X7_94 (pc := 34) F dX7_row_34 (v_1 (by omega)) ?_
        refine x_iload_n (i := 1) (pc := 37) F dX7_row_37 rfl rfl ?_
        refine tq_pa (pc := 38) F dX7_row_38 (v_11 (by omega)) (by omega) ?_
        refine x_astore (i := 4) (pc := 39) F dX7_row_39 rfl ?_
        refine x_aload (i := 4) (pc := 41) F dX7_row_41 rfl ?_
        refine gf_X7_114 (pc := 43) F dX7_row_43 (v_4 (by omega)) ?_
        rw [c1]
        refine x_bipush (pc := 46) F dX7_row_46 (by decide) ?_
        refine x_icmp_eq (tgt := 54) (pc := 48) F dX7_row_48 rfl (by omega) (fun h48 => ?_) (fun h48 => ?_)
        · refine x_aload (i := 4) (pc := 54) F dX7_row_54 rfl ?_
          refine gf_X7_159 (pc := 56) F dX7_row_56 (v_4 (by omega)) ?_
          refine x_iload_n (i := 2) (pc := 59) F dX7_row_59 rfl rfl ?_
          refine tq_ia (pc := 60) F dX7_row_60 (v_5 (by omega)) rfl (fun _ => rfl) (by omega) ?_
          refine x_istore (i := 5) (pc := 61) F dX7_row_61 rfl ?_
          refine x_aload (i := 4) (pc := 63) F dX7_row_63 rfl ?_
          refine gf_X7_159 (pc := 65) F dX7_row_65 (v_4 (by omega)) ?_
          refine x_iload_n (i := 2) (pc := 68) F dX7_row_68 rfl rfl ?_
          refine x_iload_n (i := 3) (pc := 69) F dX7_row_69 rfl rfl ?_
          refine tq_ias (pc := 70) F dX7_row_70 (v_5 (by omega)) rfl (fun _ => rfl) (by omega) ?_
          refine x_iload (i := 5) (pc := 71) F dX7_row_71 rfl ?_
          refine tq_reti (pc := 73) F dX7_row_73 ?_ rfl rfl rfl
          refine ⟨by unfold rowZ; rw [if_pos (by omega), if_pos (by omega), if_pos (by omega)]; exact c7 w (by omega) (by omega), ?_, fun o ho => upM_ne (by rintro rfl; exact ho ⟨by simp, by simp, rfl⟩)⟩
          unfold rowT; rw [if_pos (by omega)]; exact TR_set hR0 c (by omega) (Or.inr ⟨rfl, by omega, by omega, by omega⟩)
        · refine x_bipush (pc := 51) F dX7_row_51 (by decide) ?_
          refine tq_reti (pc := 53) F dX7_row_53 ?_ rfl rfl rfl
          exact ⟨by unfold rowZ; rw [if_pos (by omega), if_pos (by omega), if_neg (by omega)], by unfold rowT; rw [if_neg (by omega)]; exact hR0, fun o _ => rfl⟩
      · try simp only [decide_eq_true_eq, decide_eq_false_iff_not, Bool.and_eq_true, Bool.or_eq_true, Bool.not_eq_true', Bool.not_eq_false', Bool.and_eq_false_iff, Bool.or_eq_false_iff] at h24
        refine x_bipush (pc := 27) F dX7_row_27 (by decide) ?_
        refine tq_reti (pc := 29) F dX7_row_29 ?_ rfl rfl rfl
        exact ⟨by unfold rowZ; rw [if_pos (by omega), if_neg (by omega)], by unfold rowT; rw [if_neg (by omega)]; exact hR0, fun o _ => rfl⟩
    · try simp only [decide_eq_true_eq, decide_eq_false_iff_not, Bool.and_eq_true, Bool.or_eq_true, Bool.not_eq_true', Bool.not_eq_false', Bool.and_eq_false_iff, Bool.or_eq_false_iff] at h13
      refine x_iconst (pc := 16) F dX7_row_16 ?_
      refine tq_reti (pc := 17) F dX7_row_17 ?_ rfl rfl rfl
      exact ⟨by unfold rowZ; rw [if_neg (by omega)], by unfold rowT; rw [if_neg (by omega)]; exact hR0, fun o _ => rfl⟩
set_option maxRecDepth 20000 in
theorem c_X7_like (c g k : Int) (hc : -2147483648 ≤ c ∧ c < 2147483648) (hg : -2147483648 ≤ g ∧ g < 2147483648) (hk : -2147483648 ≤ k ∧ k < 2147483648) (hR0 : TR μ 0 T) (hI : TI T) (hH : HRel μ nh (T 78) S) (hd : T 77 ≤ 9999) (l : Launch) (E : Ev) (A : Nat → Prop) : Con l E 5 m_X7_like A (VC nh) ad μ [.ref (ad (0, 0, 0)), .int (I c), .int (I g), .int (I k)] (pi fun z μ' => z = likeZ S T c g k ∧ μ = μ') := by
  have h76 := hI.2.2.1
  refine con (own := RX7) (by decide +kernel) rfl rfl rfl (fun Γ F => ?_)
  refine x_aload_n (i := 0) (pc := 0) F dX7_like_0 rfl rfl ?_
  refine x_iload_n (i := 1) (pc := 1) F dX7_like_1 rfl rfl ?_
  refine x_V1z (ci := 7) (pc := 2) F dX7_like_2 lk_X7_102 rfl (v_0 (by omega)) rfl rfl (c_X7_isComer _ (by omega) hR0 hI) rfl rfl rfl ?_
  rintro _ _ ⟨rfl, rfl⟩
  refine x_if_eqB (tgt := 35) (pc := 5) F dX7_like_5 rfl (fun h5 => ?_) (fun h5 => ?_)
  · try simp only [decide_eq_true_eq, decide_eq_false_iff_not, Bool.and_eq_true, Bool.or_eq_true, Bool.not_eq_true', Bool.not_eq_false', Bool.and_eq_false_iff, Bool.or_eq_false_iff] at h5
    refine x_sipush (pc := 35) F dX7_like_35 (by decide) ?_
    refine tq_reti (pc := 38) F dX7_like_38 ?_ rfl rfl rfl
    exact ⟨by unfold likeZ; rw [if_neg (by omega)], rfl⟩
  · try simp only [decide_eq_true_eq, decide_eq_false_iff_not, Bool.and_eq_true, Bool.or_eq_true, Bool.not_eq_true', Bool.not_eq_false', Bool.and_eq_false_iff, Bool.or_eq_false_iff] at h5
    refine x_iload_n (i := 2) (pc := 8) F dX7_like_8 rfl rfl ?_
    refine x_iconst (pc := 9) F dX7_like_9 ?_
    refine x_S2z (pc := 10) F dX7_like_10 lk_X7_83 rfl (c_isInW _ _ _ (by omega)) rfl rfl rfl ?_
    rintro _ _ ⟨rfl, rfl⟩
    refine x_if_eqB (tgt := 35) (pc := 13) F dX7_like_13 rfl (fun h13 => ?_) (fun h13 => ?_)
    · try simp only [decide_eq_true_eq, decide_eq_false_iff_not, Bool.and_eq_true, Bool.or_eq_true, Bool.not_eq_true', Bool.not_eq_false', Bool.and_eq_false_iff, Bool.or_eq_false_iff] at h13
      refine x_sipush (pc := 35) F dX7_like_35 (by decide) ?_
      refine tq_reti (pc := 38) F dX7_like_38 ?_ rfl rfl rfl
      exact ⟨by unfold likeZ; rw [if_neg (by omega)], rfl⟩
    · try simp only [decide_eq_true_eq, decide_eq_false_iff_not, Bool.and_eq_true, Bool.or_eq_true, Bool.not_eq_true', Bool.not_eq_false', Bool.and_eq_false_iff, Bool.or_eq_false_iff] at h13
      obtain ⟨g0, g1⟩ := hR0.1 g (by omega) (by omega)
      have hgi := hI.1 g (by omega) (by omega)
      refine x_iload_n (i := 3) (pc := 16) F dX7_like_16 rfl rfl ?_
      refine x_aload_n (i := 0) (pc := 17) F dX7_like_17 rfl rfl ?_
      refine gf_X7_62 (pc := 18) F dX7_like_18 (v_0 (by omega)) ?_
      refine gf_X7_135 (pc := 21) F dX7_like_21 (v_1 (by omega)) ?_
      refine x_iload_n (i := 2) (pc := 24) F dX7_like_24 rfl rfl ?_
      refine tq_ga (pc := 25) F dX7_like_25 (v_10 (by omega)) (by omega) ?_
      refine gf_X7_139 (pc := 26) F dX7_like_26 (v_2 (by omega)) ?_
      rw [g0]
      have hgi1 := hgi.1
      refine x_S2z (pc := 29) F dX7_like_29 lk_X7_83 rfl (c_isInW _ _ _ (by omega)) rfl rfl rfl ?_
      rintro _ _ ⟨rfl, rfl⟩
      refine x_if_neB (tgt := 39) (pc := 32) F dX7_like_32 rfl (fun h32 => ?_) (fun h32 => ?_)
      · try simp only [decide_eq_true_eq, decide_eq_false_iff_not, Bool.and_eq_true, Bool.or_eq_true, Bool.not_eq_true', Bool.not_eq_false', Bool.and_eq_false_iff, Bool.or_eq_false_iff] at h32
        refine x_aload_n (i := 0) (pc := 39) F dX7_like_39 rfl rfl ?_
        refine gf_X7_62 (pc := 40) F dX7_like_40 (v_0 (by omega)) ?_
        refine x_aload_n (i := 0) (pc := 43) F dX7_like_43 rfl rfl ?_
        refine gf_X7_62 (pc := 44) F dX7_like_44 (v_0 (by omega)) ?_
        refine gf_X7_94 (pc := 47) F dX7_like_47 (v_1 (by omega)) ?_
        refine x_iload_n (i := 1) (pc := 50) F dX7_like_50 rfl rfl ?_
        refine tq_pa (pc := 51) F dX7_like_51 (v_11 (by omega)) (by omega) ?_
        refine x_iload_n (i := 2) (pc := 52) F dX7_like_52 rfl rfl ?_
        refine x_aload_n (i := 0) (pc := 53) F dX7_like_53 rfl rfl ?_
        refine gf_X7_62 (pc := 54) F dX7_like_54 (v_0 (by omega)) ?_
        refine gf_X7_135 (pc := 57) F dX7_like_57 (v_1 (by omega)) ?_
        refine x_iload_n (i := 2) (pc := 60) F dX7_like_60 rfl rfl ?_
        refine tq_ga (pc := 61) F dX7_like_61 (v_10 (by omega)) (by omega) ?_
        refine gf_X7_142 (pc := 62) F dX7_like_62 (v_2 (by omega)) ?_
        refine x_iload_n (i := 3) (pc := 65) F dX7_like_65 rfl rfl ?_
        have hw := hgi.2 k (by omega) (by omega)
        refine tq_ia (pc := 66) F dX7_like_66 (v_3 (by omega)) rfl (fun _ => rfl) (by omega) ?_
        rw [g1 k (by omega) (by omega)]
        refine x_V3i (ci := 6) (pc := 67) F dX7_like_67 lk_X7_145 rfl (v_1 (by omega)) rfl rfl (c_X6_likeToWalk _ (hR0.town hI hH (by omega) (by omega)) (hR0.comer hI (by omega) (by omega) (by omega)) (by omega) (by omega)) rfl rfl rfl ?_
        rintro _ _ ⟨rfl, rfl⟩
        refine tq_reti (pc := 70) F dX7_like_70 ?_ rfl rfl rfl
        refine ⟨?_, rfl⟩
        unfold likeZ; rw [if_pos (by omega), hR0.lb (by omega) (by omega), hR0.bn hH (by omega), (hR0.2.1 c (by omega) (by omega)).2.2.2.1, alk_c]; rfl
      · try simp only [decide_eq_true_eq, decide_eq_false_iff_not, Bool.and_eq_true, Bool.or_eq_true, Bool.not_eq_true', Bool.not_eq_false', Bool.and_eq_false_iff, Bool.or_eq_false_iff] at h32
        refine x_sipush (pc := 35) F dX7_like_35 (by decide) ?_
        refine tq_reti (pc := 38) F dX7_like_38 ?_ rfl rfl rfl
        exact ⟨by unfold likeZ; rw [if_neg (by omega)], rfl⟩
set_option maxRecDepth 20000 in
theorem c_X7_teach (g c : Int) (hc : -2147483648 ≤ c ∧ c < 2147483648) (hg : -2147483648 ≤ g ∧ g < 2147483648) (hR0 : TR μ 0 T) (hI : TI T) (l : Launch) (E : Ev) (A : Nat → Prop) : Con l E 4 m_X7_teach A (VC nh) ad μ [.ref (ad (0, 0, 0)), .int (I g), .int (I c)] (pi fun z μ' => z = teachZ T g c ∧ TR μ' 0 (teachT T g c) ∧ ∀ o, ¬ nwO o → μ' o = μ o) := by
  have h76 := hI.2.2.1
  refine con (own := RX7) (by decide +kernel) rfl rfl rfl (fun Γ F => ?_)
  refine x_iload_n (i := 1) (pc := 0) F dX7_teach_0 rfl rfl ?_
  refine x_iconst (pc := 1) F dX7_teach_1 ?_
  refine x_S2z (pc := 2) F dX7_teach_2 lk_X7_83 rfl (c_isInW _ _ _ (by omega)) rfl rfl rfl ?_
  rintro _ _ ⟨rfl, rfl⟩
  refine x_if_eqB (tgt := 16) (pc := 5) F dX7_teach_5 rfl (fun h5 => ?_) (fun h5 => ?_)
  · try simp only [decide_eq_true_eq, decide_eq_false_iff_not, Bool.and_eq_true, Bool.or_eq_true, Bool.not_eq_true', Bool.not_eq_false', Bool.and_eq_false_iff, Bool.or_eq_false_iff] at h5
    refine x_iconst (pc := 16) F dX7_teach_16 ?_
    refine tq_reti (pc := 17) F dX7_teach_17 ?_ rfl rfl rfl
    exact ⟨by unfold teachZ; rw [if_neg (by omega)], by unfold teachT; rw [if_neg (by omega)]; exact hR0, fun o _ => rfl⟩
  · try simp only [decide_eq_true_eq, decide_eq_false_iff_not, Bool.and_eq_true, Bool.or_eq_true, Bool.not_eq_true', Bool.not_eq_false', Bool.and_eq_false_iff, Bool.or_eq_false_iff] at h5
    refine x_aload_n (i := 0) (pc := 8) F dX7_teach_8 rfl rfl ?_
    refine x_iload_n (i := 2) (pc := 9) F dX7_teach_9 rfl rfl ?_
    refine x_V1z (ci := 7) (pc := 10) F dX7_teach_10 lk_X7_102 rfl (v_0 (by omega)) rfl rfl (c_X7_isComer _ (by omega) hR0 hI) rfl rfl rfl ?_
    rintro _ _ ⟨rfl, rfl⟩
    refine x_if_neB (tgt := 18) (pc := 13) F dX7_teach_13 rfl (fun h13 => ?_) (fun h13 => ?_)
    · try simp only [decide_eq_true_eq, decide_eq_false_iff_not, Bool.and_eq_true, Bool.or_eq_true, Bool.not_eq_true', Bool.not_eq_false', Bool.and_eq_false_iff, Bool.or_eq_false_iff] at h13
      have hcw := (hR0.2.1 c (by omega) (by omega)).2.2.2.1
      have hcI := (hI.2.1 c (by omega) (by omega)).2.2.1
      have hgg := hR0.gate hI (g := g) (by omega)
      refine x_aload_n (i := 0) (pc := 18) F dX7_teach_18 rfl rfl ?_
      refine gf_X7_62 (pc := 19) F dX7_teach_19 (v_0 (by omega)) ?_
      refine gf_X7_135 (pc := 22) F dX7_teach_22 (v_1 (by omega)) ?_
      refine x_iload_n (i := 1) (pc := 25) F dX7_teach_25 rfl rfl ?_
      refine tq_ga (pc := 26) F dX7_teach_26 (v_10 (by omega)) (by omega) ?_
      refine x_aload_n (i := 0) (pc := 27) F dX7_teach_27 rfl rfl ?_
      refine gf_X7_62 (pc := 28) F dX7_teach_28 (v_0 (by omega)) ?_
      refine gf_X7_94 (pc := 31) F dX7_teach_31 (v_1 (by omega)) ?_
      refine x_iload_n (i := 2) (pc := 34) F dX7_teach_34 rfl rfl ?_
      refine tq_pa (pc := 35) F dX7_teach_35 (v_11 (by omega)) (by omega) ?_
      refine gf_X7_120 (pc := 36) F dX7_teach_36 (v_4 (by omega)) ?_
      rw [hcw]
      refine x_V1i (ci := 1) (pc := 39) F dX7_teach_39 lk_X7_156 rfl (v_2 (by omega)) rfl rfl (c_X1_learn _ (by omega) hgg.1 hgg.2 (by omega)) rfl rfl rfl ?_
      rintro z μ2 ⟨rfl, e1, e2, e3⟩
      refine tq_reti (pc := 42) F dX7_teach_42 ?_ rfl rfl rfl
      refine ⟨?_, by unfold teachT; rw [if_pos (by omega)]; exact TR_tau hR0 (by omega) e1 e2 e3, fun o ho => e3 o (by rintro rfl; exact ho ⟨by simp, by simp, rfl⟩) (by rintro rfl; exact ho ⟨by simp, by simp, rfl⟩)⟩
      obtain ⟨g0, g1⟩ := hR0.1 g (by omega) (by omega)
      unfold teachZ lostT; rw [if_pos (by omega), g0]; exact lostS_c g1
    · try simp only [decide_eq_true_eq, decide_eq_false_iff_not, Bool.and_eq_true, Bool.or_eq_true, Bool.not_eq_true', Bool.not_eq_false', Bool.and_eq_false_iff, Bool.or_eq_false_iff] at h13
      refine x_iconst (pc := 16) F dX7_teach_16 ?_
      refine tq_reti (pc := 17) F dX7_teach_17 ?_ rfl rfl rfl
      exact ⟨by unfold teachZ; rw [if_neg (by omega)], by unfold teachT; rw [if_neg (by omega)]; exact hR0, fun o _ => rfl⟩
set_option maxRecDepth 20000 in
theorem c_X7_forget (g : Int) (hg : -2147483648 ≤ g ∧ g < 2147483648) (hR0 : TR μ 0 T) (hI : TI T) (l : Launch) (E : Ev) (A : Nat → Prop) : Con l E 4 m_X7_forget A (VC nh) ad μ [.ref (ad (0, 0, 0)), .int (I g)] (pi fun z μ' => z = forgetZ T g ∧ TR μ' 0 (forgetT T g) ∧ ∀ o, ¬ nwO o → μ' o = μ o) := by
  refine con (own := RX7) (by decide +kernel) rfl rfl rfl (fun Γ F => ?_)
  refine x_iload_n (i := 1) (pc := 0) F dX7_forget_0 rfl rfl ?_
  refine x_iconst (pc := 1) F dX7_forget_1 ?_
  refine x_S2z (pc := 2) F dX7_forget_2 lk_X7_83 rfl (c_isInW _ _ _ (by omega)) rfl rfl rfl ?_
  rintro _ _ ⟨rfl, rfl⟩
  refine x_if_neB (tgt := 10) (pc := 5) F dX7_forget_5 rfl (fun h5 => ?_) (fun h5 => ?_)
  · try simp only [decide_eq_true_eq, decide_eq_false_iff_not, Bool.and_eq_true, Bool.or_eq_true, Bool.not_eq_true', Bool.not_eq_false', Bool.and_eq_false_iff, Bool.or_eq_false_iff] at h5
    refine x_aload_n (i := 0) (pc := 10) F dX7_forget_10 rfl rfl ?_
    refine gf_X7_62 (pc := 11) F dX7_forget_11 (v_0 (by omega)) ?_
    refine gf_X7_135 (pc := 14) F dX7_forget_14 (v_1 (by omega)) ?_
    refine x_iload_n (i := 1) (pc := 17) F dX7_forget_17 rfl rfl ?_
    refine tq_ga (pc := 18) F dX7_forget_18 (v_10 (by omega)) (by omega) ?_
    refine gf_X7_139 (pc := 19) F dX7_forget_19 (v_2 (by omega)) ?_
    refine x_istore_n (i := 2) (pc := 22) F dX7_forget_22 rfl rfl ?_
    refine x_aload_n (i := 0) (pc := 23) F dX7_forget_23 rfl rfl ?_
    refine gf_X7_62 (pc := 24) F dX7_forget_24 (v_0 (by omega)) ?_
    refine gf_X7_135 (pc := 27) F dX7_forget_27 (v_1 (by omega)) ?_
    refine x_iload_n (i := 1) (pc := 30) F dX7_forget_30 rfl rfl ?_
    refine tq_ga (pc := 31) F dX7_forget_31 (v_10 (by omega)) (by omega) ?_
    refine x_iconst (pc := 32) F dX7_forget_32 ?_
    refine pf_X7_139 (pc := 33) F dX7_forget_33 (v_2 (by omega)) ?_
    refine x_iload_n (i := 2) (pc := 36) F dX7_forget_36 rfl rfl ?_
    refine tq_reti (pc := 37) F dX7_forget_37 ?_ rfl rfl rfl
    refine ⟨by unfold forgetZ; rw [if_pos (by omega)]; exact (hR0.1 g (by omega) (by omega)).1, by unfold forgetT; rw [if_pos (by omega)]; exact TR_forget hR0 (by omega), fun o ho => upM_ne (by rintro rfl; exact ho ⟨by simp, by simp, rfl⟩)⟩
  · try simp only [decide_eq_true_eq, decide_eq_false_iff_not, Bool.and_eq_true, Bool.or_eq_true, Bool.not_eq_true', Bool.not_eq_false', Bool.and_eq_false_iff, Bool.or_eq_false_iff] at h5
    refine x_iconst (pc := 8) F dX7_forget_8 ?_
    refine tq_reti (pc := 9) F dX7_forget_9 ?_ rfl rfl rfl
    exact ⟨by unfold forgetZ; rw [if_neg (by omega)], by unfold forgetT; rw [if_neg (by omega)]; exact hR0, fun o _ => rfl⟩
end CLS1
