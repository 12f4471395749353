/-! ===== Reader: words, one of ===== -/
theorem mtc_at {tx : Tn} {tl : Int} : ∀ (w : List Int) (a : Int) (k : Nat), k ≤ w.length → (∀ j : Nat, j < k → chA tx tl (a + j) = w.getD j 0) → (k = w.length ∨ chA tx tl (a + k) ≠ w.getD k 0) → mtc tx tl w a = k
  | [], a, k, h1, _, _ => by simp at h1; simp [mtc, h1]
  | c :: w, a, 0, _, _, h3 => by
    rcases h3 with h3 | h3
    · simp at h3
    · simp only [mtc]
      rw [if_neg (by simpa using h3)]
  | c :: w, a, k + 1, h1, h2, h3 => by
    have e0 := h2 0 (by omega)
    simp only [mtc]
    rw [if_pos (by simpa using e0)]
    rw [mtc_at w (a + 1) k (by simpa using h1) (fun j hj => by have := h2 (j + 1) (by omega); rw [show a + 1 + (j : Int) = a + ((j + 1 : Nat) : Int) by omega, this]; rfl) (by
      rcases h3 with h3 | h3
      · left; simpa using h3
      · right; rw [show a + 1 + (k : Int) = a + ((k + 1 : Nat) : Int) by omega]; exact h3)]
theorem stC_wd : ∀ i < 4, ∀ j < 6, stC i ((j : Nat) : Int) = (wdL ((i : Nat) : Int)).getD j 0 ∨ (wdL ((i : Nat) : Int)).length ≤ j := by decide
theorem stN_wd : ∀ i < 4, stN i = (wdL ((i : Nat) : Int)).length := by decide
section WORDS
variable {ad : Ob → Nat} {μ : Me} {nh : Int} {tx : Tn} {tl a : Int}
set_option maxRecDepth 20000 in
theorem c_X3_wordOf (V : Ob → Prop) (w : Nat) (hw : w < 4) (l : Launch) (E : Ev) (A : Nat → Prop) : Con l E 0 m_X3_wordOf A V ad μ [.int (I w)] (pr fun z μ' => z = stA E w ∧ μ = μ') := by
  refine conE (own := RX3) (by decide +kernel) rfl rfl rfl (fun Γ F hE => ?_)
  subst hE
  refine x_iload_n (i := 0) (pc := 0) F dX3_wordOf_0 rfl rfl ?_
  refine x_tab (ts := [28, 31, 34]) (dt := 37) (pc := 1) F dX3_wordOf_1 rfl rfl (by omega) ⟨fun h1 => ?_, fun h1 => ?_, fun h1 => ?_, trivial⟩ (fun h1 => ?_)
  · refine x_ldcS (i := 0) (pc := 28) F dX3_wordOf_28 rfl ?_
    refine tq_retr (pc := 30) F dX3_wordOf_30 ?_ rfl rfl rfl
    exact ⟨by rw [show w = 0 by omega], rfl⟩
  · refine x_ldcS (i := 1) (pc := 31) F dX3_wordOf_31 rfl ?_
    refine tq_retr (pc := 33) F dX3_wordOf_33 ?_ rfl rfl rfl
    exact ⟨by rw [show w = 1 by omega], rfl⟩
  · refine x_ldcS (i := 2) (pc := 34) F dX3_wordOf_34 rfl ?_
    refine tq_retr (pc := 36) F dX3_wordOf_36 ?_ rfl rfl rfl
    exact ⟨by rw [show w = 2 by omega], rfl⟩
  · refine x_ldcS (i := 3) (pc := 37) F dX3_wordOf_37 rfl ?_
    refine tq_retr (pc := 39) F dX3_wordOf_39 ?_ rfl rfl rfl
    exact ⟨by rw [show w = 3 by omega], rfl⟩
set_option maxRecDepth 20000 in
theorem c_X3_sameSigns (i : Nat) (hi4 : i < 4) (hX : TX μ tx tl) (ha : μ (15, 0, 0) 2 = a) (h0 : 0 ≤ a ∧ a ≤ tl) (l : Launch) (E : Ev) (A : Nat → Prop) : Con l E 4 m_X3_sameSigns A (VC nh) ad μ [.ref (ad (15, 0, 0)), .ref (stA E i)] (pi fun z μ' => z = mtc tx tl (wdL ((i : Nat) : Int)) a ∧ μ = μ') := by
  have hi : i < 6 := by omega
  have hlw := stN_wd i hi4
  have hl2 := wdL_len ((i : Nat) : Int)
  obtain ⟨⟨x1, x2, x3⟩, x4⟩ := id hX
  refine conE (own := RX3) (by decide +kernel) rfl rfl rfl (fun Γ F hE => ?_)
  subst hE
  have loop : ∀ (N : Nat) (k : Nat), (wdL ((i : Nat) : Int)).length - k < N → k ≤ (wdL ((i : Nat) : Int)).length → (∀ j : Nat, j < k → chA tx tl (a + j) = (wdL ((i : Nat) : Int)).getD j 0) → XX Γ 3 (VC nh) ad (vl ad μ) 0 0 2 [(0, .ref (ad (15, 0, 0))), (1, .ref (stA (gE Γ) i)), (2, .int (I k))] [] := by
    intro N
    induction N with
    | zero => intro k a1; omega
    | succ N ih =>
      intro k a1 a2 a3
      have hm := mtc_at (tx := tx) (tl := tl) (wdL ((i : Nat) : Int)) a k a2 a3
      refine x_iload_n (i := 2) (pc := 2) F dX3_sameSigns_2 rfl rfl ?_
      refine x_aload_n (i := 1) (pc := 3) F dX3_sameSigns_3 rfl rfl ?_
      refine x_callSV (As := []) (mc2 := 0) (ms2 := 0) (d2 := 1) (pc := 4) F dX3_sameSigns_4 lk_X3_67 hi rfl rfl rfl rfl rfl rfl (fun l A ↦ c_slen hi l _ A) ?_
      rintro v V' ad' ν' ⟨hv1, hv2, μ', rfl, z, rfl, rfl, rfl⟩
      subst V' ad'
      refine x_icmp_ge (tgt := 48) (pc := 7) F dX3_sameSigns_7 rfl (by omega) (fun h7 => ?_) (fun h7 => ?_)
      · refine x_iload_n (i := 2) (pc := 48) F dX3_sameSigns_48 rfl rfl ?_
        refine tq_reti (pc := 49) F dX3_sameSigns_49 ?_ rfl rfl rfl
        first | exact ⟨by rw [hm (Or.inl (by omega))], rfl⟩ | exact ⟨by rw [hm (Or.inr (by rw [hch]; omega))], rfl⟩ | exact ⟨by rw [hm (Or.inr (by have hc : chA tx tl (a + k) = -1 := (by unfold chA; rw [if_neg (by omega)]); have hsw := stC_wd i hi4 k (by omega); have hcr := stC_rg (j := (k : Int)) hi (by omega); rw [hc]; omega))], rfl⟩
      · refine x_aload_n (i := 0) (pc := 10) F dX3_sameSigns_10 rfl rfl ?_
        refine gf_X3_24 (pc := 11) F dX3_sameSigns_11 (v_15 (by omega)) ?_
        refine x_iload_n (i := 2) (pc := 14) F dX3_sameSigns_14 rfl rfl ?_
        refine x_iadd (pc := 15) F dX3_sameSigns_15 ?_
        refine x_aload_n (i := 0) (pc := 16) F dX3_sameSigns_16 rfl rfl ?_
        refine gf_X3_32 (pc := 17) F dX3_sameSigns_17 (v_15 (by omega)) ?_
        refine x_icmp_ge (tgt := 48) (pc := 20) F dX3_sameSigns_20 rfl (by omega) (fun h20 => ?_) (fun h20 => ?_)
        · refine x_iload_n (i := 2) (pc := 48) F dX3_sameSigns_48 rfl rfl ?_
          refine tq_reti (pc := 49) F dX3_sameSigns_49 ?_ rfl rfl rfl
          first | exact ⟨by rw [hm (Or.inl (by omega))], rfl⟩ | exact ⟨by rw [hm (Or.inr (by rw [hch]; omega))], rfl⟩ | exact ⟨by rw [hm (Or.inr (by have hc : chA tx tl (a + k) = -1 := (by unfold chA; rw [if_neg (by omega)]); have hsw := stC_wd i hi4 k (by omega); have hcr := stC_rg (j := (k : Int)) hi (by omega); rw [hc]; omega))], rfl⟩
        · refine x_aload_n (i := 0) (pc := 23) F dX3_sameSigns_23 rfl rfl ?_
          refine gf_X3_9 (pc := 24) F dX3_sameSigns_24 (v_15 (by omega)) ?_
          refine x_aload_n (i := 0) (pc := 27) F dX3_sameSigns_27 rfl rfl ?_
          refine gf_X3_24 (pc := 28) F dX3_sameSigns_28 (v_15 (by omega)) ?_
          refine x_iload_n (i := 2) (pc := 31) F dX3_sameSigns_31 rfl rfl ?_
          refine x_iadd (pc := 32) F dX3_sameSigns_32 ?_
          have hh := x4 (a + k) (by omega) (by omega)
          have hch : chA tx tl (a + k) = tx (a + k) := by unfold chA; rw [if_pos (by omega)]
          have hsw := stC_wd i hi4 k (by omega)
          have hcr := stC_rg (j := (k : Int)) hi (by omega)
          refine tq_ba (pc := 33) F dX3_sameSigns_33 (v_16 (by omega)) rfl (fun _ => rfl) (by omega) ?_
          refine x_aload_n (i := 1) (pc := 34) F dX3_sameSigns_34 rfl rfl ?_
          refine x_iload_n (i := 2) (pc := 35) F dX3_sameSigns_35 rfl rfl ?_
          refine x_callSV (As := [.int (I k)]) (mc2 := 0) (ms2 := 0) (d2 := 3) (pc := 36) F dX3_sameSigns_36 lk_X3_83 hi rfl rfl rfl rfl rfl rfl (fun l A ↦ c_char hi (by omega) l _ A) ?_
          rintro v V' ad' ν' ⟨hv1, hv2, μ', rfl, z, rfl, rfl, rfl⟩
          subst V' ad'
          rw [ha, hh.1]
          refine x_icmp_ne (tgt := 48) (pc := 39) F dX3_sameSigns_39 rfl (by omega) (fun h39 => ?_) (fun h39 => ?_)
          · refine x_iload_n (i := 2) (pc := 48) F dX3_sameSigns_48 rfl rfl ?_
            refine tq_reti (pc := 49) F dX3_sameSigns_49 ?_ rfl rfl rfl
            first | exact ⟨by rw [hm (Or.inl (by omega))], rfl⟩ | exact ⟨by rw [hm (Or.inr (by rw [hch]; omega))], rfl⟩ | exact ⟨by rw [hm (Or.inr (by have hc : chA tx tl (a + k) = -1 := (by unfold chA; rw [if_neg (by omega)]); have hsw := stC_wd i hi4 k (by omega); have hcr := stC_rg (j := (k : Int)) hi (by omega); rw [hc]; omega))], rfl⟩
          · refine x_iinc (pc := 42) F dX3_sameSigns_42 rfl rfl ?_
            refine x_goto (tgt := 2) (pc := 45) F dX3_sameSigns_45 rfl ?_
            exact x_sub (L' := [(0, .ref (ad (15, 0, 0))), (1, .ref (stA (gE Γ) i)), (2, .int (I ((k + 1 : Nat) : Int)))]) ⟨rfl, rfl, rfl, trivial⟩ (ih (k + 1) (by omega) (by omega) (fun j hj => by by_cases e : j = k; (subst e; rw [hch]; omega); exact a3 j (by omega)))
  refine x_iconst (pc := 0) F dX3_sameSigns_0 ?_
  refine x_istore_n (i := 2) (pc := 1) F dX3_sameSigns_1 rfl rfl ?_
  exact x_sub (L' := [(0, .ref (ad (15, 0, 0))), (1, .ref (stA (gE Γ) i)), (2, .int (I ((0 : Nat) : Int)))]) ⟨rfl, rfl, rfl, trivial⟩ (loop 7 0 (by omega) (by omega) (fun j hj => absurd hj (Nat.not_lt_zero j)))
end WORDS
