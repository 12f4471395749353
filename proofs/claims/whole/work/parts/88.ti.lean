/-! ===== what the calls leave is a town again ===== -/
/-- a town whose numbers below 79 are as told, and whose rows of CLAUSES SEEN, PLAN, BOOK are those of T -/
theorem RI_up {T T' : Tn} (h : RI T) (h76 : T 76 ≤ T' 76) (e : ∀ k, 79 ≤ k → T' k = T k) : RI T' := by
  obtain ⟨a1, a2, a3, a4, a5, a6⟩ := h
  refine ⟨by rw [e 79 (by omega)]; exact a1, fun k x y => ?_, by rw [e 95 (by omega)]; exact a3, fun k x y => ?_, by rw [e 116 (by omega)]; exact a5, fun k x y => ?_⟩
  · rw [e 79 (by omega)] at y
    rw [e (80 + 3 * k) (by omega), e (81 + 3 * k) (by omega), e (82 + 3 * k) (by omega)]
    have := a2 k x y
    omega
  · rw [e 95 (by omega)] at y
    rw [e (96 + 2 * k) (by omega), e (97 + 2 * k) (by omega)]
    have := a4 k x y
    unfold PI1 at this ⊢
    omega
  · rw [e 116 (by omega)] at y
    rw [e (117 + 2 * k) (by omega), e (118 + 2 * k) (by omega)]
    have := a6 k x y
    omega
theorem comerZ_rg {T : Tn} {kd v w g : Int} (hI : TI T) (h : 0 ≤ comerZ T kd v w g) : (0 ≤ kd ∧ kd < 7) ∧ (0 ≤ g ∧ g < 4) ∧ (0 ≤ v ∧ v < 10) ∧ (0 ≤ w ∧ w < 4096) ∧ T 76 < 6 := by
  unfold comerZ at h
  split at h
  · split at h
    · split at h
      · rename_i h1 h2 h3
        exact ⟨h1.1, h1.2, h2.1, h2.2, h3⟩
      · omega
    · omega
  · omega
theorem comerT_TI {T : Tn} {kd v w g : Int} (hI : TI T) : TI (comerT T kd v w g) := by
  unfold comerT
  split
  · rename_i h
    obtain ⟨r1, r2, r3, r4, r5⟩ := comerZ_rg hI h
    obtain ⟨i1, i2, i3, i4, i5, i6⟩ := hI
    have lo : ∀ k, k < 16 ∨ 77 ≤ k → comerN T kd v w g k = T k := fun k hk => by
      unfold comerN
      rw [if_neg (by omega), if_neg (by omega), if_neg (by omega), if_neg (by omega), if_neg (by omega), if_neg (by omega)]
    have e76 : comerN T kd v w g 76 = T 76 + 1 := by unfold comerN; rw [if_pos rfl]
    refine ⟨fun q a b => ?_, fun p a b => ?_, by rw [e76]; omega, by rw [lo 77 (by omega)]; exact i4, by rw [lo 78 (by omega)]; exact i5, RI_up i6 (by rw [e76]; omega) (fun k hk => lo k (by omega))⟩
    · have g1 := i1 q a b
      refine ⟨by rw [lo _ (by omega)]; exact g1.1, fun k x y => by rw [lo _ (by omega)]; exact g1.2 k x y⟩
    · obtain ⟨c1, c2, c3, c4, c5, c6, c7⟩ := i2 p a b
      unfold CI
      rw [lo 77 (by omega)]
      by_cases hp : p = T 76
      · have f0 : comerN T kd v w g (16 + 10 * p) = kd := by unfold comerN; rw [if_neg (by omega), if_pos (by omega)]
        have f1 : comerN T kd v w g (17 + 10 * p) = v := by unfold comerN; rw [if_neg (by omega), if_neg (by omega), if_pos (by omega)]
        have f2 : comerN T kd v w g (18 + 10 * p) = w := by unfold comerN; rw [if_neg (by omega), if_neg (by omega), if_neg (by omega), if_pos (by omega)]
        have f3 : comerN T kd v w g (19 + 10 * p) = g := by unfold comerN; rw [if_neg (by omega), if_neg (by omega), if_neg (by omega), if_neg (by omega), if_pos (by omega)]
        have f4 : ∀ k, 20 + 10 * p ≤ k → k < 26 + 10 * p → comerN T kd v w g k = 0 := fun k x y => by unfold comerN; rw [if_neg (by omega), if_neg (by omega), if_neg (by omega), if_neg (by omega), if_neg (by omega), if_pos (by omega)]
        rw [f0, f1, f2, f3, f4 _ (by omega) (by omega), f4 _ (by omega) (by omega)]
        refine ⟨by omega, by omega, by omega, by omega, by omega, by omega, fun k x y => ?_⟩
        rw [f4 _ (by omega) (by omega)]
        omega
      · have f : ∀ k, 16 + 10 * p ≤ k → k < 26 + 10 * p → comerN T kd v w g k = T k := fun k x y => by
          unfold comerN
          rw [if_neg (by omega), if_neg (by omega), if_neg (by omega), if_neg (by omega), if_neg (by omega), if_neg (by omega)]
        rw [f _ (by omega) (by omega), f _ (by omega) (by omega), f _ (by omega) (by omega), f _ (by omega) (by omega), f _ (by omega) (by omega), f _ (by omega) (by omega)]
        refine ⟨c1, c2, c3, c4, c5, c6, fun k x y => ?_⟩
        rw [f _ (by omega) (by omega)]
        exact c7 k x y
  · exact hI
theorem comerT_o {T : Tn} {kd v w g k : Int} (hI : TI T) (hk : 77 ≤ k) : comerT T kd v w g k = T k := by
  unfold comerT
  split
  · rename_i h
    have := (comerZ_rg hI h).2.2.2.2
    have := hI.2.2.1
    unfold comerN
    rw [if_neg (by omega), if_neg (by omega), if_neg (by omega), if_neg (by omega), if_neg (by omega), if_neg (by omega)]
  · rfl
/-- one number of a comer changed -/
theorem upT_TI {T : Tn} {c f n : Int} (hI : TI T) (hc : 0 ≤ c ∧ c < 6) (hf : f = 2 ∧ (0 ≤ n ∧ n < 4096) ∨ f = 3 ∧ (0 ≤ n ∧ n < 4) ∨ f = 4 ∧ (0 ≤ n ∧ n < 10) ∨ (6 ≤ f ∧ f < 10) ∧ 0 ≤ n ∧ n < 10) : TI (upT T (16 + 10 * c + f) n) := by
  obtain ⟨i1, i2, i3, i4, i5, i6⟩ := hI
  have lo : ∀ k, k < 16 ∨ 76 ≤ k → upT T (16 + 10 * c + f) n k = T k := fun k hk => by
    unfold upT
    rw [if_neg (by omega)]
  refine ⟨fun q a b => ?_, fun p a b => ?_, by rw [lo 76 (by omega)]; exact i3, by rw [lo 77 (by omega)]; exact i4, by rw [lo 78 (by omega)]; exact i5, RI_up i6 (by rw [lo 76 (by omega)]; omega) (fun k hk => lo k (by omega))⟩
  · have g1 := i1 q a b
    refine ⟨by rw [lo _ (by omega)]; exact g1.1, fun k x y => by rw [lo _ (by omega)]; exact g1.2 k x y⟩
  · obtain ⟨c1, c2, c3, c4, c5, c6, c7⟩ := i2 p a b
    unfold CI
    rw [lo 77 (by omega)]
    unfold upT
    refine ⟨by split <;> omega, by split <;> omega, by split <;> omega, by split <;> omega, by split <;> omega, by split <;> omega, fun k x y => ?_⟩
    have := c7 k x y
    split <;> omega
theorem setT_TI {T : Tn} {c w n : Int} (hI : TI T) : TI (setT T c w n) := by
  unfold setT
  split
  · rename_i h
    have h76 := hI.2.2.1
    obtain ⟨⟨⟨h1, h2⟩, h3, h4⟩, h5, h6⟩ := h
    unfold setLim at h6
    rw [show 18 + 10 * c + w = 16 + 10 * c + (w + 2) by omega]
    refine upT_TI hI (by omega) ?_
    split at h6
    · omega
    · split at h6 <;> omega
  · exact hI
theorem setT_o {T : Tn} {c w n k : Int} (hI : TI T) (hk : 76 ≤ k) : setT T c w n k = T k := by
  unfold setT
  split
  · have h76 := hI.2.2.1
    unfold upT
    rw [if_neg (by omega)]
  · rfl
theorem rowT_TI {T : Tn} {c w n : Int} (hI : TI T) : TI (rowT T c w n) := by
  unfold rowT
  split
  · rename_i h
    have h76 := hI.2.2.1
    rw [show 22 + 10 * c + w = 16 + 10 * c + (w + 6) by omega]
    exact upT_TI hI (by omega) (by omega)
  · exact hI
theorem rowT_o {T : Tn} {c w n k : Int} (hI : TI T) (hk : 76 ≤ k) : rowT T c w n k = T k := by
  unfold rowT
  split
  · have h76 := hI.2.2.1
    unfold upT
    rw [if_neg (by omega)]
  · rfl
theorem forgetT_TI {T : Tn} {g : Int} (hI : TI T) : TI (forgetT T g) := by
  unfold forgetT
  split
  · rename_i h
    have := plS_TI (S := (fun _ => 0, 10, 0)) (a := 2) (n := g) hI (by simp) (Or.inr (Or.inr (Or.inl ⟨rfl, h⟩)))
    unfold plS at this
    rw [if_neg (by decide), if_neg (by decide), if_pos rfl] at this
    exact this
  · exact hI
theorem forgetT_o {T : Tn} {g k : Int} (hk : 76 ≤ k) : forgetT T g k = T k := by
  unfold forgetT
  split
  · show (if k = 4 * g then 0 else T k) = T k
    rw [if_neg (by omega)]
  · rfl
theorem teachT_TI {T : Tn} {g c : Int} (hI : TI T) : TI (teachT T g c) := by
  unfold teachT
  split
  · rename_i h
    have h76 := hI.2.2.1
    exact tauT_TI hI h.1 (hI.2.1 c (by omega) (by omega)).2.2.1
  · exact hI
theorem teachT_o {T : Tn} {g c k : Int} (hk : 76 ≤ k) : teachT T g c k = T k := by
  unfold teachT
  split
  · unfold tauT
    rw [if_neg (by omega), if_neg (by omega)]
  · rfl
theorem passN_TI {S : Hs} {T : Tn} {n : Int} (hI : TI T) (hS : 0 ≤ S.2.2) : TI (passN S T n) := by
  unfold passN
  split
  · exact daysT_TI hI hS _
  · exact hI
theorem passN_77 {S : Hs} {T : Tn} {n : Int} (hd : T 77 ≤ 9999) : passN S T n 77 ≤ 9999 := by
  unfold passN
  split
  · rename_i h
    rw [daysT_77]
    omega
  · exact hd
theorem passN_78 {S : Hs} {T : Tn} {n : Int} (hI : TI T) (hS : 0 ≤ S.2.2) : passN S T n 78 = T 78 := by
  unfold passN
  split
  · exact daysT_o hI hS (by decide) (by omega) _
  · rfl
theorem RI_see {T T' : Tn} {z : Int} (h : RI T) (e : ∀ k, k < 79 ∨ 95 ≤ k → T' k = T k) (e79 : T' 79 = z) (hz : 0 ≤ z ∧ z ≤ 5) (hr : ∀ k, 0 ≤ k → k < z → (0 ≤ T' (80 + 3 * k) ∧ T' (80 + 3 * k) < T 76) ∧ (0 ≤ T' (81 + 3 * k) ∧ T' (81 + 3 * k) < 4) ∧ (0 ≤ T' (82 + 3 * k) ∧ T' (82 + 3 * k) ≤ 1)) : RI T' := by
  obtain ⟨a1, a2, a3, a4, a5, a6⟩ := h
  refine ⟨by rw [e79]; exact hz, fun k x y => ?_, by rw [e 95 (by omega)]; exact a3, fun k x y => ?_, by rw [e 116 (by omega)]; exact a5, fun k x y => ?_⟩
  · rw [e 76 (by omega)]
    exact hr k x (by omega)
  · rw [e 95 (by omega)] at y
    unfold PI1
    rw [e (96 + 2 * k) (by omega), e (97 + 2 * k) (by omega), e 76 (by omega)]
    exact a4 k x y
  · rw [e 116 (by omega)] at y
    rw [e (117 + 2 * k) (by omega), e (118 + 2 * k) (by omega), e 76 (by omega)]
    exact a6 k x y
theorem RI_plan {T T' : Tn} {z : Int} (h : RI T) (e : ∀ k, k < 95 ∨ 116 ≤ k → T' k = T k) (e95 : T' 95 = z) (hz : 0 ≤ z ∧ z ≤ 10) (hr : ∀ k, 0 ≤ k → k < z → PI1 T (T' (96 + 2 * k)) (T' (97 + 2 * k))) : RI T' := by
  obtain ⟨a1, a2, a3, a4, a5, a6⟩ := h
  refine ⟨by rw [e 79 (by omega)]; exact a1, fun k x y => ?_, by rw [e95]; exact hz, fun k x y => ?_, by rw [e 116 (by omega)]; exact a5, fun k x y => ?_⟩
  · rw [e 79 (by omega)] at y
    rw [e (80 + 3 * k) (by omega), e (81 + 3 * k) (by omega), e (82 + 3 * k) (by omega), e 76 (by omega)]
    exact a2 k x y
  · have := hr k x (by omega)
    unfold PI1 at this ⊢
    rw [e 76 (by omega)]
    exact this
  · rw [e 116 (by omega)] at y
    rw [e (117 + 2 * k) (by omega), e (118 + 2 * k) (by omega), e 76 (by omega)]
    exact a6 k x y
theorem RI_book {T T' : Tn} {z : Int} (h : RI T) (e : ∀ k, k < 116 → T' k = T k) (e116 : T' 116 = z) (hz : 0 ≤ z ∧ z ≤ 8) (hr : ∀ k, 0 ≤ k → k < z → (0 ≤ T' (117 + 2 * k) ∧ T' (117 + 2 * k) < T 76) ∧ (0 ≤ T' (118 + 2 * k) ∧ T' (118 + 2 * k) ≤ 9999)) : RI T' := by
  obtain ⟨a1, a2, a3, a4, a5, a6⟩ := h
  refine ⟨by rw [e 79 (by omega)]; exact a1, fun k x y => ?_, by rw [e 95 (by omega)]; exact a3, fun k x y => ?_, by rw [e116]; exact hz, fun k x y => ?_⟩
  · rw [e 79 (by omega)] at y
    rw [e (80 + 3 * k) (by omega), e (81 + 3 * k) (by omega), e (82 + 3 * k) (by omega), e 76 (by omega)]
    exact a2 k x y
  · rw [e 95 (by omega)] at y
    unfold PI1
    rw [e (96 + 2 * k) (by omega), e (97 + 2 * k) (by omega), e 76 (by omega)]
    exact a4 k x y
  · rw [e 76 (by omega)]
    exact hr k x (by omega)
theorem TI_rows {T T' : Tn} (h : TI T) (e : ∀ k, k < 79 → T' k = T k) (r : RI T') : TI T' := by
  obtain ⟨i1, i2, i3, i4, i5, i6⟩ := h
  refine ⟨fun q a b => ?_, fun p a b => ?_, by rw [e 76 (by omega)]; exact i3, by rw [e 77 (by omega)]; exact i4, by rw [e 78 (by omega)]; exact i5, r⟩
  · have g1 := i1 q a b
    refine ⟨by rw [e _ (by omega)]; exact g1.1, fun k x y => by rw [e _ (by omega)]; exact g1.2 k x y⟩
  · obtain ⟨c1, c2, c3, c4, c5, c6, c7⟩ := i2 p a b
    unfold CI
    rw [e 77 (by omega), e _ (by omega), e _ (by omega), e _ (by omega), e _ (by omega), e _ (by omega), e _ (by omega)]
    exact ⟨c1, c2, c3, c4, c5, c6, fun k x y => by rw [e _ (by omega)]; exact c7 k x y⟩
theorem upT_i (T : Tn) (k z j : Int) : upT T k z j = if j = k then z else T j := rfl
theorem seeT_o {T : Tn} {c g b k : Int} (hI : TI T) (hk : k < 79) : seeT T c g b k = T k := by
  unfold seeT
  split
  · rw [upT_i, if_neg (by omega)]
  · split
    · have := hI.2.2.2.2.2.1
      rw [upT_i, if_neg (by omega), upT_i, if_neg (by omega), upT_i, if_neg (by omega), upT_i, if_neg (by omega)]
    · rfl
theorem seeT_TI {T : Tn} {c g b : Int} (hI : TI T) (hb : 0 ≤ b ∧ b ≤ 1) : TI (seeT T c g b) := by
  refine TI_rows hI (fun k hk => seeT_o hI hk) ?_
  have hR := hI.2.2.2.2.2
  unfold seeT
  split
  · exact RI_see (z := 0) hR (fun k hk => by rw [upT_i, if_neg (by omega)]) (by rw [upT_i, if_pos rfl]) (by omega) (fun k x y => by omega)
  · split
    · rename_i h1 h2
      obtain ⟨⟨h3, h4⟩, h5⟩ := h2
      have h0 := hR.1
      refine RI_see (z := T 79 + 1) hR (fun k hk => ?_) (by rw [upT_i, if_pos rfl]) (by omega) (fun k x y => ?_)
      · rw [upT_i, if_neg (by omega), upT_i, if_neg (by omega), upT_i, if_neg (by omega), upT_i, if_neg (by omega)]
      · by_cases hk : k = T 79
        · subst hk
          rw [upT_i, if_neg (by omega), upT_i, if_neg (by omega), upT_i, if_neg (by omega), upT_i, if_pos rfl, upT_i, if_neg (by omega), upT_i, if_neg (by omega), upT_i, if_pos rfl, upT_i, if_neg (by omega), upT_i, if_pos rfl]
          omega
        · have := hR.2.1 k x (by omega)
          rw [upT_i, if_neg (by omega), upT_i, if_neg (by omega), upT_i, if_neg (by omega), upT_i, if_neg (by omega), upT_i, if_neg (by omega), upT_i, if_neg (by omega), upT_i, if_neg (by omega), upT_i, if_neg (by omega), upT_i, if_neg (by omega), upT_i, if_neg (by omega), upT_i, if_neg (by omega), upT_i, if_neg (by omega)]
          exact this
    · exact hR
theorem planT_o {T : Tn} {a n k : Int} (hI : TI T) (hk : k < 79) : planT T a n k = T k := by
  unfold planT
  split
  · rw [upT_i, if_neg (by omega)]
  · split
    · have := hI.2.2.2.2.2.2.2.1
      rw [upT_i, if_neg (by omega), upT_i, if_neg (by omega), upT_i, if_neg (by omega)]
    · rfl
theorem planT_TI {T : Tn} {a n : Int} (hI : TI T) : TI (planT T a n) := by
  refine TI_rows hI (fun k hk => planT_o hI hk) ?_
  have hR := hI.2.2.2.2.2
  unfold planT
  split
  · exact RI_plan (z := 0) hR (fun k hk => by rw [upT_i, if_neg (by omega)]) (by rw [upT_i, if_pos rfl]) (by omega) (fun k x y => by omega)
  · split
    · rename_i h1 h2
      have h0 := hR.2.2.1
      refine RI_plan (z := T 95 + 1) hR (fun k hk => ?_) (by rw [upT_i, if_pos rfl]) (by omega) (fun k x y => ?_)
      · rw [upT_i, if_neg (by omega), upT_i, if_neg (by omega), upT_i, if_neg (by omega)]
      · by_cases hk : k = T 95
        · subst hk
          rw [upT_i, if_neg (by omega), upT_i, if_neg (by omega), upT_i, if_pos rfl, upT_i, if_neg (by omega), upT_i, if_pos rfl]
          exact h2.1
        · have := hR.2.2.2.1 k x (by omega)
          rw [upT_i, if_neg (by omega), upT_i, if_neg (by omega), upT_i, if_neg (by omega), upT_i, if_neg (by omega), upT_i, if_neg (by omega), upT_i, if_neg (by omega)]
          exact this
    · exact hR
theorem bookT_o {T : Tn} {a n k : Int} (hI : TI T) (hk : k < 79) : bookT T a n k = T k := by
  unfold bookT
  split
  · rw [upT_i, if_neg (by omega)]
  · split
    · have := hI.2.2.2.2.2.2.2.2.2.1
      rw [upT_i, if_neg (by omega), upT_i, if_neg (by omega), upT_i, if_neg (by omega)]
    · rfl
theorem bookT_TI {T : Tn} {a n : Int} (hI : TI T) : TI (bookT T a n) := by
  refine TI_rows hI (fun k hk => bookT_o hI hk) ?_
  have hR := hI.2.2.2.2.2
  unfold bookT
  split
  · exact RI_book (z := 0) hR (fun k hk => by rw [upT_i, if_neg (by omega)]) (by rw [upT_i, if_pos rfl]) (by omega) (fun k x y => by omega)
  · split
    · rename_i h1 h2
      have h0 := hR.2.2.2.2.1
      refine RI_book (z := T 116 + 1) hR (fun k hk => ?_) (by rw [upT_i, if_pos rfl]) (by omega) (fun k x y => ?_)
      · rw [upT_i, if_neg (by omega), upT_i, if_neg (by omega), upT_i, if_neg (by omega)]
      · by_cases hk : k = T 116
        · subst hk
          rw [upT_i, if_neg (by omega), upT_i, if_neg (by omega), upT_i, if_pos rfl, upT_i, if_neg (by omega), upT_i, if_pos rfl]
          omega
        · have := hR.2.2.2.2.2 k x (by omega)
          rw [upT_i, if_neg (by omega), upT_i, if_neg (by omega), upT_i, if_neg (by omega), upT_i, if_neg (by omega), upT_i, if_neg (by omega), upT_i, if_neg (by omega)]
          exact this
    · exact hR
