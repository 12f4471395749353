/-! ===== Gate, Rows, Comer ===== -/
theorem lk_i {L : List (Nat × Value)} {i : Nat} {a b : Int} (h : lkp L i = some (.int (I a))) (e : a = b) : lkp L i = some (.int (I b)) := e ▸ h
theorem upM_ne {μ : Me} {o o' : Ob} {k z : Int} (h : o' ≠ o) : upM μ o k z o' = μ o' := by
  funext k'
  simp [upM, h]
theorem cpM_ne {μ : Me} {o1 o o' : Ob} {a b n : Int} (h : o' ≠ o) : cpM μ o1 o a b n o' = μ o' := by
  funext k'
  simp [cpM, h]
theorem upM_i {μ : Me} {o : Ob} {k z k' : Int} : upM μ o k z o k' = if k' = k then z else μ o k' := by simp [upM]
/-- the place of the walk least like w among G 0 .. G n, the first of several -/
def lpK (G : Int → Int) (w : Int) : Nat → Int
  | 0 => 0
  | n + 1 => if alk (G ((n : Int) + 1)) w < alk (G (lpK G w n)) w then (n : Int) + 1 else lpK G w n
theorem lpK_rg (G : Int → Int) (w : Int) : ∀ n : Nat, 0 ≤ lpK G w n ∧ lpK G w n ≤ n
  | 0 => ⟨Int.le_refl _, Int.le_refl _⟩
  | n + 1 => by
    have := lpK_rg G w n
    simp only [lpK]
    split <;> omega
/-- a GATE is taught w: the walk that it loses, how many it knows, its walks -/
def lostS (kn : Int) (G : Int → Int) (w : Int) : Int := if kn = 3 then G (lpK G w 2) else -5
def lernK (kn : Int) : Int := if kn = 3 then 3 else kn + 1
def lernG (kn : Int) (G : Int → Int) (w : Int) : Int → Int := fun k => if kn = 3 then (if k = 2 then w else if k < lpK G w 2 then G k else G (k + 1)) else if k = kn then w else G k
section GATE
variable {ad : Ob → Nat} {μ : Me} {nh : Int} {t j t2 j2 : Int}
set_option maxRecDepth 20000 in
theorem c_X1_leastAlike (w : Int) (hg : 0 ≤ t ∧ t < 3 ∧ 0 ≤ j ∧ j < 4 ∨ t = 3 ∧ j = 0) (hk : μ (2, t, j) 1 = 3) (hG : ∀ k, 0 ≤ k → k < 3 → 0 ≤ μ (3, t, j) k ∧ μ (3, t, j) k < 4096) (hw : 0 ≤ w ∧ w < 4096) (l : Launch) (E : Ev) (A : Nat → Prop) : Con l E 2 m_X1_leastAlike A (VC nh) ad μ [.ref (ad (2, t, j)), .int (I w)] (pi fun z μ' => z = lpK (μ (3, t, j)) w 2 ∧ μ = μ') := by
  refine con (own := RX1) (by decide +kernel) rfl rfl rfl (fun Γ F => ?_)
  have loop : ∀ (N : Nat) (n : Nat), 3 - (n : Int) ≤ N → n ≤ 2 → XX Γ 4 (VC nh) ad (vl ad μ) 0 0 4 [(0, .ref (ad (2, t, j))), (1, .int (I w)), (2, .int (I (lpK (μ (3, t, j)) w n))), (3, .int (I ((n : Int) + 1)))] [] := by
    intro N
    induction N with
    | zero => intro n h1 h2; omega
    | succ N ih =>
      intro n h1 h2
      have hp := lpK_rg (μ (3, t, j)) w n
      have hG1 := hG (lpK (μ (3, t, j)) w n) (by omega) (by omega)
      refine x_iload_n (i := 3) (pc := 4) F dX1_leastAlike_4 rfl rfl ?_
      refine x_aload_n (i := 0) (pc := 5) F dX1_leastAlike_5 rfl rfl ?_
      refine gf_X1_15 (pc := 6) F dX1_leastAlike_6 (v_2 (by omega)) ?_
      refine x_icmp_ge (tgt := 43) (pc := 9) F dX1_leastAlike_9 rfl (by omega) (fun h9 => ?_) (fun h9 => ?_)
      · refine x_iload_n (i := 2) (pc := 43) F dX1_leastAlike_43 rfl rfl ?_
        refine tq_reti (pc := 44) F dX1_leastAlike_44 ?_ rfl rfl rfl
        exact ⟨by rw [show n = 2 by omega], rfl⟩
      · refine x_aload_n (i := 0) (pc := 12) F dX1_leastAlike_12 rfl rfl ?_
        refine gf_X1_9 (pc := 13) F dX1_leastAlike_13 (v_2 (by omega)) ?_
        have hG2 := hG ((n : Int) + 1) (by omega) (by omega)
        refine x_iload_n (i := 3) (pc := 16) F dX1_leastAlike_16 rfl rfl ?_
        refine tq_ia (pc := 17) F dX1_leastAlike_17 (v_3 (by omega)) rfl (fun _ => rfl) (by omega) ?_
        refine x_iload_n (i := 1) (pc := 18) F dX1_leastAlike_18 rfl rfl ?_
        refine x_N2i (pc := 19) F dX1_leastAlike_19 lk_X1_29 rfl (c_X7_alike _ _ (by omega)) rfl rfl rfl ?_
        rintro _ _ ⟨rfl, rfl⟩
        refine x_aload_n (i := 0) (pc := 22) F dX1_leastAlike_22 rfl rfl ?_
        refine gf_X1_9 (pc := 23) F dX1_leastAlike_23 (v_2 (by omega)) ?_
        refine x_iload_n (i := 2) (pc := 26) F dX1_leastAlike_26 rfl rfl ?_
        refine tq_ia (pc := 27) F dX1_leastAlike_27 (v_3 (by omega)) rfl (fun _ => rfl) (by omega) ?_
        refine x_iload_n (i := 1) (pc := 28) F dX1_leastAlike_28 rfl rfl ?_
        refine x_N2i (pc := 29) F dX1_leastAlike_29 lk_X1_29 rfl (c_X7_alike _ _ (by omega)) rfl rfl rfl ?_
        rintro _ _ ⟨rfl, rfl⟩
        have hb1 := alk_rg (μ (3, t, j) ((n : Int) + 1)) w
        have hb2 := alk_rg (μ (3, t, j) (lpK (μ (3, t, j)) w n)) w
        refine x_icmp_ge (tgt := 37) (pc := 32) F dX1_leastAlike_32 rfl (by omega) (fun h32 => ?_) (fun h32 => ?_)
        · refine x_iinc (pc := 37) F dX1_leastAlike_37 rfl rfl ?_
          refine x_goto (tgt := 4) (pc := 40) F dX1_leastAlike_40 rfl ?_
          refine x_sub (L' := [(0, .ref (ad (2, t, j))), (1, .int (I w)), (2, .int (I (lpK (μ (3, t, j)) w (n + 1)))), (3, .int (I (((n + 1 : Nat) : Int) + 1)))]) ⟨rfl, rfl, lk_i rfl (by simp only [lpK]; split <;> omega), rfl, trivial⟩ (ih (n + 1) (by omega) (by omega))
        · refine x_iload_n (i := 3) (pc := 35) F dX1_leastAlike_35 rfl rfl ?_
          refine x_istore_n (i := 2) (pc := 36) F dX1_leastAlike_36 rfl rfl ?_
          refine x_iinc (pc := 37) F dX1_leastAlike_37 rfl rfl ?_
          refine x_goto (tgt := 4) (pc := 40) F dX1_leastAlike_40 rfl ?_
          refine x_sub (L' := [(0, .ref (ad (2, t, j))), (1, .int (I w)), (2, .int (I (lpK (μ (3, t, j)) w (n + 1)))), (3, .int (I (((n + 1 : Nat) : Int) + 1)))]) ⟨rfl, rfl, lk_i rfl (by simp only [lpK]; split <;> omega), rfl, trivial⟩ (ih (n + 1) (by omega) (by omega))
  refine x_iconst (pc := 0) F dX1_leastAlike_0 ?_
  refine x_istore_n (i := 2) (pc := 1) F dX1_leastAlike_1 rfl rfl ?_
  refine x_iconst (pc := 2) F dX1_leastAlike_2 ?_
  refine x_istore_n (i := 3) (pc := 3) F dX1_leastAlike_3 rfl rfl ?_
  exact x_sub (L' := [(0, .ref (ad (2, t, j))), (1, .int (I w)), (2, .int (I (lpK (μ (3, t, j)) w 0))), (3, .int (I (((0 : Nat) : Int) + 1)))]) ⟨rfl, rfl, rfl, rfl, trivial⟩ (loop 3 0 (by omega) (by omega))
set_option maxRecDepth 20000 in
theorem c_X1_knowsAlike (w m : Int) (hg : 0 ≤ t ∧ t < 3 ∧ 0 ≤ j ∧ j < 4 ∨ t = 3 ∧ j = 0) (hk : 0 ≤ μ (2, t, j) 1 ∧ μ (2, t, j) 1 ≤ 3) (hG : ∀ k, 0 ≤ k → k < 3 → 0 ≤ μ (3, t, j) k ∧ μ (3, t, j) k < 4096) (hw : 0 ≤ w ∧ w < 4096) (hm : 0 ≤ m ∧ m ≤ 13) (l : Launch) (E : Ev) (A : Nat → Prop) : Con l E 2 m_X1_knowsAlike A (VC nh) ad μ [.ref (ad (2, t, j)), .int (I w), .int (I m)] (pz fun z μ' => (z = true ↔ ∃ k, 0 ≤ k ∧ k < μ (2, t, j) 1 ∧ m ≤ alk (μ (3, t, j) k) w) ∧ μ = μ') := by
  refine con (own := RX1) (by decide +kernel) rfl rfl rfl (fun Γ F => ?_)
  have loop : ∀ (N : Nat) (k : Int), μ (2, t, j) 1 - k < N → 0 ≤ k → k ≤ μ (2, t, j) 1 → (∀ i, 0 ≤ i → i < k → ¬ m ≤ alk (μ (3, t, j) i) w) → XX Γ 4 (VC nh) ad (vl ad μ) 0 0 2 [(0, .ref (ad (2, t, j))), (1, .int (I w)), (2, .int (I m)), (3, .int (I k))] [] := by
    intro N
    induction N with
    | zero => intro k h1 h2 h3; omega
    | succ N ih =>
      intro k h1 h2 h3 h4
      refine x_iload_n (i := 3) (pc := 2) F dX1_knowsAlike_2 rfl rfl ?_
      refine x_aload_n (i := 0) (pc := 3) F dX1_knowsAlike_3 rfl rfl ?_
      refine gf_X1_15 (pc := 4) F dX1_knowsAlike_4 (v_2 (by omega)) ?_
      refine x_icmp_ge (tgt := 32) (pc := 7) F dX1_knowsAlike_7 rfl (by omega) (fun h7 => ?_) (fun h7 => ?_)
      · refine x_iconst (pc := 32) F dX1_knowsAlike_32 ?_
        refine tq_retz (b := false) (pc := 33) F dX1_knowsAlike_33 ?_ rfl rfl rfl
        exact ⟨⟨fun h => (by cases h), fun ⟨i, a1, a2, a3⟩ => absurd a3 (h4 i a1 (by omega))⟩, rfl⟩
      · refine x_aload_n (i := 0) (pc := 10) F dX1_knowsAlike_10 rfl rfl ?_
        refine gf_X1_9 (pc := 11) F dX1_knowsAlike_11 (v_2 (by omega)) ?_
        have hG2 := hG k (by omega) (by omega)
        refine x_iload_n (i := 3) (pc := 14) F dX1_knowsAlike_14 rfl rfl ?_
        refine tq_ia (pc := 15) F dX1_knowsAlike_15 (v_3 (by omega)) rfl (fun _ => rfl) (by omega) ?_
        refine x_iload_n (i := 1) (pc := 16) F dX1_knowsAlike_16 rfl rfl ?_
        refine x_N2i (pc := 17) F dX1_knowsAlike_17 lk_X1_29 rfl (c_X7_alike _ _ (by omega)) rfl rfl rfl ?_
        rintro _ _ ⟨rfl, rfl⟩
        refine x_iload_n (i := 2) (pc := 20) F dX1_knowsAlike_20 rfl rfl ?_
        have hb1 := alk_rg (μ (3, t, j) k) w
        refine x_icmp_lt (tgt := 26) (pc := 21) F dX1_knowsAlike_21 rfl (by omega) (fun h21 => ?_) (fun h21 => ?_)
        · refine x_iinc (pc := 26) F dX1_knowsAlike_26 rfl rfl ?_
          refine x_goto (tgt := 2) (pc := 29) F dX1_knowsAlike_29 rfl ?_
          refine x_sub (L' := [(0, .ref (ad (2, t, j))), (1, .int (I w)), (2, .int (I m)), (3, .int (I (k + 1)))]) ⟨rfl, rfl, rfl, rfl, trivial⟩ (ih (k + 1) (by omega) (by omega) (by omega) (fun i hi1 hi2 => ?_))
          by_cases e : i = k
          · subst e; omega
          · exact h4 i hi1 (by omega)
        · refine x_iconst (pc := 24) F dX1_knowsAlike_24 ?_
          refine tq_retz (b := true) (pc := 25) F dX1_knowsAlike_25 ?_ rfl rfl rfl
          exact ⟨⟨fun _ => ⟨k, by omega, by omega, by omega⟩, fun _ => rfl⟩, rfl⟩
  refine x_iconst (pc := 0) F dX1_knowsAlike_0 ?_
  refine x_istore_n (i := 3) (pc := 1) F dX1_knowsAlike_1 rfl rfl ?_
  exact x_sub (L' := [(0, .ref (ad (2, t, j))), (1, .int (I w)), (2, .int (I m)), (3, .int (I 0))]) ⟨rfl, rfl, rfl, rfl, trivial⟩ (loop 4 0 (by omega) (by omega) (by omega) (fun i a b => by omega))
set_option maxRecDepth 20000 in
theorem c_X1_become (hg : 0 ≤ t ∧ t < 3 ∧ 0 ≤ j ∧ j < 4 ∨ t = 3 ∧ j = 0) (hg2 : 0 ≤ t2 ∧ t2 < 3 ∧ 0 ≤ j2 ∧ j2 < 4 ∨ t2 = 3 ∧ j2 = 0) (l : Launch) (E : Ev) (A : Nat → Prop) : Con l E 2 m_X1_become A (VC nh) ad μ [.ref (ad (2, t, j)), .ref (ad (2, t2, j2))] (pv fun μ' => μ' (2, t, j) 1 = μ (2, t2, j2) 1 ∧ (∀ k, 0 ≤ k → k < 3 → μ' (3, t, j) k = μ (3, t2, j2) k) ∧ ∀ o, o ≠ (2, t, j) → o ≠ (3, t, j) → μ' o = μ o) := by
  refine con (own := RX1) (by decide +kernel) rfl rfl rfl (fun Γ F => ?_)
  refine x_aload_n (i := 0) (pc := 0) F dX1_become_0 rfl rfl ?_
  refine x_aload_n (i := 1) (pc := 1) F dX1_become_1 rfl rfl ?_
  refine gf_X1_15 (pc := 2) F dX1_become_2 (v_2 (by omega)) ?_
  refine pf_X1_15 (pc := 5) F dX1_become_5 (v_2 (by omega)) ?_
  refine x_aload_n (i := 1) (pc := 8) F dX1_become_8 rfl rfl ?_
  refine gf_X1_9 (pc := 9) F dX1_become_9 (v_2 (by omega)) ?_
  refine x_iconst (pc := 12) F dX1_become_12 ?_
  refine x_aload_n (i := 0) (pc := 13) F dX1_become_13 rfl rfl ?_
  refine gf_X1_9 (pc := 14) F dX1_become_14 (v_2 (by omega)) ?_
  refine x_iconst (pc := 17) F dX1_become_17 ?_
  refine x_iconst (pc := 18) F dX1_become_18 ?_
  refine tq_copy (pc := 19) F dX1_become_19 kw_428 kw_430 kw_429 kw_83 rfl (v_3 (by omega)) (v_3 (by omega)) rfl rfl (Or.inl ⟨rfl, rfl⟩) (fun _ => rfl) (fun _ => rfl) (by omega) rfl ?_
  refine tq_retv (pc := 22) F dX1_become_22 ?_ rfl rfl rfl
  refine ⟨by simp [upM, cpM], fun k h1 h2 => ?_, fun o h1 h2 => ?_⟩
  · simp [cpM, upM, h1, h2]
  · rw [cpM_ne h2, upM_ne h1]
set_option maxRecDepth 20000 in
theorem c_X1_learn (w : Int) (hg : 0 ≤ t ∧ t < 3 ∧ 0 ≤ j ∧ j < 4 ∨ t = 3 ∧ j = 0) (hk : 0 ≤ μ (2, t, j) 1 ∧ μ (2, t, j) 1 ≤ 3) (hG : ∀ k, 0 ≤ k → k < 3 → 0 ≤ μ (3, t, j) k ∧ μ (3, t, j) k < 4096) (hw : 0 ≤ w ∧ w < 4096) (l : Launch) (E : Ev) (A : Nat → Prop) : Con l E 3 m_X1_learn A (VC nh) ad μ [.ref (ad (2, t, j)), .int (I w)] (pi fun z μ' => z = lostS (μ (2, t, j) 1) (μ (3, t, j)) w ∧ μ' (2, t, j) 1 = lernK (μ (2, t, j) 1) ∧ (∀ k, 0 ≤ k → k < 3 → μ' (3, t, j) k = lernG (μ (2, t, j) 1) (μ (3, t, j)) w k) ∧ ∀ o, o ≠ (2, t, j) → o ≠ (3, t, j) → μ' o = μ o) := by
  have hp := lpK_rg (μ (3, t, j)) w 2
  refine con (own := RX1) (by decide +kernel) rfl rfl rfl (fun Γ F => ?_)
  have loop : ∀ (N : Nat) (k : Int) (μ1 : Me), μ (2, t, j) 1 = 3 → 3 - k ≤ N → lpK (μ (3, t, j)) w 2 ≤ k → k ≤ 2 → (∀ i, 0 ≤ i → i < 3 → μ1 (3, t, j) i = if lpK (μ (3, t, j)) w 2 ≤ i ∧ i < k then μ (3, t, j) (i + 1) else μ (3, t, j) i) → (∀ o, o ≠ (3, t, j) → μ1 o = μ o) → XX Γ 5 (VC nh) ad (vl ad μ1) 0 0 27 [(0, .ref (ad (2, t, j))), (1, .int (I w)), (2, .int (I (μ (3, t, j) (lpK (μ (3, t, j)) w 2)))), (4, .int (I k))] [] := by
    intro N
    induction N with
    | zero => intro k μ1 h0 h1 h2; omega
    | succ N ih =>
      intro k μ1 h0 h1 h2 h3 h4 h5
      refine x_iload (i := 4) (pc := 27) F dX1_learn_27 rfl ?_
      refine x_iconst (pc := 29) F dX1_learn_29 ?_
      refine x_iadd (pc := 30) F dX1_learn_30 ?_
      refine x_iconst (pc := 31) F dX1_learn_31 ?_
      refine x_icmp_ge (tgt := 57) (pc := 32) F dX1_learn_32 rfl (by omega) (fun h32 => ?_) (fun h32 => ?_)
      · refine x_aload_n (i := 0) (pc := 57) F dX1_learn_57 rfl rfl ?_
        refine x_iconst (pc := 58) F dX1_learn_58 ?_
        refine pf_X1_15 (pc := 59) F dX1_learn_59 (v_2 (by omega)) ?_
        refine x_aload_n (i := 0) (pc := 62) F dX1_learn_62 rfl rfl ?_
        refine gf_X1_9 (pc := 63) F dX1_learn_63 (v_2 (by omega)) ?_
        refine x_aload_n (i := 0) (pc := 66) F dX1_learn_66 rfl rfl ?_
        refine gf_X1_15 (pc := 67) F dX1_learn_67 (v_2 (by omega)) ?_
        refine x_iload_n (i := 1) (pc := 70) F dX1_learn_70 rfl rfl ?_
        have hkn : upM μ1 (2, t, j) 1 2 (2, t, j) 1 = 2 := by simp [upM]
        refine tq_ias (pc := 71) F dX1_learn_71 (v_3 (by omega)) rfl (fun _ => rfl) (by omega) ?_
        refine x_aload_n (i := 0) (pc := 72) F dX1_learn_72 rfl rfl ?_
        refine x_dup (pc := 73) F dX1_learn_73 rfl ?_
        refine gf_X1_15 (pc := 74) F dX1_learn_74 (v_2 (by omega)) ?_
        refine x_iconst (pc := 77) F dX1_learn_77 ?_
        refine x_iadd (pc := 78) F dX1_learn_78 ?_
        refine pf_X1_15 (pc := 79) F dX1_learn_79 (v_2 (by omega)) ?_
        refine x_iload_n (i := 2) (pc := 82) F dX1_learn_82 rfl rfl ?_
        have hk2 : k = 2 := by omega
        subst hk2
        refine tq_reti (pc := 83) F dX1_learn_83 ?_ rfl rfl rfl
        refine ⟨by simp [lostS, h0], by simp [upM, lernK, h0], fun i hi1 hi2 => ?_, fun o ho1 ho2 => ?_⟩
        · simp only [upM, lernG, h0, if_true, true_and, and_true]
          have e1 : ¬ ((3, t, j) : Ob) = (2, t, j) := by simp
          by_cases e : i = 2
          · simp [e]
          · simp [e, h4 i hi1 hi2]
            by_cases e2 : i < lpK (μ (3, t, j)) w 2
            · rw [if_neg (by omega), if_pos e2]
            · rw [if_pos (by omega), if_neg e2]
        · rw [upM_ne ho1, upM_ne ho2, upM_ne ho1, h5 o ho2]
      · refine x_aload_n (i := 0) (pc := 35) F dX1_learn_35 rfl rfl ?_
        refine gf_X1_9 (pc := 36) F dX1_learn_36 (v_2 (by omega)) ?_
        refine x_iload (i := 4) (pc := 39) F dX1_learn_39 rfl ?_
        refine x_aload_n (i := 0) (pc := 41) F dX1_learn_41 rfl rfl ?_
        refine gf_X1_9 (pc := 42) F dX1_learn_42 (v_2 (by omega)) ?_
        refine x_iload (i := 4) (pc := 45) F dX1_learn_45 rfl ?_
        refine x_iconst (pc := 47) F dX1_learn_47 ?_
        refine x_iadd (pc := 48) F dX1_learn_48 ?_
        refine tq_ia (pc := 49) F dX1_learn_49 (v_3 (by omega)) rfl (fun _ => rfl) (by omega) ?_
        refine tq_ias (pc := 50) F dX1_learn_50 (v_3 (by omega)) rfl (fun _ => rfl) (by omega) ?_
        refine x_iinc (pc := 51) F dX1_learn_51 rfl rfl ?_
        refine x_goto (tgt := 27) (pc := 54) F dX1_learn_54 rfl ?_
        refine x_sub (L' := [(0, .ref (ad (2, t, j))), (1, .int (I w)), (2, .int (I (μ (3, t, j) (lpK (μ (3, t, j)) w 2)))), (4, .int (I (k + 1)))]) ⟨rfl, rfl, rfl, rfl, trivial⟩ (ih (k + 1) _ h0 (by omega) (by omega) (by omega) (fun i hi1 hi2 => ?_) (fun o ho => ?_))
        · simp only [upM, true_and]
          rw [h4 (k + 1) (by omega) (by omega), h4 i hi1 hi2]
          by_cases e : i = k
          · subst e; rw [if_pos rfl, if_neg (by omega), if_pos (by omega)]
          · rw [if_neg e]; congr 1; simp only [eq_iff_iff]; omega
        · rw [upM_ne ho, h5 o ho]
  refine x_bipush (pc := 0) F dX1_learn_0 (by decide) ?_
  refine x_istore_n (i := 2) (pc := 2) F dX1_learn_2 rfl rfl ?_
  refine x_aload_n (i := 0) (pc := 3) F dX1_learn_3 rfl rfl ?_
  refine gf_X1_15 (pc := 4) F dX1_learn_4 (v_2 (by omega)) ?_
  refine x_iconst (pc := 7) F dX1_learn_7 ?_
  refine x_icmp_lt (tgt := 62) (pc := 8) F dX1_learn_8 rfl (by omega) (fun h8 => ?_) (fun h8 => ?_)
  · refine x_aload_n (i := 0) (pc := 62) F dX1_learn_62 rfl rfl ?_
    refine gf_X1_9 (pc := 63) F dX1_learn_63 (v_2 (by omega)) ?_
    refine x_aload_n (i := 0) (pc := 66) F dX1_learn_66 rfl rfl ?_
    refine gf_X1_15 (pc := 67) F dX1_learn_67 (v_2 (by omega)) ?_
    refine x_iload_n (i := 1) (pc := 70) F dX1_learn_70 rfl rfl ?_
    refine tq_ias (pc := 71) F dX1_learn_71 (v_3 (by omega)) rfl (fun _ => rfl) (by omega) ?_
    refine x_aload_n (i := 0) (pc := 72) F dX1_learn_72 rfl rfl ?_
    refine x_dup (pc := 73) F dX1_learn_73 rfl ?_
    refine gf_X1_15 (pc := 74) F dX1_learn_74 (v_2 (by omega)) ?_
    refine x_iconst (pc := 77) F dX1_learn_77 ?_
    refine x_iadd (pc := 78) F dX1_learn_78 ?_
    refine pf_X1_15 (pc := 79) F dX1_learn_79 (v_2 (by omega)) ?_
    refine x_iload_n (i := 2) (pc := 82) F dX1_learn_82 rfl rfl ?_
    refine tq_reti (pc := 83) F dX1_learn_83 ?_ rfl rfl rfl
    refine ⟨by simp only [lostS]; rw [if_neg (by omega)], by simp only [upM, lernK]; simp; omega, fun i hi1 hi2 => ?_, fun o ho1 ho2 => ?_⟩
    · simp only [upM, lernG]
      rw [if_neg (show ¬ μ (2, t, j) 1 = 3 by omega)]
      simp
    · rw [upM_ne ho1, upM_ne ho2]
  · refine x_aload_n (i := 0) (pc := 11) F dX1_learn_11 rfl rfl ?_
    refine x_iload_n (i := 1) (pc := 12) F dX1_learn_12 rfl rfl ?_
    refine x_V1i (ci := 1) (pc := 13) F dX1_learn_13 lk_X1_25 rfl (v_2 (by omega)) rfl rfl (c_X1_leastAlike _ (by omega) (by omega) hG (by omega)) rfl rfl rfl ?_
    rintro _ _ ⟨rfl, rfl⟩
    have hG1 := hG (lpK (μ (3, t, j)) w 2) (by omega) (by omega)
    refine x_istore_n (i := 3) (pc := 16) F dX1_learn_16 rfl rfl ?_
    refine x_aload_n (i := 0) (pc := 17) F dX1_learn_17 rfl rfl ?_
    refine gf_X1_9 (pc := 18) F dX1_learn_18 (v_2 (by omega)) ?_
    refine x_iload_n (i := 3) (pc := 21) F dX1_learn_21 rfl rfl ?_
    refine tq_ia (pc := 22) F dX1_learn_22 (v_3 (by omega)) rfl (fun _ => rfl) (by omega) ?_
    refine x_istore_n (i := 2) (pc := 23) F dX1_learn_23 rfl rfl ?_
    refine x_iload_n (i := 3) (pc := 24) F dX1_learn_24 rfl rfl ?_
    refine x_istore (i := 4) (pc := 25) F dX1_learn_25 rfl ?_
    exact x_sub (L' := [(0, .ref (ad (2, t, j))), (1, .int (I w)), (2, .int (I (μ (3, t, j) (lpK (μ (3, t, j)) w 2)))), (4, .int (I (lpK (μ (3, t, j)) w 2)))]) ⟨rfl, rfl, rfl, rfl, trivial⟩ (loop 4 _ _ (by omega) (by omega) (by omega) (by omega) (fun i hi1 hi2 => by rw [if_neg (by omega)]) (fun o ho => rfl))
end GATE
