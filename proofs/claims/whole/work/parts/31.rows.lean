/-! ===== Rows, Comer, Tape ===== -/
section ROWSM
variable {ad : Ob → Nat} {μ : Me} {nh : Int} {t j t2 j2 : Int}
set_option maxRecDepth 20000 in
theorem c_X4_become (hg : 0 ≤ t ∧ t < 3 ∧ 0 ≤ j ∧ j < 3) (hg2 : 0 ≤ t2 ∧ t2 < 3) (l : Launch) (E : Ev) (A : Nat → Prop) : Con l E 2 m_X4_become A (VC nh) ad μ [.ref (ad (6, t, j)), .ref (ad (6, t2, j))] (pv fun μ' => μ' (6, t, j) 3 = μ (6, t2, j) 3 ∧ (∀ k : Int, 0 ≤ k → k < rsz j → μ' (7, t, j) k = μ (7, t2, j) k ∧ μ' (8, t, j) k = μ (8, t2, j) k ∧ μ' (9, t, j) k = μ (9, t2, j) k) ∧ ∀ o, o ≠ (6, t, j) → o ≠ (7, t, j) → o ≠ (8, t, j) → o ≠ (9, t, j) → μ' o = μ o) := by
  have hr := rsz_rg j
  refine con (own := RX4) (by decide +kernel) rfl rfl rfl (fun Γ F => ?_)
  refine x_aload_n (i := 0) (pc := 0) F dX4_become_0 rfl rfl ?_
  refine x_aload_n (i := 1) (pc := 1) F dX4_become_1 rfl rfl ?_
  refine gf_X4_21 (pc := 2) F dX4_become_2 (v_6 (by omega)) ?_
  refine pf_X4_21 (pc := 5) F dX4_become_5 (v_6 (by omega)) ?_
  refine x_aload_n (i := 1) (pc := 8) F dX4_become_8 rfl rfl ?_
  refine gf_X4_9 (pc := 9) F dX4_become_9 (v_6 (by omega)) ?_
  refine x_iconst (pc := 12) F dX4_become_12 ?_
  refine x_aload_n (i := 0) (pc := 13) F dX4_become_13 rfl rfl ?_
  refine gf_X4_9 (pc := 14) F dX4_become_14 (v_6 (by omega)) ?_
  refine x_iconst (pc := 17) F dX4_become_17 ?_
  refine x_aload_n (i := 0) (pc := 18) F dX4_become_18 rfl rfl ?_
  refine gf_X4_9 (pc := 19) F dX4_become_19 (v_6 (by omega)) ?_
  refine x_alen (pc := 22) F dX4_become_22 (v_7 (by omega)) sh_7 rfl rfl ?_
  refine tq_copy (pc := 23) F dX4_become_23 kw_440 kw_430 kw_429 kw_83 rfl (v_7 (by omega)) (v_7 (by omega)) sh_7 sh_7 (Or.inl ⟨rfl, rfl⟩) (fun _ => rfl) (fun _ => rfl) (by omega) rfl ?_
  refine x_aload_n (i := 1) (pc := 26) F dX4_become_26 rfl rfl ?_
  refine gf_X4_15 (pc := 27) F dX4_become_27 (v_6 (by omega)) ?_
  refine x_iconst (pc := 30) F dX4_become_30 ?_
  refine x_aload_n (i := 0) (pc := 31) F dX4_become_31 rfl rfl ?_
  refine gf_X4_15 (pc := 32) F dX4_become_32 (v_6 (by omega)) ?_
  refine x_iconst (pc := 35) F dX4_become_35 ?_
  refine x_aload_n (i := 0) (pc := 36) F dX4_become_36 rfl rfl ?_
  refine gf_X4_15 (pc := 37) F dX4_become_37 (v_6 (by omega)) ?_
  refine x_alen (pc := 40) F dX4_become_40 (v_8 (by omega)) sh_8 rfl rfl ?_
  refine tq_copy (pc := 41) F dX4_become_41 kw_440 kw_430 kw_429 kw_83 rfl (v_8 (by omega)) (v_8 (by omega)) sh_8 sh_8 (Or.inl ⟨rfl, rfl⟩) (fun _ => rfl) (fun _ => rfl) (by omega) rfl ?_
  refine x_aload_n (i := 1) (pc := 44) F dX4_become_44 rfl rfl ?_
  refine gf_X4_18 (pc := 45) F dX4_become_45 (v_6 (by omega)) ?_
  refine x_iconst (pc := 48) F dX4_become_48 ?_
  refine x_aload_n (i := 0) (pc := 49) F dX4_become_49 rfl rfl ?_
  refine gf_X4_18 (pc := 50) F dX4_become_50 (v_6 (by omega)) ?_
  refine x_iconst (pc := 53) F dX4_become_53 ?_
  refine x_aload_n (i := 0) (pc := 54) F dX4_become_54 rfl rfl ?_
  refine gf_X4_18 (pc := 55) F dX4_become_55 (v_6 (by omega)) ?_
  refine x_alen (pc := 58) F dX4_become_58 (v_9 (by omega)) sh_9 rfl rfl ?_
  refine tq_copy (pc := 59) F dX4_become_59 kw_440 kw_430 kw_429 kw_83 rfl (v_9 (by omega)) (v_9 (by omega)) sh_9 sh_9 (Or.inl ⟨rfl, rfl⟩) (fun _ => rfl) (fun _ => rfl) (by omega) rfl ?_
  refine tq_retv (pc := 62) F dX4_become_62 ?_ rfl rfl rfl
  refine ⟨by simp [upM, cpM], fun k h1 h2 => ?_, fun o h1 h2 h3 h4 => ?_⟩
  · simp [cpM, upM, h1, h2]
  · rw [cpM_ne h4, cpM_ne h3, cpM_ne h2, upM_ne h1]
set_option maxRecDepth 20000 in
theorem c_X4_clear (hg : 0 ≤ t ∧ t < 3 ∧ 0 ≤ j ∧ j < 3) (l : Launch) (E : Ev) (A : Nat → Prop) : Con l E 2 m_X4_clear A (VC nh) ad μ [.ref (ad (6, t, j))] (pi fun z μ' => z = 0 ∧ upM μ (6, t, j) 3 0 = μ') := by
  refine con (own := RX4) (by decide +kernel) rfl rfl rfl (fun Γ F => ?_)
  refine x_aload_n (i := 0) (pc := 0) F dX4_clear_0 rfl rfl ?_
  refine x_iconst (pc := 1) F dX4_clear_1 ?_
  refine pf_X4_21 (pc := 2) F dX4_clear_2 (v_6 (by omega)) ?_
  refine x_aload_n (i := 0) (pc := 5) F dX4_clear_5 rfl rfl ?_
  refine gf_X4_21 (pc := 6) F dX4_clear_6 (v_6 (by omega)) ?_
  refine tq_reti (pc := 9) F dX4_clear_9 ?_ rfl rfl rfl
  exact ⟨by simp [upM], rfl⟩
set_option maxRecDepth 20000 in
theorem c_X4_add (a b c : Int) (hg : 0 ≤ t ∧ t < 3 ∧ 0 ≤ j ∧ j < 3) (hm : 0 ≤ μ (6, t, j) 3 ∧ μ (6, t, j) 3 ≤ rsz j) (l : Launch) (E : Ev) (A : Nat → Prop) : Con l E 2 m_X4_add A (VC nh) ad μ [.ref (ad (6, t, j)), .int (I a), .int (I b), .int (I c)] (pi fun z μ' => (μ (6, t, j) 3 = rsz j ∧ z = -4 ∧ μ = μ') ∨ (μ (6, t, j) 3 < rsz j ∧ z = μ (6, t, j) 3 + 1 ∧ μ' (6, t, j) 3 = μ (6, t, j) 3 + 1 ∧ (∀ k, μ' (7, t, j) k = (if k = μ (6, t, j) 3 then a else μ (7, t, j) k) ∧ μ' (8, t, j) k = (if k = μ (6, t, j) 3 then b else μ (8, t, j) k) ∧ μ' (9, t, j) k = (if k = μ (6, t, j) 3 then c else μ (9, t, j) k)) ∧ ∀ o, o ≠ (6, t, j) → o ≠ (7, t, j) → o ≠ (8, t, j) → o ≠ (9, t, j) → μ' o = μ o)) := by
  have hr := rsz_rg j
  refine con (own := RX4) (by decide +kernel) rfl rfl rfl (fun Γ F => ?_)
  refine x_aload_n (i := 0) (pc := 0) F dX4_add_0 rfl rfl ?_
  refine gf_X4_21 (pc := 1) F dX4_add_1 (v_6 (by omega)) ?_
  refine x_aload_n (i := 0) (pc := 4) F dX4_add_4 rfl rfl ?_
  refine gf_X4_9 (pc := 5) F dX4_add_5 (v_6 (by omega)) ?_
  refine x_alen (pc := 8) F dX4_add_8 (v_7 (by omega)) sh_7 rfl rfl ?_
  refine x_icmp_lt (tgt := 15) (pc := 9) F dX4_add_9 rfl (by omega) (fun h9 => ?_) (fun h9 => ?_)
  · refine x_aload_n (i := 0) (pc := 15) F dX4_add_15 rfl rfl ?_
    refine gf_X4_9 (pc := 16) F dX4_add_16 (v_6 (by omega)) ?_
    refine x_aload_n (i := 0) (pc := 19) F dX4_add_19 rfl rfl ?_
    refine gf_X4_21 (pc := 20) F dX4_add_20 (v_6 (by omega)) ?_
    refine x_iload_n (i := 1) (pc := 23) F dX4_add_23 rfl rfl ?_
    refine tq_ias (pc := 24) F dX4_add_24 (v_7 (by omega)) sh_7 (fun _ => rfl) (by omega) ?_
    refine x_aload_n (i := 0) (pc := 25) F dX4_add_25 rfl rfl ?_
    refine gf_X4_15 (pc := 26) F dX4_add_26 (v_6 (by omega)) ?_
    refine x_aload_n (i := 0) (pc := 29) F dX4_add_29 rfl rfl ?_
    refine gf_X4_21 (pc := 30) F dX4_add_30 (v_6 (by omega)) ?_
    refine x_iload_n (i := 2) (pc := 33) F dX4_add_33 rfl rfl ?_
    have e1 : upM μ (7, t, j) (μ (6, t, j) 3) a (6, t, j) 3 = μ (6, t, j) 3 := by simp [upM]
    refine tq_ias (pc := 34) F dX4_add_34 (v_8 (by omega)) sh_8 (fun _ => rfl) (by omega) ?_
    refine x_aload_n (i := 0) (pc := 35) F dX4_add_35 rfl rfl ?_
    refine gf_X4_18 (pc := 36) F dX4_add_36 (v_6 (by omega)) ?_
    refine x_aload_n (i := 0) (pc := 39) F dX4_add_39 rfl rfl ?_
    refine gf_X4_21 (pc := 40) F dX4_add_40 (v_6 (by omega)) ?_
    refine x_iload_n (i := 3) (pc := 43) F dX4_add_43 rfl rfl ?_
    have e2 : upM (upM μ (7, t, j) (μ (6, t, j) 3) a) (8, t, j) (upM μ (7, t, j) (μ (6, t, j) 3) a (6, t, j) 3) b (6, t, j) 3 = μ (6, t, j) 3 := by simp [upM]
    refine tq_ias (pc := 44) F dX4_add_44 (v_9 (by omega)) sh_9 (fun _ => rfl) (by omega) ?_
    refine x_aload_n (i := 0) (pc := 45) F dX4_add_45 rfl rfl ?_
    refine x_dup (pc := 46) F dX4_add_46 rfl ?_
    refine gf_X4_21 (pc := 47) F dX4_add_47 (v_6 (by omega)) ?_
    refine x_iconst (pc := 50) F dX4_add_50 ?_
    refine x_iadd (pc := 51) F dX4_add_51 ?_
    refine pf_X4_21 (pc := 52) F dX4_add_52 (v_6 (by omega)) ?_
    refine x_aload_n (i := 0) (pc := 55) F dX4_add_55 rfl rfl ?_
    refine gf_X4_21 (pc := 56) F dX4_add_56 (v_6 (by omega)) ?_
    refine tq_reti (pc := 59) F dX4_add_59 ?_ rfl rfl rfl
    refine Or.inr ⟨by omega, by simp [upM], by simp [upM], fun k => by simp [upM], fun o h1 h2 h3 h4 => ?_⟩
    rw [upM_ne h1, upM_ne h4, upM_ne h3, upM_ne h2]
  · refine x_bipush (pc := 12) F dX4_add_12 (by decide) ?_
    refine tq_reti (pc := 14) F dX4_add_14 ?_ rfl rfl rfl
    exact Or.inl ⟨by omega, rfl, rfl⟩
set_option maxRecDepth 20000 in
theorem c_X0_become (hg : 0 ≤ t ∧ t < 3 ∧ 0 ≤ j ∧ j < 6 ∨ t = 3 ∧ j = 0) (hg2 : 0 ≤ t2 ∧ t2 < 3 ∧ 0 ≤ j2 ∧ j2 < 6 ∨ t2 = 3 ∧ j2 = 0) (hne : ¬ (t = t2 ∧ j = j2)) (l : Launch) (E : Ev) (A : Nat → Prop) : Con l E 2 m_X0_become A (VC nh) ad μ [.ref (ad (4, t, j)), .ref (ad (4, t2, j2))] (pv fun μ' => (∀ k, 0 ≤ k → k < 7 → μ' (4, t, j) k = μ (4, t2, j2) k) ∧ (∀ k, 0 ≤ k → k < 4 → μ' (5, t, j) k = μ (5, t2, j2) k) ∧ ∀ o, o ≠ (4, t, j) → o ≠ (5, t, j) → μ' o = μ o) := by
  have hq : ¬ ((4, t2, j2) : Ob) = (4, t, j) := by
    intro h
    simp only [Prod.mk.injEq, true_and] at h
    omega
  refine con (own := RX0) (by decide +kernel) rfl rfl rfl (fun Γ F => ?_)
  refine x_aload_n (i := 0) (pc := 0) F dX0_become_0 rfl rfl ?_
  refine x_aload_n (i := 1) (pc := 1) F dX0_become_1 rfl rfl ?_
  refine gf_X0_15 (pc := 2) F dX0_become_2 (v_4 (by omega)) ?_
  refine pf_X0_15 (pc := 5) F dX0_become_5 (v_4 (by omega)) ?_
  refine x_aload_n (i := 0) (pc := 8) F dX0_become_8 rfl rfl ?_
  refine x_aload_n (i := 1) (pc := 9) F dX0_become_9 rfl rfl ?_
  refine gf_X0_19 (pc := 10) F dX0_become_10 (v_4 (by omega)) ?_
  refine pf_X0_19 (pc := 13) F dX0_become_13 (v_4 (by omega)) ?_
  refine x_aload_n (i := 0) (pc := 16) F dX0_become_16 rfl rfl ?_
  refine x_aload_n (i := 1) (pc := 17) F dX0_become_17 rfl rfl ?_
  refine gf_X0_22 (pc := 18) F dX0_become_18 (v_4 (by omega)) ?_
  refine pf_X0_22 (pc := 21) F dX0_become_21 (v_4 (by omega)) ?_
  refine x_aload_n (i := 0) (pc := 24) F dX0_become_24 rfl rfl ?_
  refine x_aload_n (i := 1) (pc := 25) F dX0_become_25 rfl rfl ?_
  refine gf_X0_25 (pc := 26) F dX0_become_26 (v_4 (by omega)) ?_
  refine pf_X0_25 (pc := 29) F dX0_become_29 (v_4 (by omega)) ?_
  refine x_aload_n (i := 0) (pc := 32) F dX0_become_32 rfl rfl ?_
  refine x_aload_n (i := 1) (pc := 33) F dX0_become_33 rfl rfl ?_
  refine gf_X0_28 (pc := 34) F dX0_become_34 (v_4 (by omega)) ?_
  refine pf_X0_28 (pc := 37) F dX0_become_37 (v_4 (by omega)) ?_
  refine x_aload_n (i := 0) (pc := 40) F dX0_become_40 rfl rfl ?_
  refine x_aload_n (i := 1) (pc := 41) F dX0_become_41 rfl rfl ?_
  refine gf_X0_31 (pc := 42) F dX0_become_42 (v_4 (by omega)) ?_
  refine pf_X0_31 (pc := 45) F dX0_become_45 (v_4 (by omega)) ?_
  refine x_aload_n (i := 0) (pc := 48) F dX0_become_48 rfl rfl ?_
  refine x_aload_n (i := 1) (pc := 49) F dX0_become_49 rfl rfl ?_
  refine gf_X0_34 (pc := 50) F dX0_become_50 (v_4 (by omega)) ?_
  refine pf_X0_34 (pc := 53) F dX0_become_53 (v_4 (by omega)) ?_
  refine x_aload_n (i := 1) (pc := 56) F dX0_become_56 rfl rfl ?_
  refine gf_X0_9 (pc := 57) F dX0_become_57 (v_4 (by omega)) ?_
  refine x_iconst (pc := 60) F dX0_become_60 ?_
  refine x_aload_n (i := 0) (pc := 61) F dX0_become_61 rfl rfl ?_
  refine gf_X0_9 (pc := 62) F dX0_become_62 (v_4 (by omega)) ?_
  refine x_iconst (pc := 65) F dX0_become_65 ?_
  refine x_iconst (pc := 66) F dX0_become_66 ?_
  refine tq_copy (pc := 67) F dX0_become_67 kw_435 kw_430 kw_429 kw_83 rfl (v_5 (by omega)) (v_5 (by omega)) rfl rfl (Or.inl ⟨rfl, rfl⟩) (fun _ => rfl) (fun _ => rfl) (by omega) rfl ?_
  refine tq_retv (pc := 70) F dX0_become_70 ?_ rfl rfl rfl
  refine ⟨fun k h1 h2 => ?_, fun k h1 h2 => ?_, fun o h1 h2 => ?_⟩
  · rcases (show k = 0 ∨ k = 1 ∨ k = 2 ∨ k = 3 ∨ k = 4 ∨ k = 5 ∨ k = 6 by omega) with rfl | rfl | rfl | rfl | rfl | rfl | rfl <;> simp [upM, cpM, hq]
  · simp [cpM, upM, h1, h2]
  · rw [cpM_ne h2, upM_ne h1, upM_ne h1, upM_ne h1, upM_ne h1, upM_ne h1, upM_ne h1, upM_ne h1]
set_option maxRecDepth 20000 in
theorem c_X0_begin (a b w g : Int) (hg : 0 ≤ t ∧ t < 3 ∧ 0 ≤ j ∧ j < 6 ∨ t = 3 ∧ j = 0) (l : Launch) (E : Ev) (A : Nat → Prop) : Con l E 2 m_X0_begin A (VC nh) ad μ [.ref (ad (4, t, j)), .int (I a), .int (I b), .int (I w), .int (I g)] (pv fun μ' => (∀ k, μ' (4, t, j) k = if k = 1 then a else if k = 2 then b else if k = 3 then w else if k = 4 then g else if k = 5 then 0 else if k = 6 then 0 else μ (4, t, j) k) ∧ (∀ k, 0 ≤ k → k < 4 → μ' (5, t, j) k = 0) ∧ ∀ o, o ≠ (4, t, j) → o ≠ (5, t, j) → μ' o = μ o) := by
  refine con (own := RX0) (by decide +kernel) rfl rfl rfl (fun Γ F => ?_)
  have loop : ∀ (N : Nat) (i : Int) (μ1 : Me), 4 - i < N → 0 ≤ i → i ≤ 4 → (∀ k, μ1 (4, t, j) k = if k = 1 then a else if k = 2 then b else if k = 3 then w else if k = 4 then g else if k = 5 then 0 else if k = 6 then 0 else μ (4, t, j) k) → (∀ k, 0 ≤ k → k < i → μ1 (5, t, j) k = 0) → (∀ o, o ≠ (4, t, j) → o ≠ (5, t, j) → μ1 o = μ o) → XX Γ 6 (VC nh) ad (vl ad μ1) 0 0 34 [(0, .ref (ad (4, t, j))), (5, .int (I i))] [] := by
    intro N
    induction N with
    | zero => intro i μ1 h1 h2 h3; omega
    | succ N ih =>
      intro i μ1 h1 h2 h3 h4 h5 h6
      refine x_iload (i := 5) (pc := 34) F dX0_begin_34 rfl ?_
      refine x_iconst (pc := 36) F dX0_begin_36 ?_
      refine x_icmp_ge (tgt := 54) (pc := 37) F dX0_begin_37 rfl (by omega) (fun h37 => ?_) (fun h37 => ?_)
      · refine tq_retv (pc := 54) F dX0_begin_54 ?_ rfl rfl rfl
        exact ⟨h4, fun k hk1 hk2 => h5 k hk1 (by omega), h6⟩
      · refine x_aload_n (i := 0) (pc := 40) F dX0_begin_40 rfl rfl ?_
        refine gf_X0_9 (pc := 41) F dX0_begin_41 (v_4 (by omega)) ?_
        refine x_iload (i := 5) (pc := 44) F dX0_begin_44 rfl ?_
        refine x_iconst (pc := 46) F dX0_begin_46 ?_
        refine tq_ias (pc := 47) F dX0_begin_47 (v_5 (by omega)) rfl (fun _ => rfl) (by omega) ?_
        refine x_iinc (pc := 48) F dX0_begin_48 rfl rfl ?_
        refine x_goto (tgt := 34) (pc := 51) F dX0_begin_51 rfl ?_
        refine x_sub (L' := [(0, .ref (ad (4, t, j))), (5, .int (I (i + 1)))]) ⟨rfl, rfl, trivial⟩ (ih (i + 1) _ (by omega) (by omega) (by omega) (fun k => ?_) (fun k hk1 hk2 => ?_) (fun o ho1 ho2 => ?_))
        · rw [upM_ne (by simp)]; exact h4 k
        · rw [upM_i]; split
          · rfl
          · exact h5 k hk1 (by omega)
        · rw [upM_ne ho2]; exact h6 o ho1 ho2
  refine x_aload_n (i := 0) (pc := 0) F dX0_begin_0 rfl rfl ?_
  refine x_iload_n (i := 1) (pc := 1) F dX0_begin_1 rfl rfl ?_
  refine pf_X0_19 (pc := 2) F dX0_begin_2 (v_4 (by omega)) ?_
  refine x_aload_n (i := 0) (pc := 5) F dX0_begin_5 rfl rfl ?_
  refine x_iload_n (i := 2) (pc := 6) F dX0_begin_6 rfl rfl ?_
  refine pf_X0_22 (pc := 7) F dX0_begin_7 (v_4 (by omega)) ?_
  refine x_aload_n (i := 0) (pc := 10) F dX0_begin_10 rfl rfl ?_
  refine x_iload_n (i := 3) (pc := 11) F dX0_begin_11 rfl rfl ?_
  refine pf_X0_25 (pc := 12) F dX0_begin_12 (v_4 (by omega)) ?_
  refine x_aload_n (i := 0) (pc := 15) F dX0_begin_15 rfl rfl ?_
  refine x_iload (i := 4) (pc := 16) F dX0_begin_16 rfl ?_
  refine pf_X0_28 (pc := 18) F dX0_begin_18 (v_4 (by omega)) ?_
  refine x_aload_n (i := 0) (pc := 21) F dX0_begin_21 rfl rfl ?_
  refine x_iconst (pc := 22) F dX0_begin_22 ?_
  refine pf_X0_31 (pc := 23) F dX0_begin_23 (v_4 (by omega)) ?_
  refine x_aload_n (i := 0) (pc := 26) F dX0_begin_26 rfl rfl ?_
  refine x_iconst (pc := 27) F dX0_begin_27 ?_
  refine pf_X0_34 (pc := 28) F dX0_begin_28 (v_4 (by omega)) ?_
  refine x_iconst (pc := 31) F dX0_begin_31 ?_
  refine x_istore (i := 5) (pc := 32) F dX0_begin_32 rfl ?_
  refine x_sub (L' := [(0, .ref (ad (4, t, j))), (5, .int (I 0))]) ⟨rfl, rfl, trivial⟩ (loop 5 0 _ (by omega) (by omega) (by omega) (fun k => ?_) (fun k hk1 hk2 => by omega) (fun o ho1 ho2 => ?_))
  · simp only [upM_i]
    by_cases e6 : k = 6
    · simp [e6]
    · by_cases e5 : k = 5
      · simp [e5]
      · by_cases e4 : k = 4
        · simp [e4]
        · by_cases e3 : k = 3
          · simp [e3]
          · by_cases e2 : k = 2
            · simp [e2]
            · simp [e6, e5, e4, e3, e2]
  · rw [upM_ne ho1, upM_ne ho1, upM_ne ho1, upM_ne ho1, upM_ne ho1, upM_ne ho1]
set_option maxRecDepth 20000 in
theorem c_X5_become (a b : Int) (hg : 0 ≤ t ∧ t < 6 ∧ j = 0) (l : Launch) (E : Ev) (A : Nat → Prop) : Con l E 2 m_X5_become A (VC nh) ad μ [.ref (ad (20, t, j)), .int (I a), .int (I b)] (pv fun μ' => μ' (20, t, j) 1 = a ∧ μ' (20, t, j) 2 = b ∧ (∀ k, 0 ≤ k → k < 60 → μ' (21, t, 0) k = 0) ∧ ∀ o, o ≠ (20, t, j) → o ≠ (21, t, 0) → μ' o = μ o) := by
  refine con (own := RX5) (by decide +kernel) rfl rfl rfl (fun Γ F => ?_)
  have loop : ∀ (N : Nat) (i : Int) (μ1 : Me), 60 - i < N → 0 ≤ i → i ≤ 60 → μ1 (20, t, j) 1 = a → μ1 (20, t, j) 2 = b → (∀ k, 0 ≤ k → k < i → μ1 (21, t, 0) k = 0) → (∀ o, o ≠ (20, t, j) → o ≠ (21, t, 0) → μ1 o = μ o) → XX Γ 4 (VC nh) ad (vl ad μ1) 0 0 12 [(0, .ref (ad (20, t, j))), (3, .int (I i))] [] := by
    intro N
    induction N with
    | zero => intro i μ1 h1 h2 h3; omega
    | succ N ih =>
      intro i μ1 h1 h2 h3 h4 h5 h6 h7
      refine x_iload_n (i := 3) (pc := 12) F dX5_become_12 rfl rfl ?_
      refine x_bipush (pc := 13) F dX5_become_13 (by decide) ?_
      refine x_icmp_ge (tgt := 31) (pc := 15) F dX5_become_15 rfl (by omega) (fun h15 => ?_) (fun h15 => ?_)
      · refine tq_retv (pc := 31) F dX5_become_31 ?_ rfl rfl rfl
        exact ⟨h4, h5, fun k hk1 hk2 => h6 k hk1 (by omega), h7⟩
      · refine x_aload_n (i := 0) (pc := 18) F dX5_become_18 rfl rfl ?_
        refine gf_X5_9 (pc := 19) F dX5_become_19 (v_20 (by omega)) ?_
        refine x_iload_n (i := 3) (pc := 22) F dX5_become_22 rfl rfl ?_
        refine x_lconst (pc := 23) F dX5_become_23 (z := 0) (by decide) ?_
        refine tq_las (pc := 24) F dX5_become_24 (v_21 (by omega)) rfl (fun _ => rfl) (by omega) ?_
        refine x_iinc (pc := 25) F dX5_become_25 rfl rfl ?_
        refine x_goto (tgt := 12) (pc := 28) F dX5_become_28 rfl ?_
        refine x_sub (L' := [(0, .ref (ad (20, t, j))), (3, .int (I (i + 1)))]) ⟨rfl, rfl, trivial⟩ (ih (i + 1) _ (by omega) (by omega) (by omega) (by rw [upM_ne (by simp)]; exact h4) (by rw [upM_ne (by simp)]; exact h5) (fun k hk1 hk2 => ?_) (fun o ho1 ho2 => ?_))
        · rw [upM_i]; split
          · rfl
          · exact h6 k hk1 (by omega)
        · rw [upM_ne ho2]; exact h7 o ho1 ho2
  refine x_aload_n (i := 0) (pc := 0) F dX5_become_0 rfl rfl ?_
  refine x_iload_n (i := 1) (pc := 1) F dX5_become_1 rfl rfl ?_
  refine pf_X5_15 (pc := 2) F dX5_become_2 (v_20 (by omega)) ?_
  refine x_aload_n (i := 0) (pc := 5) F dX5_become_5 rfl rfl ?_
  refine x_iload_n (i := 2) (pc := 6) F dX5_become_6 rfl rfl ?_
  refine pf_X5_19 (pc := 7) F dX5_become_7 (v_20 (by omega)) ?_
  refine x_iconst (pc := 10) F dX5_become_10 ?_
  refine x_istore_n (i := 3) (pc := 11) F dX5_become_11 rfl rfl ?_
  exact x_sub (L' := [(0, .ref (ad (20, t, j))), (3, .int (I 0))]) ⟨rfl, rfl, trivial⟩ (loop 61 0 _ (by omega) (by omega) (by omega) (by simp [upM]) (by simp [upM]) (fun k hk1 hk2 => by omega) (fun o ho1 ho2 => by rw [upM_ne ho1, upM_ne ho1]))
set_option maxRecDepth 20000 in
theorem c_X5_hasPlace (i : Int) (hg : 0 ≤ t ∧ t < 6 ∧ j = 0) (hi : -2147483648 ≤ i ∧ i < 2147483648) (hl : 0 ≤ μ (20, t, j) 2 ∧ μ (20, t, j) 2 ≤ 60) (l : Launch) (E : Ev) (A : Nat → Prop) : Con l E 1 m_X5_hasPlace A (VC nh) ad μ [.ref (ad (20, t, j)), .int (I i)] (pz fun z μ' => z = decide (0 ≤ i ∧ i < μ (20, t, j) 2) ∧ μ = μ') := by
  refine con (own := RX5) (by decide +kernel) rfl rfl rfl (fun Γ F => ?_)
  refine x_iload_n (i := 1) (pc := 0) F dX5_hasPlace_0 rfl rfl ?_
  refine x_if_lt (tgt := 16) (pc := 1) F dX5_hasPlace_1 rfl (by omega) (fun h1 => ?_) (fun h1 => ?_)
  · refine x_iconst (pc := 16) F dX5_hasPlace_16 ?_
    refine tq_retz (b := false) (pc := 17) F dX5_hasPlace_17 ?_ rfl rfl rfl
    exact ⟨by simp only [Bool.true_eq, Bool.false_eq, decide_eq_true_eq, decide_eq_false_iff_not]; omega, rfl⟩
  · refine x_iload_n (i := 1) (pc := 4) F dX5_hasPlace_4 rfl rfl ?_
    refine x_aload_n (i := 0) (pc := 5) F dX5_hasPlace_5 rfl rfl ?_
    refine gf_X5_19 (pc := 6) F dX5_hasPlace_6 (v_20 (by omega)) ?_
    refine x_icmp_ge (tgt := 16) (pc := 9) F dX5_hasPlace_9 rfl (by omega) (fun h9 => ?_) (fun h9 => ?_)
    · refine x_iconst (pc := 16) F dX5_hasPlace_16 ?_
      refine tq_retz (b := false) (pc := 17) F dX5_hasPlace_17 ?_ rfl rfl rfl
      exact ⟨by simp only [Bool.true_eq, Bool.false_eq, decide_eq_true_eq, decide_eq_false_iff_not]; omega, rfl⟩
    · refine x_iconst (pc := 12) F dX5_hasPlace_12 ?_
      refine x_goto (tgt := 17) (pc := 13) F dX5_hasPlace_13 rfl ?_
      refine tq_retz (b := true) (pc := 17) F dX5_hasPlace_17 ?_ rfl rfl rfl
      exact ⟨by simp only [Bool.true_eq, Bool.false_eq, decide_eq_true_eq, decide_eq_false_iff_not]; omega, rfl⟩
set_option maxRecDepth 20000 in
theorem c_X5_hasPlaces (i n : Int) (hg : 0 ≤ t ∧ t < 6 ∧ j = 0) (hi : -2147483648 ≤ i ∧ i < 2147483648) (hn : -2147483648 ≤ n ∧ n < 2147483648) (hl : 0 ≤ μ (20, t, j) 2 ∧ μ (20, t, j) 2 ≤ 60) (l : Launch) (E : Ev) (A : Nat → Prop) : Con l E 1 m_X5_hasPlaces A (VC nh) ad μ [.ref (ad (20, t, j)), .int (I i), .int (I n)] (pz fun z μ' => z = decide (0 ≤ i ∧ 0 ≤ n ∧ i + n ≤ μ (20, t, j) 2) ∧ μ = μ') := by
  refine con (own := RX5) (by decide +kernel) rfl rfl rfl (fun Γ F => ?_)
  refine x_iload_n (i := 1) (pc := 0) F dX5_hasPlaces_0 rfl rfl ?_
  refine x_if_lt (tgt := 30) (pc := 1) F dX5_hasPlaces_1 rfl (by omega) (fun h1 => ?_) (fun h1 => ?_)
  · refine x_iconst (pc := 30) F dX5_hasPlaces_30 ?_
    refine tq_retz (b := false) (pc := 31) F dX5_hasPlaces_31 ?_ rfl rfl rfl
    exact ⟨by simp only [Bool.true_eq, Bool.false_eq, decide_eq_true_eq, decide_eq_false_iff_not]; omega, rfl⟩
  · refine x_iload_n (i := 2) (pc := 4) F dX5_hasPlaces_4 rfl rfl ?_
    refine x_if_lt (tgt := 30) (pc := 5) F dX5_hasPlaces_5 rfl (by omega) (fun h5 => ?_) (fun h5 => ?_)
    · refine x_iconst (pc := 30) F dX5_hasPlaces_30 ?_
      refine tq_retz (b := false) (pc := 31) F dX5_hasPlaces_31 ?_ rfl rfl rfl
      exact ⟨by simp only [Bool.true_eq, Bool.false_eq, decide_eq_true_eq, decide_eq_false_iff_not]; omega, rfl⟩
    · refine x_iload_n (i := 1) (pc := 8) F dX5_hasPlaces_8 rfl rfl ?_
      refine x_aload_n (i := 0) (pc := 9) F dX5_hasPlaces_9 rfl rfl ?_
      refine gf_X5_19 (pc := 10) F dX5_hasPlaces_10 (v_20 (by omega)) ?_
      refine x_icmp_gt (tgt := 30) (pc := 13) F dX5_hasPlaces_13 rfl (by omega) (fun h13 => ?_) (fun h13 => ?_)
      · refine x_iconst (pc := 30) F dX5_hasPlaces_30 ?_
        refine tq_retz (b := false) (pc := 31) F dX5_hasPlaces_31 ?_ rfl rfl rfl
        exact ⟨by simp only [Bool.true_eq, Bool.false_eq, decide_eq_true_eq, decide_eq_false_iff_not]; omega, rfl⟩
      · refine x_iload_n (i := 2) (pc := 16) F dX5_hasPlaces_16 rfl rfl ?_
        refine x_aload_n (i := 0) (pc := 17) F dX5_hasPlaces_17 rfl rfl ?_
        refine gf_X5_19 (pc := 18) F dX5_hasPlaces_18 (v_20 (by omega)) ?_
        refine x_iload_n (i := 1) (pc := 21) F dX5_hasPlaces_21 rfl rfl ?_
        refine x_isub (pc := 22) F dX5_hasPlaces_22 ?_
        refine x_icmp_gt (tgt := 30) (pc := 23) F dX5_hasPlaces_23 rfl (by omega) (fun h23 => ?_) (fun h23 => ?_)
        · refine x_iconst (pc := 30) F dX5_hasPlaces_30 ?_
          refine tq_retz (b := false) (pc := 31) F dX5_hasPlaces_31 ?_ rfl rfl rfl
          exact ⟨by simp only [Bool.true_eq, Bool.false_eq, decide_eq_true_eq, decide_eq_false_iff_not]; omega, rfl⟩
        · refine x_iconst (pc := 26) F dX5_hasPlaces_26 ?_
          refine x_goto (tgt := 31) (pc := 27) F dX5_hasPlaces_27 rfl ?_
          refine tq_retz (b := true) (pc := 31) F dX5_hasPlaces_31 ?_ rfl rfl rfl
          exact ⟨by simp only [Bool.true_eq, Bool.false_eq, decide_eq_true_eq, decide_eq_false_iff_not]; omega, rfl⟩
set_option maxRecDepth 20000 in
theorem c_X5_cut (v : Int) (hg : 0 ≤ t ∧ t < 6 ∧ j = 0) (hl : -1 ≤ μ (20, t, j) 1 ∧ μ (20, t, j) 1 ≤ 4) (l : Launch) (E : Ev) (A : Nat → Prop) : Con l E 1 m_X5_cut A (VC nh) ad μ [.ref (ad (20, t, j)), .long (J v)] (pl fun z μ' => z = cutS (μ (20, t, j) 1) v ∧ μ = μ') := by
  have r1 := w32_rg v
  have r2 := b8_rg (w32 v)
  have r3 := s16_rg (w32 v)
  have r4 := lcS_rg v 0
  refine con (own := RX5) (by decide +kernel) rfl rfl rfl (fun Γ F => ?_)
  refine x_aload_n (i := 0) (pc := 0) F dX5_cut_0 rfl rfl ?_
  refine gf_X5_15 (pc := 1) F dX5_cut_1 (v_20 (by omega)) ?_
  refine x_tab (ts := [40, 45, 50, 66, 54]) (dt := 66) (pc := 4) F dX5_cut_4 rfl rfl (by omega) ⟨fun h4 => ?_, fun h4 => ?_, fun h4 => ?_, fun h4 => ?_, fun h4 => ?_, trivial⟩ (fun h4 => ?_)
  · refine x_lload_n (i := 1) (pc := 40) F dX5_cut_40 rfl rfl ?_
    refine tq_l2i (pc := 41) F dX5_cut_41 ?_
    refine tq_i2b (pc := 42) F dX5_cut_42 ?_
    refine x_i2l (pc := 43) F dX5_cut_43 (by omega) ?_
    refine tq_retl (pc := 44) F dX5_cut_44 ?_ rfl rfl rfl
    exact ⟨by unfold cutS; simp_all; try omega, rfl⟩
  · refine x_lload_n (i := 1) (pc := 45) F dX5_cut_45 rfl rfl ?_
    refine tq_l2i (pc := 46) F dX5_cut_46 ?_
    refine tq_i2s (pc := 47) F dX5_cut_47 ?_
    refine x_i2l (pc := 48) F dX5_cut_48 (by omega) ?_
    refine tq_retl (pc := 49) F dX5_cut_49 ?_ rfl rfl rfl
    exact ⟨by unfold cutS; simp_all; try omega, rfl⟩
  · refine x_lload_n (i := 1) (pc := 50) F dX5_cut_50 rfl rfl ?_
    refine tq_l2i (pc := 51) F dX5_cut_51 ?_
    refine x_i2l (pc := 52) F dX5_cut_52 (by omega) ?_
    refine tq_retl (pc := 53) F dX5_cut_53 ?_ rfl rfl rfl
    exact ⟨by unfold cutS; simp_all; try omega, rfl⟩
  · refine x_lload_n (i := 1) (pc := 66) F dX5_cut_66 rfl rfl ?_
    refine tq_retl (pc := 67) F dX5_cut_67 ?_ rfl rfl rfl
    exact ⟨by unfold cutS; simp_all; try omega, rfl⟩
  · refine x_lload_n (i := 1) (pc := 54) F dX5_cut_54 rfl rfl ?_
    refine x_lconst (pc := 55) F dX5_cut_55 (z := 0) (by decide) ?_
    refine tq_lcmp (pc := 56) F dX5_cut_56 ?_
    refine x_if_eq (tgt := 64) (pc := 57) F dX5_cut_57 rfl (by omega) (fun h57 => ?_) (fun h57 => ?_)
    · refine x_lconst (pc := 64) F dX5_cut_64 (z := 0) (by decide) ?_
      refine tq_retl (pc := 65) F dX5_cut_65 ?_ rfl rfl rfl
      exact ⟨by unfold cutS; simp_all; try omega, rfl⟩
    · refine x_lconst (pc := 60) F dX5_cut_60 (z := 1) (by decide) ?_
      refine x_goto (tgt := 65) (pc := 61) F dX5_cut_61 rfl ?_
      refine tq_retl (pc := 65) F dX5_cut_65 ?_ rfl rfl rfl
      exact ⟨by unfold cutS; simp_all; try omega, rfl⟩
  · refine x_lload_n (i := 1) (pc := 66) F dX5_cut_66 rfl rfl ?_
    refine tq_retl (pc := 67) F dX5_cut_67 ?_ rfl rfl rfl
    exact ⟨by unfold cutS; simp_all; try omega, rfl⟩
set_option maxRecDepth 20000 in
theorem c_X5_put (i v : Int) (hg : 0 ≤ t ∧ t < 6 ∧ j = 0) (hi : -2147483648 ≤ i ∧ i < 2147483648) (hl : 0 ≤ μ (20, t, j) 2 ∧ μ (20, t, j) 2 ≤ 60) (hs : -1 ≤ μ (20, t, j) 1 ∧ μ (20, t, j) 1 ≤ 4) (l : Launch) (E : Ev) (A : Nat → Prop) : Con l E 2 m_X5_put A (VC nh) ad μ [.ref (ad (20, t, j)), .int (I i), .long (J v)] (pv fun μ' => (if 0 ≤ i ∧ i < μ (20, t, j) 2 then upM μ (21, t, 0) i (cutS (μ (20, t, j) 1) v) else μ) = μ') := by
  refine con (own := RX5) (by decide +kernel) rfl rfl rfl (fun Γ F => ?_)
  refine x_aload_n (i := 0) (pc := 0) F dX5_put_0 rfl rfl ?_
  refine x_iload_n (i := 1) (pc := 1) F dX5_put_1 rfl rfl ?_
  refine x_V1z (ci := 5) (pc := 2) F dX5_put_2 lk_X5_22 rfl (v_20 (by omega)) rfl rfl (c_X5_hasPlace _ (by omega) (by omega) (by omega)) rfl rfl rfl ?_
  rintro _ _ ⟨rfl, rfl⟩
  refine x_if_eqB (tgt := 19) (pc := 5) F dX5_put_5 rfl (fun h5 => ?_) (fun h5 => ?_)
  · try simp only [decide_eq_true_eq, decide_eq_false_iff_not, Bool.and_eq_true, Bool.or_eq_true, Bool.not_eq_true', Bool.not_eq_false', Bool.and_eq_false_iff, Bool.or_eq_false_iff] at h5
    refine tq_retv (pc := 19) F dX5_put_19 ?_ rfl rfl rfl
    simp [h5]
  · try simp only [decide_eq_true_eq, decide_eq_false_iff_not, Bool.and_eq_true, Bool.or_eq_true, Bool.not_eq_true', Bool.not_eq_false', Bool.and_eq_false_iff, Bool.or_eq_false_iff] at h5
    refine x_aload_n (i := 0) (pc := 8) F dX5_put_8 rfl rfl ?_
    refine gf_X5_9 (pc := 9) F dX5_put_9 (v_20 (by omega)) ?_
    refine x_iload_n (i := 1) (pc := 12) F dX5_put_12 rfl rfl ?_
    refine x_aload_n (i := 0) (pc := 13) F dX5_put_13 rfl rfl ?_
    refine x_lload_n (i := 2) (pc := 14) F dX5_put_14 rfl rfl ?_
    refine x_V1l (ci := 5) (pc := 15) F dX5_put_15 lk_X5_26 rfl (v_20 (by omega)) rfl rfl (c_X5_cut _ (by omega) (by omega)) rfl rfl rfl ?_
    rintro _ _ ⟨rfl, rfl⟩
    refine tq_las (pc := 18) F dX5_put_18 (v_21 (by omega)) rfl (fun _ => rfl) (by omega) ?_
    refine tq_retv (pc := 19) F dX5_put_19 ?_ rfl rfl rfl
    simp [h5]
end ROWSM
