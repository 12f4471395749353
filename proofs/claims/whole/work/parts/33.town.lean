/-! ===== Town: how like, who is let ===== -/
/-- LIKE by a SUM: of a kind, v, gate, tries, row at the gate; on a day; at a gate -/
def lbS (k v gt tr rw day g sum : Int) : Int := if k = 1 then sum + v else if k = 2 then sum.tdiv 2 + 4 else if k = 3 then (if gt = g then sum else 0) else if k = 4 then sum + v - min (day / 10) 9 else if k = 5 then sum.tdiv 2 + 4 + tr else if k = 6 then (if gt = g then sum else 0) + rw else sum
theorem tdiv2 (a : Int) : a.tdiv 2 = if 0 ≤ a then a / 2 else -((-a) / 2) := by
  split
  · rw [Int.tdiv_eq_ediv_of_nonneg (by omega)]
  · have h : (-a).tdiv 2 = (-a) / 2 := Int.tdiv_eq_ediv_of_nonneg (by omega)
    rw [Int.neg_tdiv] at h
    omega
theorem lbS_mono {k v gt tr rw day g a b : Int} (h : a ≤ b) : lbS k v gt tr rw day g a ≤ lbS k v gt tr rw day g b := by
  unfold lbS
  rw [tdiv2, tdiv2]
  repeat' split
  all_goals omega
theorem lbS_rg {k v gt tr rw day g a : Int} (h : -20000 ≤ a ∧ a ≤ 20000) (hv : 0 ≤ v ∧ v ≤ 9) (ht : 0 ≤ tr ∧ tr ≤ 9) (hr : 0 ≤ rw ∧ rw ≤ 9) (hd : 0 ≤ day ∧ day ≤ 20000) : -30000 ≤ lbS k v gt tr rw day g a ∧ lbS k v gt tr rw day g a ≤ 30000 := by
  unfold lbS
  rw [tdiv2]
  repeat' split
  all_goals omega
/-- a Comer's cells -/
def ComerOK (μ : Me) (t p : Int) : Prop := (0 ≤ t ∧ t < 3 ∧ 0 ≤ p ∧ p < 6 ∨ t = 3 ∧ p = 0) ∧ (0 ≤ μ (4, t, p) 0 ∧ μ (4, t, p) 0 ≤ 5) ∧ (0 ≤ μ (4, t, p) 1 ∧ μ (4, t, p) 1 ≤ 6) ∧ (0 ≤ μ (4, t, p) 2 ∧ μ (4, t, p) 2 ≤ 9) ∧ (0 ≤ μ (4, t, p) 3 ∧ μ (4, t, p) 3 < 4096) ∧ (0 ≤ μ (4, t, p) 4 ∧ μ (4, t, p) 4 ≤ 3) ∧ (0 ≤ μ (4, t, p) 5 ∧ μ (4, t, p) 5 ≤ 9) ∧ (0 ≤ μ (4, t, p) 6 ∧ μ (4, t, p) 6 ≤ 20000) ∧ ∀ k, 0 ≤ k → k < 4 → 0 ≤ μ (5, t, p) k ∧ μ (5, t, p) k ≤ 9
/-- a Gate's cells -/
def GateOK (μ : Me) (t g : Int) : Prop := (0 ≤ μ (2, t, g) 1 ∧ μ (2, t, g) 1 ≤ 3) ∧ ∀ k, 0 ≤ k → k < 3 → 0 ≤ μ (3, t, g) k ∧ μ (3, t, g) k < 4096
/-- a Town's own cells, its House -/
def TownOK (μ : Me) (nh t : Int) : Prop := (0 ≤ t ∧ t < 3) ∧ (0 ≤ μ (1, t, 0) 5 ∧ μ (1, t, 0) 5 ≤ 6) ∧ (0 ≤ μ (1, t, 0) 6 ∧ μ (1, t, 0) 6 ≤ 20000) ∧ (0 ≤ μ (1, t, 0) 7 ∧ μ (1, t, 0) 7 < nh ∧ μ (1, t, 0) 7 < 6 ∨ μ (1, t, 0) 7 = 6) ∧ HouseOK μ (μ (1, t, 0) 7)
def lbM (μ : Me) (t tc p g sum : Int) : Int := lbS (μ (4, tc, p) 1) (μ (4, tc, p) 2) (μ (4, tc, p) 4) (μ (4, tc, p) 5) (μ (5, tc, p) g) (μ (1, t, 0) 6) g sum
def bnM (μ : Me) (t tc p g : Int) : Int := bonH μ (μ (1, t, 0) 7) (valS (μ (4, tc, p) 0) (μ (4, tc, p) 1) (μ (4, tc, p) 2) g (μ (4, tc, p) 5) (μ (1, t, 0) 6))
def ndM (μ : Me) (t : Int) : Int := μ (12, μ (1, t, 0) 7, 0) 3
def letM (μ : Me) (t tc p g : Int) : Prop := ∃ k, 0 ≤ k ∧ k < μ (2, t, g) 1 ∧ ndM μ t ≤ lbM μ t tc p g (alk (μ (3, t, g) k) (μ (4, tc, p) 3) + bnM μ t tc p g)
/-- the least number of MARKS alike, 13: none -/
def mnP (μ : Me) (t tc p g z : Int) : Prop := 0 ≤ z ∧ z ≤ 13 ∧ ∀ m, 0 ≤ m → m ≤ 12 → (z ≤ m ↔ ndM μ t ≤ lbM μ t tc p g (m + bnM μ t tc p g))
section TOWN
variable {ad : Ob → Nat} {μ : Me} {nh t tc p g : Int}
set_option maxRecDepth 20000 in
theorem c_X6_likeBySum (sum : Int) (hT : TownOK μ nh t) (hC : ComerOK μ tc p) (hg : 0 ≤ g ∧ g < 4) (hs : -20000 ≤ sum ∧ sum ≤ 20000) (l : Launch) (E : Ev) (A : Nat → Prop) : Con l E 1 m_X6_likeBySum A (VC nh) ad μ [.ref (ad (1, t, 0)), .ref (ad (4, tc, p)), .int (I g), .int (I sum)] (pi fun z μ' => z = lbM μ t tc p g sum ∧ μ = μ') := by
  obtain ⟨t1, t2, t3, t4, t5⟩ := hT
  obtain ⟨q0, q1, q2, q3, q4, q5, q6, q7, q8⟩ := hC
  have q9 := q8 g hg.1 hg.2
  have htd : -20000 ≤ sum.tdiv 2 ∧ sum.tdiv 2 ≤ 20000 := by rw [tdiv2]; split <;> omega
  refine con (own := RX6) (by decide +kernel) rfl rfl rfl (fun Γ F => ?_)
  refine x_aload_n (i := 1) (pc := 0) F dX6_likeBySum_0 rfl rfl ?_
  refine gf_X6_77 (pc := 1) F dX6_likeBySum_1 (v_4 (by omega)) ?_
  refine x_tab (ts := [44, 51, 57, 71, 91, 102]) (dt := 123) (pc := 4) F dX6_likeBySum_4 rfl rfl (by omega) ⟨fun h4 => ?_, fun h4 => ?_, fun h4 => ?_, fun h4 => ?_, fun h4 => ?_, fun h4 => ?_, trivial⟩ (fun h4 => ?_)
  · refine x_iload_n (i := 3) (pc := 44) F dX6_likeBySum_44 rfl rfl ?_
    refine x_aload_n (i := 1) (pc := 45) F dX6_likeBySum_45 rfl rfl ?_
    refine gf_X6_80 (pc := 46) F dX6_likeBySum_46 (v_4 (by omega)) ?_
    refine x_iadd (pc := 49) F dX6_likeBySum_49 ?_
    refine tq_reti (pc := 50) F dX6_likeBySum_50 ?_ rfl rfl rfl
    exact ⟨by unfold lbM lbS; (repeat' split) <;> omega, rfl⟩
  · refine x_iload_n (i := 3) (pc := 51) F dX6_likeBySum_51 rfl rfl ?_
    refine x_iconst (pc := 52) F dX6_likeBySum_52 ?_
    refine tq_idivT (pc := 53) F dX6_likeBySum_53 (by omega) ?_
    refine x_iconst (pc := 54) F dX6_likeBySum_54 ?_
    refine x_iadd (pc := 55) F dX6_likeBySum_55 ?_
    refine tq_reti (pc := 56) F dX6_likeBySum_56 ?_ rfl rfl rfl
    exact ⟨by unfold lbM lbS; (repeat' split) <;> omega, rfl⟩
  · refine x_aload_n (i := 1) (pc := 57) F dX6_likeBySum_57 rfl rfl ?_
    refine gf_X6_83 (pc := 58) F dX6_likeBySum_58 (v_4 (by omega)) ?_
    refine x_iload_n (i := 2) (pc := 61) F dX6_likeBySum_61 rfl rfl ?_
    refine x_icmp_ne (tgt := 69) (pc := 62) F dX6_likeBySum_62 rfl (by omega) (fun h62 => ?_) (fun h62 => ?_)
    · refine x_iconst (pc := 69) F dX6_likeBySum_69 ?_
      refine tq_reti (pc := 70) F dX6_likeBySum_70 ?_ rfl rfl rfl
      exact ⟨by unfold lbM lbS; (repeat' split) <;> omega, rfl⟩
    · refine x_iload_n (i := 3) (pc := 65) F dX6_likeBySum_65 rfl rfl ?_
      refine x_goto (tgt := 70) (pc := 66) F dX6_likeBySum_66 rfl ?_
      refine tq_reti (pc := 70) F dX6_likeBySum_70 ?_ rfl rfl rfl
      exact ⟨by unfold lbM lbS; (repeat' split) <;> omega, rfl⟩
  · refine x_iload_n (i := 3) (pc := 71) F dX6_likeBySum_71 rfl rfl ?_
    refine x_aload_n (i := 1) (pc := 72) F dX6_likeBySum_72 rfl rfl ?_
    refine gf_X6_80 (pc := 73) F dX6_likeBySum_73 (v_4 (by omega)) ?_
    refine x_iadd (pc := 76) F dX6_likeBySum_76 ?_
    refine x_aload_n (i := 0) (pc := 77) F dX6_likeBySum_77 rfl rfl ?_
    refine gf_X6_58 (pc := 78) F dX6_likeBySum_78 (v_1 (by omega)) ?_
    refine x_bipush (pc := 81) F dX6_likeBySum_81 (by decide) ?_
    refine tq_idiv (pc := 83) F dX6_likeBySum_83 (by omega) ?_
    refine x_bipush (pc := 84) F dX6_likeBySum_84 (by decide) ?_
    refine tq_min (pc := 86) F dX6_likeBySum_86 kw_391 rfl rfl rfl rfl (by omega) ?_
    refine x_isub (pc := 89) F dX6_likeBySum_89 ?_
    refine tq_reti (pc := 90) F dX6_likeBySum_90 ?_ rfl rfl rfl
    exact ⟨by unfold lbM lbS; (repeat' split) <;> omega, rfl⟩
  · refine x_iload_n (i := 3) (pc := 91) F dX6_likeBySum_91 rfl rfl ?_
    refine x_iconst (pc := 92) F dX6_likeBySum_92 ?_
    refine tq_idivT (pc := 93) F dX6_likeBySum_93 (by omega) ?_
    refine x_iconst (pc := 94) F dX6_likeBySum_94 ?_
    refine x_iadd (pc := 95) F dX6_likeBySum_95 ?_
    refine x_aload_n (i := 1) (pc := 96) F dX6_likeBySum_96 rfl rfl ?_
    refine gf_X6_91 (pc := 97) F dX6_likeBySum_97 (v_4 (by omega)) ?_
    refine x_iadd (pc := 100) F dX6_likeBySum_100 ?_
    refine tq_reti (pc := 101) F dX6_likeBySum_101 ?_ rfl rfl rfl
    exact ⟨by unfold lbM lbS; (repeat' split) <;> omega, rfl⟩
  · refine x_aload_n (i := 1) (pc := 102) F dX6_likeBySum_102 rfl rfl ?_
    refine gf_X6_83 (pc := 103) F dX6_likeBySum_103 (v_4 (by omega)) ?_
    refine x_iload_n (i := 2) (pc := 106) F dX6_likeBySum_106 rfl rfl ?_
    refine x_icmp_ne (tgt := 114) (pc := 107) F dX6_likeBySum_107 rfl (by omega) (fun h107 => ?_) (fun h107 => ?_)
    · refine x_iconst (pc := 114) F dX6_likeBySum_114 ?_
      refine x_aload_n (i := 1) (pc := 115) F dX6_likeBySum_115 rfl rfl ?_
      refine gf_X6_94 (pc := 116) F dX6_likeBySum_116 (v_4 (by omega)) ?_
      refine x_iload_n (i := 2) (pc := 119) F dX6_likeBySum_119 rfl rfl ?_
      refine tq_ia (pc := 120) F dX6_likeBySum_120 (v_5 (by omega)) rfl (fun _ => rfl) (by omega) ?_
      refine x_iadd (pc := 121) F dX6_likeBySum_121 ?_
      refine tq_reti (pc := 122) F dX6_likeBySum_122 ?_ rfl rfl rfl
      exact ⟨by unfold lbM lbS; (repeat' split) <;> omega, rfl⟩
    · refine x_iload_n (i := 3) (pc := 110) F dX6_likeBySum_110 rfl rfl ?_
      refine x_goto (tgt := 115) (pc := 111) F dX6_likeBySum_111 rfl ?_
      refine x_aload_n (i := 1) (pc := 115) F dX6_likeBySum_115 rfl rfl ?_
      refine gf_X6_94 (pc := 116) F dX6_likeBySum_116 (v_4 (by omega)) ?_
      refine x_iload_n (i := 2) (pc := 119) F dX6_likeBySum_119 rfl rfl ?_
      refine tq_ia (pc := 120) F dX6_likeBySum_120 (v_5 (by omega)) rfl (fun _ => rfl) (by omega) ?_
      refine x_iadd (pc := 121) F dX6_likeBySum_121 ?_
      refine tq_reti (pc := 122) F dX6_likeBySum_122 ?_ rfl rfl rfl
      exact ⟨by unfold lbM lbS; (repeat' split) <;> omega, rfl⟩
  · refine x_iload_n (i := 3) (pc := 123) F dX6_likeBySum_123 rfl rfl ?_
    refine tq_reti (pc := 124) F dX6_likeBySum_124 ?_ rfl rfl rfl
    exact ⟨by unfold lbM lbS; (repeat' split) <;> omega, rfl⟩
theorem lbM_rg (hT : TownOK μ nh t) (hC : ComerOK μ tc p) (hg : 0 ≤ g ∧ g < 4) {a : Int} (h : -20000 ≤ a ∧ a ≤ 20000) : -30000 ≤ lbM μ t tc p g a ∧ lbM μ t tc p g a ≤ 30000 := by
  obtain ⟨t1, t2, t3, t4, t5⟩ := hT
  obtain ⟨q0, q1, q2, q3, q4, q5, q6, q7, q8⟩ := hC
  exact lbS_rg h q3 q6 (q8 g hg.1 hg.2) t3
theorem bnM_rg (hT : TownOK μ nh t) : -9900 ≤ bnM μ t tc p g ∧ bnM μ t tc p g ≤ 9900 := bonH_rg hT.2.2.2.2 _
set_option maxRecDepth 20000 in
theorem c_X6_likeToWalk (w : Int) (hT : TownOK μ nh t) (hC : ComerOK μ tc p) (hg : 0 ≤ g ∧ g < 4) (hw : 0 ≤ w ∧ w < 4096) (l : Launch) (E : Ev) (A : Nat → Prop) : Con l E 3 m_X6_likeToWalk A (VC nh) ad μ [.ref (ad (1, t, 0)), .ref (ad (4, tc, p)), .int (I g), .int (I w)] (pi fun z μ' => z = lbM μ t tc p g (alk (μ (4, tc, p) 3) w + bnM μ t tc p g) ∧ μ = μ') := by
  have hbn := bnM_rg (tc := tc) (p := p) (g := g) hT
  have hak := alk_rg (μ (4, tc, p) 3) w
  obtain ⟨t1, t2, t3, t4, t5⟩ := id hT
  obtain ⟨q0, q1, q2, q3, q4, q5, q6, q7, q8⟩ := id hC
  refine con (own := RX6) (by decide +kernel) rfl rfl rfl (fun Γ F => ?_)
  refine x_aload_n (i := 0) (pc := 0) F dX6_likeToWalk_0 rfl rfl ?_
  refine x_aload_n (i := 1) (pc := 1) F dX6_likeToWalk_1 rfl rfl ?_
  refine x_iload_n (i := 2) (pc := 2) F dX6_likeToWalk_2 rfl rfl ?_
  refine x_aload_n (i := 1) (pc := 3) F dX6_likeToWalk_3 rfl rfl ?_
  refine gf_X6_61 (pc := 4) F dX6_likeToWalk_4 (v_4 (by omega)) ?_
  refine x_iload_n (i := 3) (pc := 7) F dX6_likeToWalk_7 rfl rfl ?_
  refine x_N2i (pc := 8) F dX6_likeToWalk_8 lk_X6_64 rfl (c_X7_alike _ _ (by omega)) rfl rfl rfl ?_
  rintro _ _ ⟨rfl, rfl⟩
  refine x_aload_n (i := 0) (pc := 11) F dX6_likeToWalk_11 rfl rfl ?_
  refine gf_X6_38 (pc := 12) F dX6_likeToWalk_12 (v_1 (by omega)) ?_
  rw [hvl_r (by omega)]
  refine x_aload_n (i := 1) (pc := 15) F dX6_likeToWalk_15 rfl rfl ?_
  refine x_iload_n (i := 2) (pc := 16) F dX6_likeToWalk_16 rfl rfl ?_
  refine x_aload_n (i := 0) (pc := 17) F dX6_likeToWalk_17 rfl rfl ?_
  refine gf_X6_58 (pc := 18) F dX6_likeToWalk_18 (v_1 (by omega)) ?_
  refine x_V3i (ci := 2) (pc := 21) F dX6_likeToWalk_21 lk_X6_68 rfl (v_12 (by omega)) rfl rfl (c_X2_bonus _ _ (by omega) t5 (by omega) (by omega) (by omega)) rfl rfl rfl ?_
  rintro _ _ ⟨rfl, rfl⟩
  rw [show bonH μ (μ (1, t, 0) 7) (valS (μ (4, tc, p) 0) (μ (4, tc, p) 1) (μ (4, tc, p) 2) g (μ (4, tc, p) 5) (μ (1, t, 0) 6)) = bnM μ t tc p g from rfl]
  refine x_iadd (pc := 24) F dX6_likeToWalk_24 ?_
  refine x_V3i (ci := 6) (pc := 25) F dX6_likeToWalk_25 lk_X6_74 rfl (v_1 (by omega)) rfl rfl (c_X6_likeBySum _ hT hC (by omega) (by omega)) rfl rfl rfl ?_
  rintro _ _ ⟨rfl, rfl⟩
  refine tq_reti (pc := 28) F dX6_likeToWalk_28 ?_ rfl rfl rfl
  exact ⟨rfl, rfl⟩
set_option maxRecDepth 20000 in
theorem c_X6_marksNeeded (hT : TownOK μ nh t) (hC : ComerOK μ tc p) (hg : 0 ≤ g ∧ g < 4) (l : Launch) (E : Ev) (A : Nat → Prop) : Con l E 3 m_X6_marksNeeded A (VC nh) ad μ [.ref (ad (1, t, 0)), .ref (ad (4, tc, p)), .int (I g)] (pi fun z μ' => mnP μ t tc p g z ∧ μ = μ') := by
  have hbn := bnM_rg (tc := tc) (p := p) (g := g) hT
  obtain ⟨t1, t2, t3, t4, t5⟩ := id hT
  obtain ⟨q0, q1, q2, q3, q4, q5, q6, q7, q8⟩ := id hC
  have hnd : 0 ≤ μ (12, μ (1, t, 0) 7, 0) 3 ∧ μ (12, μ (1, t, 0) 7, 0) 3 ≤ 99 := ⟨t5.2.2.2.2.1, t5.2.2.2.2.2.1⟩
  refine con (own := RX6) (by decide +kernel) rfl rfl rfl (fun Γ F => ?_)
  have loop : ∀ (N : Nat) (m : Int), 13 - m < N → 0 ≤ m → m ≤ 13 → (∀ i, 0 ≤ i → i < m → ¬ ndM μ t ≤ lbM μ t tc p g (i + bnM μ t tc p g)) → XX Γ 5 (VC nh) ad (vl ad μ) 0 0 17 [(0, .ref (ad (1, t, 0))), (1, .ref (ad (4, tc, p))), (2, .int (I g)), (3, .int (I (bnM μ t tc p g))), (4, .int (I m))] [] := by
    intro N
    induction N with
    | zero => intro m a1 a2 a3; omega
    | succ N ih =>
      intro m a1 a2 a3 a4
      have hlr := lbM_rg hT hC hg (a := m + bnM μ t tc p g) (by omega)
      refine x_iload (i := 4) (pc := 17) F dX6_marksNeeded_17 rfl ?_
      refine x_bipush (pc := 19) F dX6_marksNeeded_19 (by decide) ?_
      refine x_icmp_gt (tgt := 53) (pc := 21) F dX6_marksNeeded_21 rfl (by omega) (fun h21 => ?_) (fun h21 => ?_)
      · refine x_bipush (pc := 53) F dX6_marksNeeded_53 (by decide) ?_
        refine tq_reti (pc := 55) F dX6_marksNeeded_55 ?_ rfl rfl rfl
        refine ⟨⟨by omega, by omega, fun i i1 i2 => ⟨fun hh => ?_, fun hh => ?_⟩⟩, rfl⟩
        · omega
        · exact absurd hh (a4 i i1 (by omega))
      · refine x_aload_n (i := 0) (pc := 24) F dX6_marksNeeded_24 rfl rfl ?_
        refine x_aload_n (i := 1) (pc := 25) F dX6_marksNeeded_25 rfl rfl ?_
        refine x_iload_n (i := 2) (pc := 26) F dX6_marksNeeded_26 rfl rfl ?_
        refine x_iload (i := 4) (pc := 27) F dX6_marksNeeded_27 rfl ?_
        refine x_iload_n (i := 3) (pc := 29) F dX6_marksNeeded_29 rfl rfl ?_
        refine x_iadd (pc := 30) F dX6_marksNeeded_30 ?_
        refine x_V3i (ci := 6) (pc := 31) F dX6_marksNeeded_31 lk_X6_74 rfl (v_1 (by omega)) rfl rfl (c_X6_likeBySum _ hT hC (by omega) (by omega)) rfl rfl rfl ?_
        rintro _ _ ⟨rfl, rfl⟩
        refine x_aload_n (i := 0) (pc := 34) F dX6_marksNeeded_34 rfl rfl ?_
        refine gf_X6_38 (pc := 35) F dX6_marksNeeded_35 (v_1 (by omega)) ?_
        rw [hvl_r (by omega)]
        refine gf_X6_98 (pc := 38) F dX6_marksNeeded_38 (v_12 (by omega)) ?_
        refine x_icmp_lt (tgt := 47) (pc := 41) F dX6_marksNeeded_41 rfl (by omega) (fun h41 => ?_) (fun h41 => ?_)
        · refine x_iinc (pc := 47) F dX6_marksNeeded_47 rfl rfl ?_
          refine x_goto (tgt := 17) (pc := 50) F dX6_marksNeeded_50 rfl ?_
          refine x_sub (L' := [(0, .ref (ad (1, t, 0))), (1, .ref (ad (4, tc, p))), (2, .int (I g)), (3, .int (I (bnM μ t tc p g))), (4, .int (I (m + 1)))]) ⟨rfl, rfl, rfl, rfl, rfl, trivial⟩ (ih (m + 1) (by omega) (by omega) (by omega) (fun i i1 i2 => ?_))
          by_cases e : i = m
          · subst e; unfold ndM; omega
          · exact a4 i i1 (by omega)
        · refine x_iload (i := 4) (pc := 44) F dX6_marksNeeded_44 rfl ?_
          refine tq_reti (pc := 46) F dX6_marksNeeded_46 ?_ rfl rfl rfl
          refine ⟨⟨by omega, by omega, fun i i1 i2 => ⟨fun hh => ?_, fun hh => ?_⟩⟩, rfl⟩
          · have := lbS_mono (k := μ (4, tc, p) 1) (v := μ (4, tc, p) 2) (gt := μ (4, tc, p) 4) (tr := μ (4, tc, p) 5) (rw := μ (5, tc, p) g) (day := μ (1, t, 0) 6) (g := g) (show m + bnM μ t tc p g ≤ i + bnM μ t tc p g by omega)
            unfold ndM lbM at *; omega
          · by_cases e : m ≤ i
            · exact e
            · exact absurd hh (a4 i i1 (by omega))
  refine x_aload_n (i := 0) (pc := 0) F dX6_marksNeeded_0 rfl rfl ?_
  refine gf_X6_38 (pc := 1) F dX6_marksNeeded_1 (v_1 (by omega)) ?_
  rw [hvl_r (by omega)]
  refine x_aload_n (i := 1) (pc := 4) F dX6_marksNeeded_4 rfl rfl ?_
  refine x_iload_n (i := 2) (pc := 5) F dX6_marksNeeded_5 rfl rfl ?_
  refine x_aload_n (i := 0) (pc := 6) F dX6_marksNeeded_6 rfl rfl ?_
  refine gf_X6_58 (pc := 7) F dX6_marksNeeded_7 (v_1 (by omega)) ?_
  refine x_V3i (ci := 2) (pc := 10) F dX6_marksNeeded_10 lk_X6_68 rfl (v_12 (by omega)) rfl rfl (c_X2_bonus _ _ (by omega) t5 (by omega) (by omega) (by omega)) rfl rfl rfl ?_
  rintro _ _ ⟨rfl, rfl⟩
  refine x_istore_n (i := 3) (pc := 13) F dX6_marksNeeded_13 rfl rfl ?_
  refine x_iconst (pc := 14) F dX6_marksNeeded_14 ?_
  refine x_istore (i := 4) (pc := 15) F dX6_marksNeeded_15 rfl ?_
  exact x_sub (L' := [(0, .ref (ad (1, t, 0))), (1, .ref (ad (4, tc, p))), (2, .int (I g)), (3, .int (I (bnM μ t tc p g))), (4, .int (I 0))]) ⟨rfl, rfl, rfl, rfl, rfl, trivial⟩ (loop 14 0 (by omega) (by omega) (by omega) (fun i i1 i2 => by omega))
set_option maxRecDepth 20000 in
theorem c_X6_letsBy (hT : TownOK μ nh t) (hC : ComerOK μ tc p) (hg : 0 ≤ g ∧ g < 4) (hG : GateOK μ t g) (l : Launch) (E : Ev) (A : Nat → Prop) : Con l E 4 m_X6_letsBy A (VC nh) ad μ [.ref (ad (1, t, 0)), .ref (ad (4, tc, p)), .int (I g)] (pz fun z μ' => (z = true ↔ letM μ t tc p g) ∧ μ = μ') := by
  obtain ⟨t1, t2, t3, t4, t5⟩ := id hT
  obtain ⟨q0, q1, q2, q3, q4, q5, q6, q7, q8⟩ := id hC
  refine con (own := RX6) (by decide +kernel) rfl rfl rfl (fun Γ F => ?_)
  refine x_aload_n (i := 0) (pc := 0) F dX6_letsBy_0 rfl rfl ?_
  refine gf_X6_11 (pc := 1) F dX6_letsBy_1 (v_1 (by omega)) ?_
  refine x_iload_n (i := 2) (pc := 4) F dX6_letsBy_4 rfl rfl ?_
  refine tq_ga (pc := 5) F dX6_letsBy_5 (v_10 (by omega)) (by omega) ?_
  refine x_aload_n (i := 1) (pc := 6) F dX6_letsBy_6 rfl rfl ?_
  refine gf_X6_61 (pc := 7) F dX6_letsBy_7 (v_4 (by omega)) ?_
  refine x_aload_n (i := 0) (pc := 10) F dX6_letsBy_10 rfl rfl ?_
  refine x_aload_n (i := 1) (pc := 11) F dX6_letsBy_11 rfl rfl ?_
  refine x_iload_n (i := 2) (pc := 12) F dX6_letsBy_12 rfl rfl ?_
  refine x_V2i (ci := 6) (pc := 13) F dX6_letsBy_13 lk_X6_101 rfl (v_1 (by omega)) rfl rfl (c_X6_marksNeeded hT hC (by omega)) rfl rfl rfl ?_
  rintro z _ ⟨hmn, rfl⟩
  refine x_V2z (ci := 1) (pc := 16) F dX6_letsBy_16 lk_X6_105 rfl (v_2 (by omega)) rfl rfl (c_X1_knowsAlike _ z (by omega) hG.1 hG.2 (by omega) ⟨hmn.1, hmn.2.1⟩) rfl rfl rfl ?_
  rintro b _ ⟨hb, rfl⟩
  refine tq_retz (pc := 19) F dX6_letsBy_19 ?_ rfl rfl rfl
  refine ⟨?_, rfl⟩
  rw [hb]
  refine exists_congr fun k => and_congr_right fun k1 => and_congr_right fun k2 => ?_
  exact hmn.2.2 _ (alk_rg _ _).1 (alk_rg _ _).2
end TOWN
