/-! ===== goByPlan ===== -/
section GOPLAN
variable {ad : Ob → Nat} {μ : Me} {nh t : Int} {T : Tn} {S : Hs}
theorem TR_forget {g : Int} (h : TR μ t T) (hg : 0 ≤ g ∧ g < 4) : TR (upM μ (2, t, g) 1 0) t (fun k => if k = 4 * g then 0 else T k) := by
  have eo : ∀ k, k ≠ 4 * g → (fun k => if k = 4 * g then (0 : Int) else T k) k = T k := fun k hk => if_neg hk
  refine ⟨fun g' a b => ?_, fun p a b => CR_eq (CR_fr (h.2.1 p a b) (upM_ne (by simp)) (upM_ne (by simp))) (fun k x y => eo k (by omega)), ?_, RR_eq (RR_fr h.2.2.2 (fun o ho hot => upM_ne (by rintro rfl; simp at ho))) (fun k x => eo k (by omega))⟩
  · by_cases hgg : g' = g
    · subst hgg
      obtain ⟨g0, g1⟩ := h.1 g' a b
      refine ⟨?_, fun k x y => ?_⟩
      · rw [upM_i, if_pos rfl]; exact (if_pos rfl).symm
      · rw [upM_ne (by simp), eo _ (by omega)]; exact g1 k x y
    · exact GR_eq (GR_fr (h.1 g' a b) (upM_ne (by simp; omega)) (upM_ne (by simp))) (fun k x y => eo k (by omega))
  · unfold SR
    rw [upM_ne (by simp), eo _ (by omega), eo _ (by omega), eo _ (by omega)]
    exact h.2.2.1
theorem TR_tries {p z : Int} (h : TR μ t T) (hp : 0 ≤ p ∧ p < 6) : TR (upM μ (4, t, p) 5 z) t (fun k => if k = 20 + 10 * p then z else T k) := by
  have eo : ∀ k, k ≠ 20 + 10 * p → (fun k => if k = 20 + 10 * p then z else T k) k = T k := fun k hk => if_neg hk
  refine ⟨fun g' a b => GR_eq (GR_fr (h.1 g' a b) (upM_ne (by simp)) (upM_ne (by simp))) (fun k x y => eo k (by omega)), fun q a b => ?_, ?_, RR_eq (RR_fr h.2.2.2 (fun o ho hot => upM_ne (by rintro rfl; simp at ho))) (fun k x => eo k (by omega))⟩
  · by_cases hpp : q = p
    · subst hpp
      obtain ⟨c0, c1, c2, c3, c4, c5, c6, c7⟩ := h.2.1 q a b
      refine ⟨?_, ?_, ?_, ?_, ?_, ?_, ?_, fun k x y => ?_⟩
      · rw [upM_i, if_neg (by decide)]; exact c0
      · rw [upM_i, if_neg (by decide), eo _ (by omega)]; exact c1
      · rw [upM_i, if_neg (by decide), eo _ (by omega)]; exact c2
      · rw [upM_i, if_neg (by decide), eo _ (by omega)]; exact c3
      · rw [upM_i, if_neg (by decide), eo _ (by omega)]; exact c4
      · rw [upM_i, if_pos rfl]; exact (if_pos rfl).symm
      · rw [upM_i, if_neg (by decide), eo _ (by omega)]; exact c6
      · rw [upM_ne (by simp), eo _ (by omega)]; exact c7 k x y
    · exact CR_eq (CR_fr (h.2.1 q a b) (upM_ne (by simp; omega)) (upM_ne (by simp))) (fun k x y => eo k (by omega))
  · unfold SR
    rw [upM_ne (by simp), eo _ (by omega), eo _ (by omega), eo _ (by omega)]
    exact h.2.2.1
set_option maxRecDepth 20000 in
theorem c_X6_goByPlan (hR0 : TR μ t T) (hI : TI T) (hH : HRel μ nh (T 78) S) (ht : 0 ≤ t ∧ t < 3) (hd : T 77 ≤ 15000) (l : Launch) (E : Ev) (A : Nat → Prop) : Con l E 7 m_X6_goByPlan A (VC nh) ad μ [.ref (ad (1, t, 0))] (pv fun μ' => TR μ' t (goT S T (T 95).toNat) ∧ ∀ o, ¬ (1 ≤ o.1 ∧ o.1 ≤ 9 ∧ o.2.1 = t) → μ' o = μ o) := by
  have hS0 : 0 ≤ S.2.2 := by
    have h1 := hH.2.1.2.2.2.2.2.2.1
    rw [hH.2.2.2.2] at h1
    exact h1
  have h95 := hI.2.2.2.2.2.2.2.1
  have hplan := hI.2.2.2.2.2.2.2.2.1
  refine con (own := RX6) (by decide +kernel) rfl rfl rfl (fun Γ F => ?_)
  have loop : ∀ (N : Nat) (n : Nat) (μ1 : Me), T 95 - n < N → n ≤ T 95 → TR μ1 t (goT S T n) → (∀ o, ¬ (1 ≤ o.1 ∧ o.1 ≤ 9 ∧ o.2.1 = t) → μ1 o = μ o) → XX Γ 3 (VC nh) ad (vl ad μ1) 0 0 2 [(0, .ref (ad (1, t, 0))), (1, .int (I n))] [] := by
    intro N
    induction N with
    | zero => intro n μ1 a1 a2; omega
    | succ N ih =>
      intro n μ1 a1 a2 a3 a4
      obtain ⟨gI, go, g77, g77'⟩ := goT_ok hI hS0 n a2
      have hH1 : HRel μ1 nh (goT S T n 78) S := by rw [go 78 (by omega)]; exact hH.fr (fun o ho => a4 o (by rcases ho with h | h | h <;> omega))
      have hm : μ1 (6, t, 1) 3 = T 95 := by rw [a3.2.2.2.2.1.1, go 95 (by omega)]
      have hn7 : n < T 95 → μ1 (7, t, 1) n = T (96 + 2 * n) ∧ μ1 (8, t, 1) n = T (97 + 2 * n) := fun hh => by
        have := a3.2.2.2.2.1.2 n (by omega) (by omega)
        rw [go _ (by omega), go _ (by omega)] at this
        exact this
      have hpl := hplan n (by omega)
      have h76 : goT S T n 76 = T 76 := go 76 (by omega)
      have hnx : goT S T (n + 1) = plS S (goT S T n) (T (96 + 2 * (n : Int))) (T (97 + 2 * (n : Int))) := rfl
      have h6 := gI.2.2.1
      have hrs : rsz 1 = 10 := by simp [rsz]
      have fin : ∀ μ2 : Me, (T 95 > n) → TR μ2 t (plS S (goT S T n) (T (96 + 2 * (n : Int))) (T (97 + 2 * (n : Int)))) → (∀ o, ¬ (1 ≤ o.1 ∧ o.1 ≤ 9 ∧ o.2.1 = t) → μ2 o = μ1 o) → XX Γ 3 (VC nh) ad (vl ad μ2) 0 0 119 [(0, .ref (ad (1, t, 0))), (1, .int (I n))] [] := by
        intro μ2 b1 b2 b3
        refine x_iinc (pc := 119) F dX6_goByPlan_119 rfl rfl ?_
        refine x_goto (tgt := 2) (pc := 122) F dX6_goByPlan_122 rfl ?_
        exact x_sub (L' := [(0, .ref (ad (1, t, 0))), (1, .int (I ((n + 1 : Nat) : Int)))]) ⟨rfl, rfl, trivial⟩ (ih (n + 1) μ2 (by omega) (by omega) (by rw [hnx]; exact b2) (fun o ho => by rw [b3 o ho, a4 o ho]))
      refine x_iload_n (i := 1) (pc := 2) F dX6_goByPlan_2 rfl rfl ?_
      refine x_aload_n (i := 0) (pc := 3) F dX6_goByPlan_3 rfl rfl ?_
      refine gf_X6_32 (pc := 4) F dX6_goByPlan_4 (v_1 (by omega)) ?_
      refine gf_X6_125 (pc := 7) F dX6_goByPlan_7 (v_6 (by omega)) ?_
      refine x_icmp_ge (tgt := 125) (pc := 10) F dX6_goByPlan_10 rfl (by omega) (fun h10 => ?_) (fun h10 => ?_)
      · refine tq_retv (pc := 125) F dX6_goByPlan_125 ?_ rfl rfl rfl
        exact ⟨by rw [show (T 95).toNat = n by omega]; exact a3, a4⟩
      · obtain ⟨hn7, hn8⟩ := hn7 (by omega)
        have hpl := hpl (by omega)
        unfold PI1 at hpl
        refine x_aload_n (i := 0) (pc := 13) F dX6_goByPlan_13 rfl rfl ?_
        refine gf_X6_32 (pc := 14) F dX6_goByPlan_14 (v_1 (by omega)) ?_
        refine gf_X6_126 (pc := 17) F dX6_goByPlan_17 (v_6 (by omega)) ?_
        refine x_iload_n (i := 1) (pc := 20) F dX6_goByPlan_20 rfl rfl ?_
        refine tq_ia (pc := 21) F dX6_goByPlan_21 (v_8 (by omega)) sh_8 (fun _ => rfl) (by omega) ?_
        rw [hn8]
        refine x_istore_n (i := 2) (pc := 22) F dX6_goByPlan_22 rfl rfl ?_
        refine x_aload_n (i := 0) (pc := 23) F dX6_goByPlan_23 rfl rfl ?_
        refine gf_X6_32 (pc := 24) F dX6_goByPlan_24 (v_1 (by omega)) ?_
        refine gf_X6_129 (pc := 27) F dX6_goByPlan_27 (v_6 (by omega)) ?_
        refine x_iload_n (i := 1) (pc := 30) F dX6_goByPlan_30 rfl rfl ?_
        refine tq_ia (pc := 31) F dX6_goByPlan_31 (v_7 (by omega)) sh_7 (fun _ => rfl) (by omega) ?_
        rw [hn7]
        refine x_tab (ts := [60, 68, 96]) (dt := 109) (pc := 32) F dX6_goByPlan_32 rfl rfl (by omega) ⟨fun h32 => ?_, fun h32 => ?_, fun h32 => ?_, trivial⟩ (fun h32 => ?_)
        · refine x_aload_n (i := 0) (pc := 60) F dX6_goByPlan_60 rfl rfl ?_
          refine x_iconst (pc := 61) F dX6_goByPlan_61 ?_
          refine x_V1v (ci := 6) (pc := 62) F dX6_goByPlan_62 lk_X6_132 rfl (v_1 (by omega)) rfl rfl (c_X6_goDays 1 (by omega) a3 gI hH1 ht (by omega)) rfl rfl rfl ?_
          rintro μ2 ⟨e1, e2⟩
          refine x_goto (tgt := 119) (pc := 65) F dX6_goByPlan_65 rfl ?_
          refine x_sub (L' := [(0, .ref (ad (1, t, 0))), (1, .int (I n))]) ⟨rfl, rfl, trivial⟩ (fin _ (by omega) ?_ ?_)
          · unfold plS
            first | (rw [if_pos (by omega)]; exact e1) | (rw [if_neg (by omega), if_pos (by omega)]; exact TR_tau a3 (by omega) e1 e2 e3) | (rw [if_neg (by omega), if_neg (by omega), if_pos (by omega)]; exact TR_forget a3 (by omega)) | (rw [if_neg (by omega), if_neg (by omega), if_neg (by omega)]; exact TR_tries a3 (by omega))
          · first | (exact fun o ho => e2 o (by rintro rfl; exact ho ⟨by simp, by simp, rfl⟩) (fun p => by rintro rfl; exact ho ⟨by simp, by simp, rfl⟩)) | (exact fun o ho => e3 o (by rintro rfl; exact ho ⟨by simp, by simp, rfl⟩) (by rintro rfl; exact ho ⟨by simp, by simp, rfl⟩)) | (exact fun o ho => upM_ne (by rintro rfl; exact ho ⟨by simp, by simp, rfl⟩))
        · have hgk := a3.gate gI (g := T (97 + 2 * n) / 10) (by omega)
          have hcI := (gI.2.1 (T (97 + 2 * n) % 10) (by omega) (by omega)).2.2.1
          have hcw : μ1 (4, t, T (97 + 2 * n) % 10) 3 = goT S T n (18 + 10 * (T (97 + 2 * n) % 10)) := (a3.2.1 _ (by omega) (by omega)).2.2.2.1
          refine x_aload_n (i := 0) (pc := 68) F dX6_goByPlan_68 rfl rfl ?_
          refine gf_X6_11 (pc := 69) F dX6_goByPlan_69 (v_1 (by omega)) ?_
          refine x_iload_n (i := 2) (pc := 72) F dX6_goByPlan_72 rfl rfl ?_
          refine x_bipush (pc := 73) F dX6_goByPlan_73 (by decide) ?_
          refine tq_idiv (pc := 75) F dX6_goByPlan_75 (by omega) ?_
          refine tq_ga (pc := 76) F dX6_goByPlan_76 (v_10 (by omega)) (by omega) ?_
          refine x_aload_n (i := 0) (pc := 77) F dX6_goByPlan_77 rfl rfl ?_
          refine gf_X6_19 (pc := 78) F dX6_goByPlan_78 (v_1 (by omega)) ?_
          refine x_iload_n (i := 2) (pc := 81) F dX6_goByPlan_81 rfl rfl ?_
          refine x_bipush (pc := 82) F dX6_goByPlan_82 (by decide) ?_
          refine tq_irem (pc := 84) F dX6_goByPlan_84 (by omega) ?_
          refine tq_pa (pc := 85) F dX6_goByPlan_85 (v_11 (by omega)) (by omega) ?_
          refine gf_X6_61 (pc := 86) F dX6_goByPlan_86 (v_4 (by omega)) ?_
          rw [hcw]
          refine x_V1i (ci := 1) (pc := 89) F dX6_goByPlan_89 lk_X6_135 rfl (v_2 (by omega)) rfl rfl (c_X1_learn _ (by omega) hgk.1 hgk.2 (by omega)) rfl rfl rfl ?_
          rintro z μ2 ⟨-, e1, e2, e3⟩
          refine x_pop (pc := 92) F dX6_goByPlan_92 rfl ?_
          refine x_goto (tgt := 119) (pc := 93) F dX6_goByPlan_93 rfl ?_
          refine x_sub (L' := [(0, .ref (ad (1, t, 0))), (1, .int (I n))]) ⟨rfl, rfl, trivial⟩ (fin _ (by omega) ?_ ?_)
          · unfold plS
            first | (rw [if_pos (by omega)]; exact e1) | (rw [if_neg (by omega), if_pos (by omega)]; exact TR_tau a3 (by omega) e1 e2 e3) | (rw [if_neg (by omega), if_neg (by omega), if_pos (by omega)]; exact TR_forget a3 (by omega)) | (rw [if_neg (by omega), if_neg (by omega), if_neg (by omega)]; exact TR_tries a3 (by omega))
          · first | (exact fun o ho => e2 o (by rintro rfl; exact ho ⟨by simp, by simp, rfl⟩) (fun p => by rintro rfl; exact ho ⟨by simp, by simp, rfl⟩)) | (exact fun o ho => e3 o (by rintro rfl; exact ho ⟨by simp, by simp, rfl⟩) (by rintro rfl; exact ho ⟨by simp, by simp, rfl⟩)) | (exact fun o ho => upM_ne (by rintro rfl; exact ho ⟨by simp, by simp, rfl⟩))
        · refine x_aload_n (i := 0) (pc := 96) F dX6_goByPlan_96 rfl rfl ?_
          refine gf_X6_11 (pc := 97) F dX6_goByPlan_97 (v_1 (by omega)) ?_
          refine x_iload_n (i := 2) (pc := 100) F dX6_goByPlan_100 rfl rfl ?_
          refine tq_ga (pc := 101) F dX6_goByPlan_101 (v_10 (by omega)) (by omega) ?_
          refine x_iconst (pc := 102) F dX6_goByPlan_102 ?_
          refine pf_X6_139 (pc := 103) F dX6_goByPlan_103 (v_2 (by omega)) ?_
          refine x_goto (tgt := 119) (pc := 106) F dX6_goByPlan_106 rfl ?_
          refine x_sub (L' := [(0, .ref (ad (1, t, 0))), (1, .int (I n))]) ⟨rfl, rfl, trivial⟩ (fin _ (by omega) ?_ ?_)
          · unfold plS
            first | (rw [if_pos (by omega)]; exact e1) | (rw [if_neg (by omega), if_pos (by omega)]; exact TR_tau a3 (by omega) e1 e2 e3) | (rw [if_neg (by omega), if_neg (by omega), if_pos (by omega)]; exact TR_forget a3 (by omega)) | (rw [if_neg (by omega), if_neg (by omega), if_neg (by omega)]; exact TR_tries a3 (by omega))
          · first | (exact fun o ho => e2 o (by rintro rfl; exact ho ⟨by simp, by simp, rfl⟩) (fun p => by rintro rfl; exact ho ⟨by simp, by simp, rfl⟩)) | (exact fun o ho => e3 o (by rintro rfl; exact ho ⟨by simp, by simp, rfl⟩) (by rintro rfl; exact ho ⟨by simp, by simp, rfl⟩)) | (exact fun o ho => upM_ne (by rintro rfl; exact ho ⟨by simp, by simp, rfl⟩))
        · refine x_aload_n (i := 0) (pc := 109) F dX6_goByPlan_109 rfl rfl ?_
          refine gf_X6_19 (pc := 110) F dX6_goByPlan_110 (v_1 (by omega)) ?_
          refine x_iload_n (i := 2) (pc := 113) F dX6_goByPlan_113 rfl rfl ?_
          refine tq_pa (pc := 114) F dX6_goByPlan_114 (v_11 (by omega)) (by omega) ?_
          refine x_iconst (pc := 115) F dX6_goByPlan_115 ?_
          refine pf_X6_91 (pc := 116) F dX6_goByPlan_116 (v_4 (by omega)) ?_
          refine x_sub (L' := [(0, .ref (ad (1, t, 0))), (1, .int (I n))]) ⟨rfl, rfl, trivial⟩ (fin _ (by omega) ?_ ?_)
          · unfold plS
            first | (rw [if_pos (by omega)]; exact e1) | (rw [if_neg (by omega), if_pos (by omega)]; exact TR_tau a3 (by omega) e1 e2 e3) | (rw [if_neg (by omega), if_neg (by omega), if_pos (by omega)]; exact TR_forget a3 (by omega)) | (rw [if_neg (by omega), if_neg (by omega), if_neg (by omega)]; exact TR_tries a3 (by omega))
          · first | (exact fun o ho => e2 o (by rintro rfl; exact ho ⟨by simp, by simp, rfl⟩) (fun p => by rintro rfl; exact ho ⟨by simp, by simp, rfl⟩)) | (exact fun o ho => e3 o (by rintro rfl; exact ho ⟨by simp, by simp, rfl⟩) (by rintro rfl; exact ho ⟨by simp, by simp, rfl⟩)) | (exact fun o ho => upM_ne (by rintro rfl; exact ho ⟨by simp, by simp, rfl⟩))
  refine x_iconst (pc := 0) F dX6_goByPlan_0 ?_
  refine x_istore_n (i := 1) (pc := 1) F dX6_goByPlan_1 rfl rfl ?_
  exact x_sub (L' := [(0, .ref (ad (1, t, 0))), (1, .int (I ((0 : Nat) : Int)))]) ⟨rfl, rfl, trivial⟩ (loop 11 0 μ (by omega) (by omega) hR0 (fun o _ => rfl))
end GOPLAN
