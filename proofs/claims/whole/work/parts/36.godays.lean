/-! ===== goDays, become, goByPlan ===== -/
section FINE
variable {μ : Me} {nh t p g : Int} {T : Tn} {S : Hs}
theorem comer_of (h : CR μ t T p) (hI : CI T p) (ht : 0 ≤ t ∧ t < 3) (hp : 0 ≤ p ∧ p < 6) (hd : T 77 ≤ 20000) : ComerOK μ t p := by
  obtain ⟨c0, c1, c2, c3, c4, c5, c6, c7⟩ := h
  obtain ⟨i1, i2, i3, i4, i5, i6, i7⟩ := hI
  refine ⟨by omega, by omega, by omega, by omega, by omega, by omega, by omega, by omega, fun k a b => ?_⟩
  rw [c7 k a b]
  exact i7 k a b
theorem gate_of (h : GR μ t T g) (hI : GI T g) : GateOK μ t g := by
  obtain ⟨c0, c1⟩ := h
  obtain ⟨i1, i2⟩ := hI
  refine ⟨by omega, fun k a b => ?_⟩
  rw [c1 k a b]
  exact i2 k a b
theorem let_of (hc : CR μ t T p) (hg : GR μ t T g) (hs : SR μ t T) (hH : HRel μ nh (T 78) S) (hI : GI T g) (hgg : 0 ≤ g ∧ g < 4) : letM μ t t p g ↔ LTg S T p g := by
  obtain ⟨c0, c1, c2, c3, c4, c5, c6, c7⟩ := hc
  obtain ⟨g0, g1⟩ := hg
  obtain ⟨i1, i2⟩ := hI
  obtain ⟨s1, s2, s3⟩ := hs
  unfold letM LTg
  rw [g0]
  refine exists_congr fun k => and_congr_right fun k1 => and_congr_right fun k2 => ?_
  unfold ndM lkT lbM lbT bnM vsT
  rw [s3, hH.2.2.2.1, hH.2.2.1, g1 k k1 (by omega), c0, c1, c2, c3, c4, c5, c7 g hgg.1 hgg.2, s2]
theorem CR_eq {T' : Tn} (h : CR μ t T p) (e : ∀ k, 16 + 10 * p ≤ k → k < 26 + 10 * p → T' k = T k) : CR μ t T' p := by
  obtain ⟨c0, c1, c2, c3, c4, c5, c6, c7⟩ := h
  refine ⟨c0, ?_, ?_, ?_, ?_, ?_, ?_, fun k a b => ?_⟩
  · rw [e _ (by omega) (by omega)]; exact c1
  · rw [e _ (by omega) (by omega)]; exact c2
  · rw [e _ (by omega) (by omega)]; exact c3
  · rw [e _ (by omega) (by omega)]; exact c4
  · rw [e _ (by omega) (by omega)]; exact c5
  · rw [e _ (by omega) (by omega)]; exact c6
  · rw [e _ (by omega) (by omega)]; exact c7 k a b
theorem CR_fr {μ' : Me} (h : CR μ t T p) (e1 : μ' (4, t, p) = μ (4, t, p)) (e2 : μ' (5, t, p) = μ (5, t, p)) : CR μ' t T p := by
  unfold CR
  rw [e1, e2]
  exact h
theorem GR_fr {μ' : Me} (h : GR μ t T g) (e1 : μ' (2, t, g) = μ (2, t, g)) (e2 : μ' (3, t, g) = μ (3, t, g)) : GR μ' t T g := by
  unfold GR
  rw [e1, e2]
  exact h
theorem GR_eq {T' : Tn} (h : GR μ t T g) (e : ∀ k, 4 * g ≤ k → k < 4 * g + 4 → T' k = T k) : GR μ t T' g := by
  obtain ⟨c0, c1⟩ := h
  refine ⟨?_, fun k a b => ?_⟩
  · rw [e _ (by omega) (by omega)]; exact c0
  · rw [e _ (by omega) (by omega)]; exact c1 k a b
theorem RR_eq {T' : Tn} (h : RR μ t T) (e : ∀ k, 79 ≤ k → T' k = T k) : RR μ t T' := by
  obtain ⟨⟨a1, a2⟩, ⟨b1, b2⟩, c1, c2⟩ := h
  refine ⟨⟨?_, fun k x y => ?_⟩, ⟨?_, fun k x y => ?_⟩, ?_, fun k x y => ?_⟩
  · rw [e _ (by omega)]; exact a1
  · rw [e _ (by omega), e _ (by omega), e _ (by omega)]; exact a2 k x y
  · rw [e _ (by omega)]; exact b1
  · rw [e _ (by omega), e _ (by omega)]; exact b2 k x y
  · rw [e _ (by omega)]; exact c1
  · rw [e _ (by omega), e _ (by omega)]; exact c2 k x y
theorem RR_fr {μ' : Me} (h : RR μ t T) (e : ∀ o, (o.1 = 6 ∨ o.1 = 7 ∨ o.1 = 8 ∨ o.1 = 9) → o.2.1 = t → μ' o = μ o) : RR μ' t T := by
  unfold RR
  rw [e (6, t, 0) (by simp) rfl, e (7, t, 0) (by simp) rfl, e (8, t, 0) (by simp) rfl, e (9, t, 0) (by simp) rfl, e (6, t, 1) (by simp) rfl, e (7, t, 1) (by simp) rfl, e (8, t, 1) (by simp) rfl, e (6, t, 2) (by simp) rfl, e (7, t, 2) (by simp) rfl, e (8, t, 2) (by simp) rfl]
  exact h
/-- a whole town stays where its cells stay -/
theorem TR_fr {μ' : Me} (h : TR μ t T) (e : ∀ o : Ob, 1 ≤ o.1 → o.1 ≤ 9 → o.2.1 = t → μ' o = μ o) : TR μ' t T := by
  refine ⟨fun g a b => GR_fr (h.1 g a b) (e _ (by simp) (by simp) rfl) (e _ (by simp) (by simp) rfl), fun p a b => CR_fr (h.2.1 p a b) (e _ (by simp) (by simp) rfl) (e _ (by simp) (by simp) rfl), ?_, RR_fr h.2.2.2 (fun o ho ht => e o (by omega) (by omega) ht)⟩
  unfold SR
  rw [e (1, t, 0) (by simp) (by simp) rfl]
  exact h.2.2.1
end FINE
section GODAYS
variable {ad : Ob → Nat} {μ : Me} {nh t : Int} {T : Tn} {S : Hs}
set_option maxRecDepth 20000 in
theorem c_X6_goDays (n : Int) (hn : 0 ≤ n ∧ n ≤ 60) (hR0 : TR μ t T) (hI : TI T) (hH : HRel μ nh (T 78) S) (ht : 0 ≤ t ∧ t < 3) (hd : T 77 + n ≤ 20000) (l : Launch) (E : Ev) (A : Nat → Prop) : Con l E 6 m_X6_goDays A (VC nh) ad μ [.ref (ad (1, t, 0)), .int (I n)] (pv fun μ' => TR μ' t (daysT S n.toNat T) ∧ ∀ o, o ≠ (1, t, 0) → (∀ p, o ≠ (4, t, p)) → μ' o = μ o) := by
  have hS0 : 0 ≤ S.2.2 := by
    have h1 := hH.2.1.2.2.2.2.2.2.1
    rw [hH.2.2.2.2] at h1
    exact h1
  refine con (own := RX6) (by decide +kernel) rfl rfl rfl (fun Γ F => ?_)
  have loop : ∀ (N : Nat) (k : Nat) (μk : Me), n - k < N → k ≤ n → TR μk t (daysT S k T) → (∀ o, o ≠ (1, t, 0) → (∀ p, o ≠ (4, t, p)) → μk o = μ o) → XX Γ 4 (VC nh) ad (vl ad μk) 0 0 2 [(0, .ref (ad (1, t, 0))), (1, .int (I n)), (2, .int (I k))] [] := by
    intro N
    induction N with
    | zero => intro k μk a1 a2; omega
    | succ N ih =>
      intro k μk a1 a2 a3 a4
      have hIk := daysT_TI hI hS0 k
      have h76 : daysT S k T 76 = T 76 := daysT_o hI hS0 (by decide) (by omega) k
      have h77 : daysT S k T 77 = T 77 + k := daysT_77 k
      have h78 : daysT S k T 78 = T 78 := daysT_o hI hS0 (by decide) (by omega) k
      have hnext : daysT S (k + 1) T = dayT S (daysT S k T) := rfl
      have hHk : HRel μk nh (T 78) S := hH.fr (fun o ho => a4 o (by rintro rfl; revert ho; simp [hs3]) (fun p => by rintro rfl; revert ho; simp [hs3]))
      have hm6 := hIk.2.2.1
      have hm77 := hIk.2.2.2.1
      generalize hTk0 : daysT S k T = Tk at *
      have hTk : TownOK μk nh t := a3.town hIk (by rw [h78]; exact hHk) ht (by omega)
      have inner : (k : Int) < n → ∀ (M : Nat) (i : Int) (μ1 : Me), Tk 76 - i < M → 0 ≤ i → i ≤ Tk 76 → (∀ p, 0 ≤ p → p < 6 → CR μ1 t (dayF S Tk i) p) → (∀ o, (∀ p, o ≠ (4, t, p)) → μ1 o = μk o) → XX Γ 4 (VC nh) ad (vl ad μ1) 0 0 9 [(0, .ref (ad (1, t, 0))), (1, .int (I n)), (2, .int (I k)), (3, .int (I i))] [] := by
        intro hkn M
        induction M with
        | zero => intro i μ1 b1 b2 b3; omega
        | succ M jh =>
          intro i μ1 b1 b2 b3 b4 b5
          have d1 : μ1 (1, t, 0) = μk (1, t, 0) := b5 _ (fun p => by simp)
          have d5 : μ1 (1, t, 0) 5 = Tk 76 := by rw [d1]; exact a3.2.2.1.1
          have d6 : μ1 (1, t, 0) 6 = Tk 77 := by rw [d1]; exact a3.2.2.1.2.1
          have hH1 : HRel μ1 nh (Tk 78) S := by rw [h78]; exact hHk.fr (fun o ho => b5 o (fun p => by rintro rfl; revert ho; simp [hs3]))
          have hs1 : SR μ1 t Tk := by unfold SR; rw [d1]; exact a3.2.2.1
          have hT1 : TownOK μ1 nh t := by
            refine ⟨ht, by omega, by omega, ?_, ?_⟩
            · rw [hs1.2.2]; exact hH1.1
            · rw [hs1.2.2]; exact hH1.2.1
          refine x_iload_n (i := 3) (pc := 9) F dX6_goDays_9 rfl rfl ?_
          refine x_aload_n (i := 0) (pc := 10) F dX6_goDays_10 rfl rfl ?_
          refine gf_X6_54 (pc := 11) F dX6_goDays_11 (v_1 (by omega)) ?_
          refine x_icmp_ge (tgt := 33) (pc := 14) F dX6_goDays_14 rfl (by omega) (fun h14 => ?_) (fun h14 => ?_)
          · refine x_aload_n (i := 0) (pc := 33) F dX6_goDays_33 rfl rfl ?_
            refine x_dup (pc := 34) F dX6_goDays_34 rfl ?_
            refine gf_X6_58 (pc := 35) F dX6_goDays_35 (v_1 (by omega)) ?_
            refine x_iconst (pc := 38) F dX6_goDays_38 ?_
            refine x_iadd (pc := 39) F dX6_goDays_39 ?_
            refine pf_X6_58 (pc := 40) F dX6_goDays_40 (v_1 (by omega)) ?_
            refine x_iinc (pc := 43) F dX6_goDays_43 rfl rfl ?_
            refine x_goto (tgt := 2) (pc := 46) F dX6_goDays_46 rfl ?_
            refine x_sub (L' := [(0, .ref (ad (1, t, 0))), (1, .int (I n)), (2, .int (I ((k + 1 : Nat) : Int)))]) ⟨rfl, rfl, rfl, trivial⟩ (ih (k + 1) _ (by omega) (by omega) ?_ (fun o ho1 ho2 => ?_))
            · rw [hnext]
              have hi : i = Tk 76 := by omega
              subst hi
              have ev : ∀ q, q ≠ 77 → dayT S Tk q = dayF S Tk (Tk 76) q := fun q hq => by unfold dayT; rw [if_neg hq]
              refine ⟨fun g x y => ?_, fun p x y => ?_, ⟨?_, ?_, ?_⟩, ?_⟩
              · refine GR_eq (GR_fr (a3.1 g x y) ?_ ?_) (fun q u v => dayT_o (by omega) (by omega) (by omega))
                · rw [upM_ne (by simp), b5 _ (fun p => by simp)]
                · rw [upM_ne (by simp), b5 _ (fun p => by simp)]
              · exact CR_eq (CR_fr (b4 p x y) (upM_ne (by simp)) (upM_ne (by simp))) (fun q u v => ev q (by omega))
              · rw [upM_i, if_neg (by decide), d5, dayT_o (by decide) (by omega) (by omega)]
              · rw [upM_i, if_pos rfl, dayT_77, d6]
              · rw [upM_i, if_neg (by decide), hs1.2.2, dayT_o (by decide) (by omega) (by omega)]
              · refine RR_eq (RR_fr a3.2.2.2 (fun o ho hot => ?_)) (fun q u => dayT_o (by omega) (by omega) (by omega))
                rw [upM_ne (by rintro rfl; simp at ho), b5 o (fun p => by rintro rfl; simp at ho)]
            · rw [upM_ne ho1, b5 o ho2, a4 o ho1 ho2]
          · have hci : CR μ1 t Tk i := CR_eq (b4 i b2 (by omega)) (fun q x y => (dayF_o (by omega)).symm)
            have hcI := hIk.2.1 i b2 (by omega)
            have hg4 : μ1 (4, t, i) 4 = Tk (19 + 10 * i) := hci.2.2.2.2.1
            have hgr : GR μ1 t Tk (Tk (19 + 10 * i)) := GR_fr (a3.1 _ hcI.2.2.2.1.1 (by have := hcI.2.2.2.1.2; omega)) (b5 _ (fun p => by simp)) (b5 _ (fun p => by simp))
            have hgI := hIk.1 _ hcI.2.2.2.1.1 (show Tk (19 + 10 * i) < 4 by have := hcI.2.2.2.1.2; omega)
            refine x_aload_n (i := 0) (pc := 17) F dX6_goDays_17 rfl rfl ?_
            refine x_aload_n (i := 0) (pc := 18) F dX6_goDays_18 rfl rfl ?_
            refine gf_X6_19 (pc := 19) F dX6_goDays_19 (v_1 (by omega)) ?_
            refine x_iload_n (i := 3) (pc := 22) F dX6_goDays_22 rfl rfl ?_
            refine tq_pa (pc := 23) F dX6_goDays_23 (v_11 (by omega)) (by omega) ?_
            refine x_V1v (ci := 6) (pc := 24) F dX6_goDays_24 lk_X6_116 rfl (v_1 (by omega)) rfl rfl (c_X6_spendDay hT1 (comer_of hci hcI ht (by omega) (by omega)) (by rw [hg4]; exact gate_of hgr hgI)) rfl rfl rfl ?_
            rintro μ2 ⟨e1, e2, e3, e4, e5⟩
            rw [hg4, let_of hci hgr hs1 hH1 hgI (by have := hcI.2.2.2.1; omega)] at e1 e2
            refine x_iinc (pc := 27) F dX6_goDays_27 rfl rfl ?_
            refine x_goto (tgt := 9) (pc := 30) F dX6_goDays_30 rfl ?_
            refine x_sub (L' := [(0, .ref (ad (1, t, 0))), (1, .int (I n)), (2, .int (I k)), (3, .int (I (i + 1)))]) ⟨rfl, rfl, rfl, rfl, trivial⟩ (jh (i + 1) μ2 (by omega) (by omega) (by omega) (fun p p1 p2 => ?_) (fun o ho => ?_))
            · by_cases e : p = i
              · subst e
                obtain ⟨c0, c1, c2, c3, c4, c5, c6, c7⟩ := hci
                have f5 : μ2 (5, t, p) = μ1 (5, t, p) := e5 _ (by simp)
                refine ⟨?_, ?_, ?_, ?_, ?_, ?_, ?_, fun q x y => ?_⟩
                · rw [e4 0 (by decide) (by decide) (by decide)]; exact c0
                · rw [e4 1 (by decide) (by decide) (by decide), c1]; exact (dayF_o (by omega)).symm
                · rw [e4 2 (by decide) (by decide) (by decide), c2]; exact (dayF_o (by omega)).symm
                · rw [e3, dayF_w p1, if_pos (by omega), hs1.2.2, hH1.2.2.2.2, d6, c0, c3]
                · rw [e4 4 (by decide) (by decide) (by decide), c4]; exact (dayF_o (by omega)).symm
                · rw [e2, dayF_t p1, if_pos (by omega), c5]; rfl
                · rw [e1, dayF_p p1, if_pos (by omega), c6]; rfl
                · rw [f5, c7 q x y]; exact (dayF_o (by omega)).symm
              · refine CR_fr (CR_eq (b4 p p1 p2) (fun q x y => ?_)) (e5 _ (by simp; omega)) (e5 _ (by simp))
                unfold dayF
                by_cases hpi : p < i
                · rw [if_pos (show 16 ≤ q ∧ q < 16 + 10 * (i + 1) by omega), if_pos (show 16 ≤ q ∧ q < 16 + 10 * i by omega)]
                · rw [if_neg (show ¬ (16 ≤ q ∧ q < 16 + 10 * (i + 1)) by omega), if_neg (show ¬ (16 ≤ q ∧ q < 16 + 10 * i) by omega)]
            · rw [e5 o (ho i), b5 o ho]
      refine x_iload_n (i := 2) (pc := 2) F dX6_goDays_2 rfl rfl ?_
      refine x_iload_n (i := 1) (pc := 3) F dX6_goDays_3 rfl rfl ?_
      refine x_icmp_ge (tgt := 49) (pc := 4) F dX6_goDays_4 rfl (by omega) (fun h4 => ?_) (fun h4 => ?_)
      · refine tq_retv (pc := 49) F dX6_goDays_49 ?_ rfl rfl rfl
        refine ⟨?_, a4⟩
        rw [show n.toNat = k by omega, hTk0]
        exact a3
      · refine x_iconst (pc := 7) F dX6_goDays_7 ?_
        refine x_istore_n (i := 3) (pc := 8) F dX6_goDays_8 rfl rfl ?_
        exact x_sub (L' := [(0, .ref (ad (1, t, 0))), (1, .int (I n)), (2, .int (I k)), (3, .int (I 0))]) ⟨rfl, rfl, rfl, rfl, trivial⟩ (inner (by omega) 7 0 μk (by omega) (by omega) (by omega) (fun p x y => by rw [dayF_0]; exact a3.2.1 p x y) (fun o _ => rfl))
  refine x_iconst (pc := 0) F dX6_goDays_0 ?_
  refine x_istore_n (i := 2) (pc := 1) F dX6_goDays_1 rfl rfl ?_
  exact x_sub (L' := [(0, .ref (ad (1, t, 0))), (1, .int (I n)), (2, .int (I ((0 : Nat) : Int)))]) ⟨rfl, rfl, rfl, trivial⟩ (loop 61 0 μ (by omega) (by omega) hR0 (fun o _ _ => rfl))
end GODAYS
