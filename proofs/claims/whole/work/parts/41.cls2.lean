/-! ===== the class: days, ahead ===== -/
noncomputable def passZ (S : Hs) (T : Tn) (n : Int) : Int := if 0 ≤ n ∧ n < 61 then (if T 77 + n ≤ 9999 then T 77 + n else -3) else -2
noncomputable def passN (S : Hs) (T : Tn) (n : Int) : Tn := if (0 ≤ n ∧ n < 61) ∧ T 77 + n ≤ 9999 then daysT S n.toNat T else T
noncomputable def onZ (S : Hs) (T : Tn) (n w : Int) : Int := if w = 0 ∨ (0 ≤ w - 10 ∧ w - 10 < T 76) ∨ 0 ≤ w - 20 ∧ w - 20 < T 76 then (if 0 ≤ n ∧ n < 61 then (if w = 0 then whoT S (daysT S n.toNat T) else if 0 ≤ w - 10 ∧ w - 10 < T 76 then daysT S n.toNat T (21 + 10 * (w - 10)) else daysT S n.toNat T (18 + 10 * (w - 20))) else -2) else -1
noncomputable def endsZ (S : Hs) (T : Tn) (w : Int) : Int := if 0 ≤ w ∧ w < 2 then (if w = 0 then passT (goT S T (T 95).toNat) else whoT S (goT S T (T 95).toNat)) else -1
/-- scratch of the class: the Town ahead, the trial Gate, the probe, two rows -/
def scO (o : Ob) : Prop := (1 ≤ o.1 ∧ o.1 ≤ 9 ∧ (o.2.1 = 2 ∨ o.2.1 = 3)) ∨ o.1 = 22 ∨ o.1 = 23
theorem scO_hs {o : Ob} (h : hs3 o) : ¬ scO o := by
  unfold hs3 at h
  unfold scO
  omega
theorem TR_sc {μ μ' : Me} {t : Int} {T : Tn} (h : TR μ t T) (ht : t = 0 ∨ t = 1) (hf : ∀ o, ¬ scO o → μ' o = μ o) : TR μ' t T := TR_fr h (fun o a b c => hf o (by unfold scO; omega))
section CLS2
variable {ad : Ob → Nat} {μ : Me} {nh : Int} {T : Tn} {S : Hs}
set_option maxRecDepth 20000 in
theorem c_X7_nearest (c g : Int) (hc : 0 ≤ c ∧ c < T 76) (hg : 0 ≤ g ∧ g < 4) (hR0 : TR μ 0 T) (hI : TI T) (hH : HRel μ nh (T 78) S) (hd : T 77 ≤ 9999) (l : Launch) (E : Ev) (A : Nat → Prop) : Con l E 4 m_X7_nearest A (VC nh) ad μ [.ref (ad (0, 0, 0)), .ref (ad (4, 0, c)), .int (I g)] (pi fun z μ' => z = nearT S T c g ∧ μ = μ') := by
  have h76 := hI.2.2.1
  obtain ⟨g0, g1⟩ := hR0.1 g hg.1 hg.2
  have hgi := hI.1 g hg.1 hg.2
  have hgi1 := hgi.1
  have hT := hR0.town hI hH (by omega) (by omega)
  have hC := hR0.comer (p := c) hI (by omega) (by omega) (by omega)
  have hlk : ∀ k : Int, 0 ≤ k → k < 3 → lbM μ 0 0 c g (alk (μ (4, 0, c) 3) (μ (3, 0, g) k) + bnM μ 0 0 c g) = lkT S T c g (T (4 * g + 1 + k)) := fun k a b => by
    rw [hR0.lb (by omega) hg, hR0.bn hH (by omega), (hR0.2.1 c (by omega) (by omega)).2.2.2.1, alk_c, g1 k a b]; rfl
  have hrg : ∀ k : Int, 0 ≤ k → k < 3 → -30000 ≤ lkT S T c g (T (4 * g + 1 + k)) ∧ lkT S T c g (T (4 * g + 1 + k)) ≤ 30000 := fun k a b => by
    rw [← hlk k a b]
    have h1 := bnM_rg (tc := 0) (p := c) (g := g) hT
    have h2 := alk_rg (μ (4, 0, c) 3) (μ (3, 0, g) k)
    exact lbM_rg hT hC hg (by omega)
  refine con (own := RX7) (by decide +kernel) rfl rfl rfl (fun Γ F => ?_)
  have loop : ∀ (N : Nat) (n : Nat), T (4 * g) - n < N → n ≤ T (4 * g) → XX Γ 8 (VC nh) ad (vl ad μ) 0 0 20 [(0, .ref (ad (0, 0, 0))), (1, .ref (ad (4, 0, c))), (2, .int (I g)), (3, .ref (ad (2, 0, g))), (4, .int (I (nearL (fun k => lkT S T c g (T (4 * g + 1 + k))) n).1)), (5, .int (I (nearL (fun k => lkT S T c g (T (4 * g + 1 + k))) n).2)), (6, .int (I n))] [] := by
    intro N
    induction N with
    | zero => intro n a1 a2; omega
    | succ N ih =>
      intro n a1 a2
      have r1 := nearL_rg (fun k => lkT S T c g (T (4 * g + 1 + k))) n
      have r2 := nearL_b (f := fun k => lkT S T c g (T (4 * g + 1 + k))) (B := 30000) (by decide) 3 (fun k a b => hrg k a (by omega)) n (by omega)
      have hnx : nearL (fun k => lkT S T c g (T (4 * g + 1 + k))) (n + 1) = if (nearL (fun k => lkT S T c g (T (4 * g + 1 + k))) n).1 = -5 ∨ (nearL (fun k => lkT S T c g (T (4 * g + 1 + k))) n).2 < lkT S T c g (T (4 * g + 1 + n)) then ((n : Int), lkT S T c g (T (4 * g + 1 + n))) else nearL (fun k => lkT S T c g (T (4 * g + 1 + k))) n := rfl
      have hfin : n = (T (4 * g)).toNat → (nearL (fun k => lkT S T c g (T (4 * g + 1 + k))) n).1 = nearT S T c g := fun h => by unfold nearT; rw [h]
      generalize hs : nearL (fun k => lkT S T c g (T (4 * g + 1 + k))) n = s at r1 r2 hnx hfin ⊢
      refine x_iload (i := 6) (pc := 20) F dX7_nearest_20 rfl ?_
      refine x_aload_n (i := 3) (pc := 22) F dX7_nearest_22 rfl rfl ?_
      refine gf_X7_139 (pc := 23) F dX7_nearest_23 (v_2 (by omega)) ?_
      rw [g0]
      refine x_icmp_ge (tgt := 75) (pc := 26) F dX7_nearest_26 rfl (by omega) (fun h26 => ?_) (fun h26 => ?_)
      · refine x_iload (i := 4) (pc := 75) F dX7_nearest_75 rfl ?_
        refine tq_reti (pc := 77) F dX7_nearest_77 ?_ rfl rfl rfl
        exact ⟨hfin (by omega), rfl⟩
      · have hr3 := hrg n (by omega) (by omega)
        refine x_aload_n (i := 0) (pc := 29) F dX7_nearest_29 rfl rfl ?_
        refine gf_X7_62 (pc := 30) F dX7_nearest_30 (v_0 (by omega)) ?_
        refine x_aload_n (i := 1) (pc := 33) F dX7_nearest_33 rfl rfl ?_
        refine x_iload_n (i := 2) (pc := 34) F dX7_nearest_34 rfl rfl ?_
        refine x_aload_n (i := 3) (pc := 35) F dX7_nearest_35 rfl rfl ?_
        refine gf_X7_142 (pc := 36) F dX7_nearest_36 (v_2 (by omega)) ?_
        refine x_iload (i := 6) (pc := 39) F dX7_nearest_39 rfl ?_
        have hwk := hgi.2 n (by omega) (by omega)
        refine tq_ia (pc := 41) F dX7_nearest_41 (v_3 (by omega)) rfl (fun _ => rfl) (by omega) ?_
        have hlk1 := hlk n (by omega) (by omega)
        refine x_V3i (ci := 6) (pc := 42) F dX7_nearest_42 lk_X7_145 rfl (v_1 (by omega)) rfl rfl (c_X6_likeToWalk _ hT hC hg (by rw [g1 n (by omega) (by omega)]; exact hwk)) rfl rfl rfl ?_
        rintro _ _ ⟨rfl, rfl⟩
        rw [hlk1]
        refine x_istore (i := 7) (pc := 45) F dX7_nearest_45 rfl ?_
        refine x_iload (i := 4) (pc := 47) F dX7_nearest_47 rfl ?_
        refine x_bipush (pc := 49) F dX7_nearest_49 (by decide) ?_
        refine x_icmp_eq (tgt := 61) (pc := 51) F dX7_nearest_51 rfl (by omega) (fun h51 => ?_) (fun h51 => ?_)
        · refine x_iload (i := 6) (pc := 61) F dX7_nearest_61 rfl ?_
          refine x_istore (i := 4) (pc := 63) F dX7_nearest_63 rfl ?_
          refine x_iload (i := 7) (pc := 65) F dX7_nearest_65 rfl ?_
          refine x_istore (i := 5) (pc := 67) F dX7_nearest_67 rfl ?_
          refine x_iinc (pc := 69) F dX7_nearest_69 rfl rfl ?_
          refine x_goto (tgt := 20) (pc := 72) F dX7_nearest_72 rfl ?_
          refine x_sub (L' := [(0, .ref (ad (0, 0, 0))), (1, .ref (ad (4, 0, c))), (2, .int (I g)), (3, .ref (ad (2, 0, g))), (4, .int (I (nearL (fun k => lkT S T c g (T (4 * g + 1 + k))) (n + 1)).1)), (5, .int (I (nearL (fun k => lkT S T c g (T (4 * g + 1 + k))) (n + 1)).2)), (6, .int (I ((n + 1 : Nat) : Int)))]) ⟨rfl, rfl, rfl, rfl, lk_i rfl ?_, lk_i rfl ?_, rfl, trivial⟩ (ih (n + 1) (by omega) (by omega))
          all_goals rw [hnx]
          all_goals first | (rw [if_pos (by omega)]; done) | (rw [if_neg (by omega)]; done)
        · refine x_iload (i := 7) (pc := 54) F dX7_nearest_54 rfl ?_
          refine x_iload (i := 5) (pc := 56) F dX7_nearest_56 rfl ?_
          refine x_icmp_le (tgt := 69) (pc := 58) F dX7_nearest_58 rfl (by omega) (fun h58 => ?_) (fun h58 => ?_)
          · refine x_iinc (pc := 69) F dX7_nearest_69 rfl rfl ?_
            refine x_goto (tgt := 20) (pc := 72) F dX7_nearest_72 rfl ?_
            refine x_sub (L' := [(0, .ref (ad (0, 0, 0))), (1, .ref (ad (4, 0, c))), (2, .int (I g)), (3, .ref (ad (2, 0, g))), (4, .int (I (nearL (fun k => lkT S T c g (T (4 * g + 1 + k))) (n + 1)).1)), (5, .int (I (nearL (fun k => lkT S T c g (T (4 * g + 1 + k))) (n + 1)).2)), (6, .int (I ((n + 1 : Nat) : Int)))]) ⟨rfl, rfl, rfl, rfl, lk_i rfl ?_, lk_i rfl ?_, rfl, trivial⟩ (ih (n + 1) (by omega) (by omega))
            all_goals rw [hnx]
            all_goals first | (rw [if_pos (by omega)]; done) | (rw [if_neg (by omega)]; done)
          · refine x_iload (i := 6) (pc := 61) F dX7_nearest_61 rfl ?_
            refine x_istore (i := 4) (pc := 63) F dX7_nearest_63 rfl ?_
            refine x_iload (i := 7) (pc := 65) F dX7_nearest_65 rfl ?_
            refine x_istore (i := 5) (pc := 67) F dX7_nearest_67 rfl ?_
            refine x_iinc (pc := 69) F dX7_nearest_69 rfl rfl ?_
            refine x_goto (tgt := 20) (pc := 72) F dX7_nearest_72 rfl ?_
            refine x_sub (L' := [(0, .ref (ad (0, 0, 0))), (1, .ref (ad (4, 0, c))), (2, .int (I g)), (3, .ref (ad (2, 0, g))), (4, .int (I (nearL (fun k => lkT S T c g (T (4 * g + 1 + k))) (n + 1)).1)), (5, .int (I (nearL (fun k => lkT S T c g (T (4 * g + 1 + k))) (n + 1)).2)), (6, .int (I ((n + 1 : Nat) : Int)))]) ⟨rfl, rfl, rfl, rfl, lk_i rfl ?_, lk_i rfl ?_, rfl, trivial⟩ (ih (n + 1) (by omega) (by omega))
            all_goals rw [hnx]
            all_goals first | (rw [if_pos (by omega)]; done) | (rw [if_neg (by omega)]; done)
  refine x_aload_n (i := 0) (pc := 0) F dX7_nearest_0 rfl rfl ?_
  refine gf_X7_62 (pc := 1) F dX7_nearest_1 (v_0 (by omega)) ?_
  refine gf_X7_135 (pc := 4) F dX7_nearest_4 (v_1 (by omega)) ?_
  refine x_iload_n (i := 2) (pc := 7) F dX7_nearest_7 rfl rfl ?_
  refine tq_ga (pc := 8) F dX7_nearest_8 (v_10 (by omega)) (by omega) ?_
  refine x_astore_n (i := 3) (pc := 9) F dX7_nearest_9 rfl rfl ?_
  refine x_bipush (pc := 10) F dX7_nearest_10 (by decide) ?_
  refine x_istore (i := 4) (pc := 12) F dX7_nearest_12 rfl ?_
  refine x_iconst (pc := 14) F dX7_nearest_14 ?_
  refine x_istore (i := 5) (pc := 15) F dX7_nearest_15 rfl ?_
  refine x_iconst (pc := 17) F dX7_nearest_17 ?_
  refine x_istore (i := 6) (pc := 18) F dX7_nearest_18 rfl ?_
  exact x_sub (L' := [(0, .ref (ad (0, 0, 0))), (1, .ref (ad (4, 0, c))), (2, .int (I g)), (3, .ref (ad (2, 0, g))), (4, .int (I (nearL (fun k => lkT S T c g (T (4 * g + 1 + k))) 0).1)), (5, .int (I (nearL (fun k => lkT S T c g (T (4 * g + 1 + k))) 0).2)), (6, .int (I ((0 : Nat) : Int)))]) ⟨rfl, rfl, rfl, rfl, rfl, rfl, rfl, trivial⟩ (loop 4 0 (by omega) (by omega))
set_option maxRecDepth 20000 in
theorem c_X7_aheadBy (n : Int) (hn : 0 ≤ n ∧ n < 61) (hR0 : TR μ 0 T) (hI : TI T) (hH : HRel μ nh (T 78) S) (hd : T 77 ≤ 9999) (l : Launch) (E : Ev) (A : Nat → Prop) : Con l E 7 m_X7_aheadBy A (VC nh) ad μ [.ref (ad (0, 0, 0)), .int (I n)] (pr fun z μ' => z = ad (1, 2, 0) ∧ TR μ' 2 (daysT S n.toNat T) ∧ ∀ o, ¬ scO o → μ' o = μ o) := by
  have h78 := hI.2.2.2.2.1
  have h7 : hR (T 78) ≠ 7 := by unfold hR; split <;> omega
  refine con (own := RX7) (by decide +kernel) rfl rfl rfl (fun Γ F => ?_)
  refine x_aload_n (i := 0) (pc := 0) F dX7_aheadBy_0 rfl rfl ?_
  refine gf_X7_69 (pc := 1) F dX7_aheadBy_1 (v_0 (by omega)) ?_
  refine x_aload_n (i := 0) (pc := 4) F dX7_aheadBy_4 rfl rfl ?_
  refine gf_X7_62 (pc := 5) F dX7_aheadBy_5 (v_0 (by omega)) ?_
  refine x_V1v (ci := 6) (pc := 8) F dX7_aheadBy_8 lk_X7_87 rfl (v_1 (by omega)) rfl rfl (c_X6_become hR0 (by decide) (by decide) (by decide) h78 trivial h7) rfl rfl rfl ?_
  rintro μ1 ⟨e1, e2⟩
  refine x_aload_n (i := 0) (pc := 11) F dX7_aheadBy_11 rfl rfl ?_
  refine gf_X7_69 (pc := 12) F dX7_aheadBy_12 (v_0 (by omega)) ?_
  refine x_iload_n (i := 1) (pc := 15) F dX7_aheadBy_15 rfl rfl ?_
  refine x_V1v (ci := 6) (pc := 16) F dX7_aheadBy_16 lk_X7_91 rfl (v_1 (by omega)) rfl rfl (c_X6_goDays n (by omega) e1 hI (hH.fr (fun o ho => e2 o (by rcases ho with h | h | h <;> omega))) (by decide) (by omega)) rfl rfl rfl ?_
  rintro μ2 ⟨e3, e4⟩
  refine x_aload_n (i := 0) (pc := 19) F dX7_aheadBy_19 rfl rfl ?_
  refine gf_X7_69 (pc := 20) F dX7_aheadBy_20 (v_0 (by omega)) ?_
  refine tq_retr (pc := 23) F dX7_aheadBy_23 ?_ rfl rfl rfl
  refine ⟨rfl, e3, fun o ho => ?_⟩
  rw [e4 o (by rintro rfl; exact ho (by simp [scO])) (fun p => by rintro rfl; exact ho (by simp [scO])), e2 o (fun h => ho (by unfold scO; omega))]
set_option maxRecDepth 20000 in
theorem c_X7_daysUntilOut (c : Int) (hc : 0 ≤ c ∧ c < T 76) (hR0 : TR μ 0 T) (hI : TI T) (hH : HRel μ nh (T 78) S) (hd : T 77 ≤ 9999) (l : Launch) (E : Ev) (A : Nat → Prop) : Con l E 6 m_X7_daysUntilOut A (VC nh) ad μ [.ref (ad (0, 0, 0)), .int (I c)] (pi fun z μ' => z = outT S T c ∧ ∀ o, ¬ scO o → μ' o = μ o) := by
  have h76 := hI.2.2.1
  have h78 := hI.2.2.2.2.1
  have h77 := hI.2.2.2.1
  have h7 : hR (T 78) ≠ 7 := by unfold hR; split <;> omega
  have hS0 : 0 ≤ S.2.2 := by
    have h1 := hH.2.1.2.2.2.2.2.2.1
    rw [hH.2.2.2.2] at h1
    exact h1
  refine con (own := RX7) (by decide +kernel) rfl rfl rfl (fun Γ F => ?_)
  have loop : ∀ (N : Nat) (n : Nat) (μ1 : Me), 61 - (n : Int) < N → n ≤ 61 → outT S T c = firstF (fun n => ¬ LT S (daysT S n T) c) (61 - n) n → CR μ1 2 (daysT S n T) c → (∀ g, 0 ≤ g → g < 4 → GR μ1 2 T g) → SR μ1 2 (daysT S n T) → (∀ o, ¬ scO o → μ1 o = μ o) → XX Γ 4 (VC nh) ad (vl ad μ1) 0 0 23 [(0, .ref (ad (0, 0, 0))), (1, .int (I c)), (2, .ref (ad (4, 2, c))), (3, .int (I n))] [] := by
    intro N
    induction N with
    | zero => intro n μ1 a1 a2; omega
    | succ N ih =>
      intro n μ1 a1 a2 a3 a4 a5 a6 a7
      have hIn := daysT_TI hI hS0 n
      have d77 := daysT_77 (S := S) (T := T) n
      have d78 : daysT S n T 78 = T 78 := daysT_o hI hS0 (by decide) (by omega) n
      have d76 : daysT S n T 76 = T 76 := daysT_o hI hS0 (by decide) (by omega) n
      have hHn : HRel μ1 nh (daysT S n T 78) S := by rw [d78]; exact hH.fr (fun o ho => a7 o (scO_hs ho))
      have hnx : daysT S (n + 1) T = dayT S (daysT S n T) := rfl
      have hgo : ∀ g, 0 ≤ g → g < 4 → GR μ1 2 (daysT S n T) g := fun g x y => GR_eq (a5 g x y) (fun k u v => daysT_o hI hS0 (by omega) (by omega) n)
      have hcI := hIn.2.1 c (by omega) (by omega)
      have hco := comer_of a4 hcI (by decide) (by omega) (by omega)
      have hto : TownOK μ1 nh 2 := by
        obtain ⟨s1, s2, s3⟩ := a6
        have i76 := hIn.2.2.1
        have i77 := hIn.2.2.2.1
        refine ⟨by decide, by omega, by omega, ?_, ?_⟩
        · rw [s3]; exact hHn.1
        · rw [s3]; exact hHn.2.1
      have hg4 : μ1 (4, 2, c) 4 = daysT S n T (19 + 10 * c) := a4.2.2.2.2.1
      have hgr := hgo (daysT S n T (19 + 10 * c)) hcI.2.2.2.1.1 (by have := hcI.2.2.2.1.2; omega)
      have hgI := hIn.1 _ hcI.2.2.2.1.1 (show daysT S n T (19 + 10 * c) < 4 by have := hcI.2.2.2.1.2; omega)
      have hlet := let_of a4 hgr a6 hHn hgI (by have := hcI.2.2.2.1; omega)
      have hgk := gate_of hgr hgI
      have hgq := hcI.2.2.2.1
      have f0 : n ≤ 60 → ¬ LT S (daysT S n T) c → outT S T c = n := fun h1 h2 => by rw [a3, show 61 - n = (60 - n) + 1 by omega, firstF_t (P := fun n => ¬ LT S (daysT S n T) c) h2]
      have f1 : n ≤ 60 → LT S (daysT S n T) c → outT S T c = firstF (fun n => ¬ LT S (daysT S n T) c) (61 - (n + 1)) (n + 1) := fun h1 h2 => by rw [a3, show 61 - n = (60 - n) + 1 by omega, firstF_f (P := fun n => ¬ LT S (daysT S n T) c) (by simp [h2]), show 61 - (n + 1) = 60 - n by omega]
      have f2 : n = 61 → outT S T c = -5 := fun h => by rw [a3, h]; rfl
      have f3 : LTg S (daysT S n T) c (daysT S n T (19 + 10 * c)) = LT S (daysT S n T) c := rfl
      have f4 : dayF S (daysT S n T) (daysT S n T 76) = dayF S (daysT S n T) (T 76) := by rw [d76]
      generalize daysT S n T = Tn at *
      refine x_iload_n (i := 3) (pc := 23) F dX7_daysUntilOut_23 rfl rfl ?_
      refine x_bipush (pc := 24) F dX7_daysUntilOut_24 (by decide) ?_
      refine x_icmp_gt (tgt := 73) (pc := 26) F dX7_daysUntilOut_26 rfl (by omega) (fun h26 => ?_) (fun h26 => ?_)
      · refine x_bipush (pc := 73) F dX7_daysUntilOut_73 (by decide) ?_
        refine tq_reti (pc := 75) F dX7_daysUntilOut_75 ?_ rfl rfl rfl
        exact ⟨(f2 (by omega)).symm, a7⟩
      · refine x_aload_n (i := 0) (pc := 29) F dX7_daysUntilOut_29 rfl rfl ?_
        refine gf_X7_69 (pc := 30) F dX7_daysUntilOut_30 (v_0 (by omega)) ?_
        refine x_aload_n (i := 2) (pc := 33) F dX7_daysUntilOut_33 rfl rfl ?_
        refine x_aload_n (i := 2) (pc := 34) F dX7_daysUntilOut_34 rfl rfl ?_
        refine gf_X7_123 (pc := 35) F dX7_daysUntilOut_35 (v_4 (by omega)) ?_
        rw [hg4]
        refine x_V2z (ci := 6) (pc := 38) F dX7_daysUntilOut_38 lk_X7_106 rfl (v_1 (by omega)) rfl rfl (c_X6_letsBy hto hco (by omega) hgk) rfl rfl rfl ?_
        rintro b _ ⟨hbb, rfl⟩
        rw [hlet, f3] at hbb
        refine x_if_neB (tgt := 46) (pc := 41) F dX7_daysUntilOut_41 rfl (fun h41 => ?_) (fun h41 => ?_)
        · try simp only [decide_eq_true_eq, decide_eq_false_iff_not, Bool.and_eq_true, Bool.or_eq_true, Bool.not_eq_true', Bool.not_eq_false', Bool.and_eq_false_iff, Bool.or_eq_false_iff] at h41
          refine x_aload_n (i := 0) (pc := 46) F dX7_daysUntilOut_46 rfl rfl ?_
          refine gf_X7_69 (pc := 47) F dX7_daysUntilOut_47 (v_0 (by omega)) ?_
          refine x_aload_n (i := 2) (pc := 50) F dX7_daysUntilOut_50 rfl rfl ?_
          refine x_V1v (ci := 6) (pc := 51) F dX7_daysUntilOut_51 lk_X7_149 rfl (v_1 (by omega)) rfl rfl (c_X6_spendDay hto hco (by rw [hg4]; exact hgk)) rfl rfl rfl ?_
          rintro μ2 ⟨e1, e2, e3, e4, e5⟩
          rw [hg4, hlet, f3] at e1 e2
          have x1 : μ2 (1, 2, 0) = μ1 (1, 2, 0) := e5 _ (by simp)
          have hLT := hbb.mp h41
          refine x_aload_n (i := 0) (pc := 54) F dX7_daysUntilOut_54 rfl rfl ?_
          refine gf_X7_69 (pc := 55) F dX7_daysUntilOut_55 (v_0 (by omega)) ?_
          refine x_dup (pc := 58) F dX7_daysUntilOut_58 rfl ?_
          refine gf_X7_153 (pc := 59) F dX7_daysUntilOut_59 (v_1 (by omega)) ?_
          rw [show μ2 (1, 2, 0) 6 = Tn 77 by rw [x1]; exact a6.2.1]
          refine x_iconst (pc := 62) F dX7_daysUntilOut_62 ?_
          refine x_iadd (pc := 63) F dX7_daysUntilOut_63 ?_
          refine pf_X7_153 (pc := 64) F dX7_daysUntilOut_64 (v_1 (by omega)) ?_
          refine x_iinc (pc := 67) F dX7_daysUntilOut_67 rfl rfl ?_
          refine x_goto (tgt := 23) (pc := 70) F dX7_daysUntilOut_70 rfl ?_
          refine x_sub (L' := [(0, .ref (ad (0, 0, 0))), (1, .int (I c)), (2, .ref (ad (4, 2, c))), (3, .int (I ((n + 1 : Nat) : Int)))]) ⟨rfl, rfl, rfl, rfl, trivial⟩ (ih (n + 1) _ (by omega) (by omega) (f1 (by omega) hLT) ?_ (fun g x y => GR_fr (a5 g x y) (by rw [upM_ne (by simp), e5 _ (by simp)]) (by rw [upM_ne (by simp), e5 _ (by simp)])) ?_ (fun o ho => ?_))
          · rw [hnx]
            refine CR_fr (μ := μ2) (CR_eq (T := dayF S Tn (Tn 76)) ?_ (fun k u v => by unfold dayT; rw [if_neg (by omega)])) (upM_ne (by simp)) (upM_ne (by simp))
            obtain ⟨c0, c1, c2, c3, c4, c5, c6, c7⟩ := a4
            have f5 : μ2 (5, 2, c) = μ1 (5, 2, c) := e5 _ (by simp)
            refine ⟨?_, ?_, ?_, ?_, ?_, ?_, ?_, fun q x y => ?_⟩
            · rw [e4 0 (by decide) (by decide) (by decide)]; exact c0
            · rw [e4 1 (by decide) (by decide) (by decide), c1]; exact (dayF_o (by omega)).symm
            · rw [e4 2 (by decide) (by decide) (by decide), c2]; exact (dayF_o (by omega)).symm
            · rw [e3, dayF_w (by omega), if_pos (by omega), a6.2.2, hHn.2.2.2.2, a6.2.1, c0, c3]
            · rw [e4 4 (by decide) (by decide) (by decide), c4]; exact (dayF_o (by omega)).symm
            · rw [e2, dayF_t (by omega), if_pos (by omega), c5]
            · rw [e1, dayF_p (by omega), if_pos (by omega), c6]
            · rw [f5, c7 q x y]; exact (dayF_o (by omega)).symm
          · rw [hnx]
            refine ⟨?_, ?_, ?_⟩
            · rw [upM_i, if_neg (by decide), x1, dayT_o (by decide) (by omega) (by omega)]; exact a6.1
            · rw [upM_i, if_pos rfl, dayT_77]
            · rw [upM_i, if_neg (by decide), x1, dayT_o (by decide) (by omega) (by omega)]; exact a6.2.2
          · rw [upM_ne (by rintro rfl; exact ho (by simp [scO])), e5 o (by rintro rfl; exact ho (by simp [scO])), a7 o ho]
        · try simp only [decide_eq_true_eq, decide_eq_false_iff_not, Bool.and_eq_true, Bool.or_eq_true, Bool.not_eq_true', Bool.not_eq_false', Bool.and_eq_false_iff, Bool.or_eq_false_iff] at h41
          refine x_iload_n (i := 3) (pc := 44) F dX7_daysUntilOut_44 rfl rfl ?_
          refine tq_reti (pc := 45) F dX7_daysUntilOut_45 ?_ rfl rfl rfl
          exact ⟨(f0 (by omega) (fun z => by have := hbb.mpr z; rw [h41] at this; cases this)).symm, a7⟩
  refine x_aload_n (i := 0) (pc := 0) F dX7_daysUntilOut_0 rfl rfl ?_
  refine gf_X7_69 (pc := 1) F dX7_daysUntilOut_1 (v_0 (by omega)) ?_
  refine x_aload_n (i := 0) (pc := 4) F dX7_daysUntilOut_4 rfl rfl ?_
  refine gf_X7_62 (pc := 5) F dX7_daysUntilOut_5 (v_0 (by omega)) ?_
  refine x_V1v (ci := 6) (pc := 8) F dX7_daysUntilOut_8 lk_X7_87 rfl (v_1 (by omega)) rfl rfl (c_X6_become hR0 (by decide) (by decide) (by decide) h78 trivial h7) rfl rfl rfl ?_
  rintro μ1 ⟨e1, e2⟩
  refine x_aload_n (i := 0) (pc := 11) F dX7_daysUntilOut_11 rfl rfl ?_
  refine gf_X7_69 (pc := 12) F dX7_daysUntilOut_12 (v_0 (by omega)) ?_
  refine gf_X7_94 (pc := 15) F dX7_daysUntilOut_15 (v_1 (by omega)) ?_
  refine x_iload_n (i := 1) (pc := 18) F dX7_daysUntilOut_18 rfl rfl ?_
  refine tq_pa (pc := 19) F dX7_daysUntilOut_19 (v_11 (by omega)) (by omega) ?_
  refine x_astore_n (i := 2) (pc := 20) F dX7_daysUntilOut_20 rfl rfl ?_
  refine x_iconst (pc := 21) F dX7_daysUntilOut_21 ?_
  refine x_istore_n (i := 3) (pc := 22) F dX7_daysUntilOut_22 rfl rfl ?_
  exact x_sub (L' := [(0, .ref (ad (0, 0, 0))), (1, .int (I c)), (2, .ref (ad (4, 2, c))), (3, .int (I ((0 : Nat) : Int)))]) ⟨rfl, rfl, rfl, rfl, trivial⟩ (loop 62 0 μ1 (by omega) (by omega) rfl (e1.2.1 c (by omega) (by omega)) e1.1 e1.2.2.1 (fun o ho => e2 o (fun h => ho (by unfold scO; omega))))
end CLS2
