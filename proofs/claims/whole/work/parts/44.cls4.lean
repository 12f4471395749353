/-! ===== the class: one walk alone, told, fractions, feigning ===== -/
def NB (μ : Me) (S : Hs) (T : Tn) (g : Int) : Prop := ∀ p, 0 ≤ p → p < T 76 → mnT S T p g (μ (22, 0, 0) p)
section CLS4
variable {ad : Ob → Nat} {μ : Me} {nh : Int} {T : Tn} {S : Hs}
set_option maxRecDepth 20000 in
theorem c_X7_askNeededByComer (g : Int) (hg : 0 ≤ g ∧ g < 4) (hR0 : TR μ 0 T) (hI : TI T) (hH : HRel μ nh (T 78) S) (hd : T 77 ≤ 9999) (l : Launch) (E : Ev) (A : Nat → Prop) : Con l E 4 m_X7_askNeededByComer A (VC nh) ad μ [.ref (ad (0, 0, 0)), .int (I g)] (pv fun μ' => NB μ' S T g ∧ ∀ o, o ≠ (22, 0, 0) → μ' o = μ o) := by
  have h76 := hI.2.2.1
  refine con (own := RX7) (by decide +kernel) rfl rfl rfl (fun Γ F => ?_)
  have loop : ∀ (N : Nat) (n : Int) (μ1 : Me), T 76 - n < N → 0 ≤ n → n ≤ T 76 → (∀ p, 0 ≤ p → p < n → mnT S T p g (μ1 (22, 0, 0) p)) → (∀ o, o ≠ (22, 0, 0) → μ1 o = μ o) → XX Γ 3 (VC nh) ad (vl ad μ1) 0 0 2 [(0, .ref (ad (0, 0, 0))), (1, .int (I g)), (2, .int (I n))] [] := by
    intro N
    induction N with
    | zero => intro n μ1 a1 a2 a3; omega
    | succ N ih =>
      intro n μ1 a1 a2 a3 a4 a5
      have hR1 : TR μ1 0 T := TR_fr hR0 (fun o a b c => a5 o (by rintro rfl; simp at b))
      have hH1 : HRel μ1 nh (T 78) S := hH.fr (fun o ho => a5 o (by rintro rfl; simp [hs3] at ho))
      have hm : μ1 (1, 0, 0) 5 = T 76 := hR1.2.2.1.1
      refine x_iload_n (i := 2) (pc := 2) F dX7_askNeededByComer_2 rfl rfl ?_
      refine x_aload_n (i := 0) (pc := 3) F dX7_askNeededByComer_3 rfl rfl ?_
      refine gf_X7_62 (pc := 4) F dX7_askNeededByComer_4 (v_0 (by omega)) ?_
      refine gf_X7_79 (pc := 7) F dX7_askNeededByComer_7 (v_1 (by omega)) ?_
      refine x_icmp_ge (tgt := 42) (pc := 10) F dX7_askNeededByComer_10 rfl (by omega) (fun h10 => ?_) (fun h10 => ?_)
      · refine tq_retv (pc := 42) F dX7_askNeededByComer_42 ?_ rfl rfl rfl
        exact ⟨fun p x y => a4 p x (by omega), a5⟩
      · refine x_aload_n (i := 0) (pc := 13) F dX7_askNeededByComer_13 rfl rfl ?_
        refine gf_X7_50 (pc := 14) F dX7_askNeededByComer_14 (v_0 (by omega)) ?_
        refine x_iload_n (i := 2) (pc := 17) F dX7_askNeededByComer_17 rfl rfl ?_
        refine x_aload_n (i := 0) (pc := 18) F dX7_askNeededByComer_18 rfl rfl ?_
        refine gf_X7_62 (pc := 19) F dX7_askNeededByComer_19 (v_0 (by omega)) ?_
        refine x_aload_n (i := 0) (pc := 22) F dX7_askNeededByComer_22 rfl rfl ?_
        refine gf_X7_62 (pc := 23) F dX7_askNeededByComer_23 (v_0 (by omega)) ?_
        refine gf_X7_94 (pc := 26) F dX7_askNeededByComer_26 (v_1 (by omega)) ?_
        refine x_iload_n (i := 2) (pc := 29) F dX7_askNeededByComer_29 rfl rfl ?_
        refine tq_pa (pc := 30) F dX7_askNeededByComer_30 (v_11 (by omega)) (by omega) ?_
        refine x_iload_n (i := 1) (pc := 31) F dX7_askNeededByComer_31 rfl rfl ?_
        refine x_V2i (ci := 6) (pc := 32) F dX7_askNeededByComer_32 lk_X7_202 rfl (v_1 (by omega)) rfl rfl (c_X6_marksNeeded (hR1.town hI hH1 (by omega) (by omega)) (hR1.comer hI (by omega) (by omega) (by omega)) (by omega)) rfl rfl rfl ?_
        rintro z _ ⟨hmn, rfl⟩
        refine tq_ias (pc := 35) F dX7_askNeededByComer_35 (v_22 (by omega)) rfl (fun _ => rfl) (by omega) ?_
        refine x_iinc (pc := 36) F dX7_askNeededByComer_36 rfl rfl ?_
        refine x_goto (tgt := 2) (pc := 39) F dX7_askNeededByComer_39 rfl ?_
        refine x_sub (L' := [(0, .ref (ad (0, 0, 0))), (1, .int (I g)), (2, .int (I (n + 1)))]) ⟨rfl, rfl, rfl, trivial⟩ (ih (n + 1) _ (by omega) (by omega) (by omega) (fun p x y => ?_) (fun o ho => by rw [upM_ne ho, a5 o ho]))
        by_cases e : p = n
        · rw [upM_i, if_pos e, e]; exact mnT_of hmn hR1 hH1 (by omega) (by omega)
        · rw [upM_i, if_neg e]; exact a4 p x (by omega)
  refine x_iconst (pc := 0) F dX7_askNeededByComer_0 ?_
  refine x_istore_n (i := 2) (pc := 1) F dX7_askNeededByComer_1 rfl rfl ?_
  exact x_sub (L' := [(0, .ref (ad (0, 0, 0))), (1, .int (I g)), (2, .int (I 0))]) ⟨rfl, rfl, rfl, trivial⟩ (loop 7 0 μ (by omega) (by omega) (by omega) (fun p x y => by omega) (fun o _ => rfl))
set_option maxRecDepth 20000 in
theorem c_X7_letByWalkAlone (g w : Int) (hw : 0 ≤ w ∧ w < 4096) (hR0 : TR μ 0 T) (hI : TI T) (hB : NB μ S T g) (l : Launch) (E : Ev) (A : Nat → Prop) : Con l E 3 m_X7_letByWalkAlone A (VC nh) ad μ [.ref (ad (0, 0, 0)), .int (I w)] (pi fun z μ' => z = aloN S T g w ∧ μ = μ') := by
  have h76 := hI.2.2.1
  have hm : μ (1, 0, 0) 5 = T 76 := hR0.2.2.1.1
  refine con (own := RX7) (by decide +kernel) rfl rfl rfl (fun Γ F => ?_)
  have loop : ∀ (N : Nat) (n : Nat), T 76 - n < N → n ≤ T 76 → XX Γ 4 (VC nh) ad (vl ad μ) 0 0 4 [(0, .ref (ad (0, 0, 0))), (1, .int (I w)), (2, .int (I (cntP (fun p => S.2.1 ≤ lkT S T p g w) n))), (3, .int (I n))] [] := by
    intro N
    induction N with
    | zero => intro n a1 a2; omega
    | succ N ih =>
      intro n a1 a2
      have hc := cntP_rg (fun p => S.2.1 ≤ lkT S T p g w) n
      refine x_iload_n (i := 3) (pc := 4) F dX7_letByWalkAlone_4 rfl rfl ?_
      refine x_aload_n (i := 0) (pc := 5) F dX7_letByWalkAlone_5 rfl rfl ?_
      refine gf_X7_62 (pc := 6) F dX7_letByWalkAlone_6 (v_0 (by omega)) ?_
      refine gf_X7_79 (pc := 9) F dX7_letByWalkAlone_9 (v_1 (by omega)) ?_
      refine x_icmp_ge (tgt := 49) (pc := 12) F dX7_letByWalkAlone_12 rfl (by omega) (fun h12 => ?_) (fun h12 => ?_)
      · refine x_iload_n (i := 2) (pc := 49) F dX7_letByWalkAlone_49 rfl rfl ?_
        refine tq_reti (pc := 50) F dX7_letByWalkAlone_50 ?_ rfl rfl rfl
        exact ⟨by unfold aloN; rw [show (T 76).toNat = n by omega], rfl⟩
      · have hwk : μ (4, 0, (n : Int)) 3 = T (18 + 10 * n) := (hR0.2.1 n (by omega) (by omega)).2.2.2.1
        have hwr := (hI.2.1 n (by omega) (by omega)).2.2.1
        have hak := alk_rg (T (18 + 10 * n)) w
        have hmn := hB n (by omega) (by omega)
        have hiff : μ (22, 0, 0) n ≤ alk (T (18 + 10 * n)) w ↔ S.2.1 ≤ lkT S T n g w := by rw [hmn.2.2 _ hak.1 hak.2, alk_c]; rfl
        have hm1 := hmn.1
        have hm2 := hmn.2.1
        refine x_aload_n (i := 0) (pc := 15) F dX7_letByWalkAlone_15 rfl rfl ?_
        refine gf_X7_62 (pc := 16) F dX7_letByWalkAlone_16 (v_0 (by omega)) ?_
        refine gf_X7_94 (pc := 19) F dX7_letByWalkAlone_19 (v_1 (by omega)) ?_
        refine x_iload_n (i := 3) (pc := 22) F dX7_letByWalkAlone_22 rfl rfl ?_
        refine tq_pa (pc := 23) F dX7_letByWalkAlone_23 (v_11 (by omega)) (by omega) ?_
        refine gf_X7_120 (pc := 24) F dX7_letByWalkAlone_24 (v_4 (by omega)) ?_
        rw [hwk]
        refine x_iload_n (i := 1) (pc := 27) F dX7_letByWalkAlone_27 rfl rfl ?_
        refine x_S2i (pc := 28) F dX7_letByWalkAlone_28 lk_X7_208 rfl (c_X7_alike _ _ (by omega)) rfl rfl rfl ?_
        rintro _ _ ⟨rfl, rfl⟩
        refine x_aload_n (i := 0) (pc := 31) F dX7_letByWalkAlone_31 rfl rfl ?_
        refine gf_X7_50 (pc := 32) F dX7_letByWalkAlone_32 (v_0 (by omega)) ?_
        refine x_iload_n (i := 3) (pc := 35) F dX7_letByWalkAlone_35 rfl rfl ?_
        refine tq_ia (pc := 36) F dX7_letByWalkAlone_36 (v_22 (by omega)) rfl (fun _ => rfl) (by omega) ?_
        refine x_icmp_lt (tgt := 43) (pc := 37) F dX7_letByWalkAlone_37 rfl (by omega) (fun h37 => ?_) (fun h37 => ?_)
        · refine x_iinc (pc := 43) F dX7_letByWalkAlone_43 rfl rfl ?_
          refine x_goto (tgt := 4) (pc := 46) F dX7_letByWalkAlone_46 rfl ?_
          refine x_sub (L' := [(0, .ref (ad (0, 0, 0))), (1, .int (I w)), (2, .int (I (cntP (fun p => S.2.1 ≤ lkT S T p g w) (n + 1)))), (3, .int (I ((n + 1 : Nat) : Int)))]) ⟨rfl, rfl, lk_i rfl ?_, rfl, trivial⟩ (ih (n + 1) (by omega) (by omega))
          simp only [cntP]
          first | (rw [pI_f (fun z => by have := hiff.mpr z; omega)]; omega) | (rw [pI_t (hiff.mp (by omega))])
        · refine x_iinc (pc := 40) F dX7_letByWalkAlone_40 rfl rfl ?_
          refine x_iinc (pc := 43) F dX7_letByWalkAlone_43 rfl rfl ?_
          refine x_goto (tgt := 4) (pc := 46) F dX7_letByWalkAlone_46 rfl ?_
          refine x_sub (L' := [(0, .ref (ad (0, 0, 0))), (1, .int (I w)), (2, .int (I (cntP (fun p => S.2.1 ≤ lkT S T p g w) (n + 1)))), (3, .int (I ((n + 1 : Nat) : Int)))]) ⟨rfl, rfl, lk_i rfl ?_, rfl, trivial⟩ (ih (n + 1) (by omega) (by omega))
          simp only [cntP]
          first | (rw [pI_f (fun z => by have := hiff.mpr z; omega)]; omega) | (rw [pI_t (hiff.mp (by omega))])
  refine x_iconst (pc := 0) F dX7_letByWalkAlone_0 ?_
  refine x_istore_n (i := 2) (pc := 1) F dX7_letByWalkAlone_1 rfl rfl ?_
  refine x_iconst (pc := 2) F dX7_letByWalkAlone_2 ?_
  refine x_istore_n (i := 3) (pc := 3) F dX7_letByWalkAlone_3 rfl rfl ?_
  exact x_sub (L' := [(0, .ref (ad (0, 0, 0))), (1, .int (I w)), (2, .int (I (cntP (fun p => S.2.1 ≤ lkT S T p g w) 0))), (3, .int (I ((0 : Nat) : Int)))]) ⟨rfl, rfl, rfl, rfl, trivial⟩ (loop 7 0 (by omega) (by omega))
theorem aloN_rg (g w : Int) (h76 : 0 ≤ T 76) : 0 ≤ aloN S T g w ∧ aloN S T g w ≤ T 76 := by
  have := cntP_rg (fun p => S.2.1 ≤ lkT S T p g w) (T 76).toNat
  unfold aloN
  omega
set_option maxRecDepth 20000 in
theorem c_X7_master (g : Int) (hg : 0 ≤ g ∧ g < 4) (hR0 : TR μ 0 T) (hI : TI T) (hH : HRel μ nh (T 78) S) (hd : T 77 ≤ 9999) (l : Launch) (E : Ev) (A : Nat → Prop) : Con l E 5 m_X7_master A (VC nh) ad μ [.ref (ad (0, 0, 0)), .int (I g)] (pi fun z μ' => z = (masT S T g).1 ∧ NB μ' S T g ∧ ∀ o, o ≠ (22, 0, 0) → μ' o = μ o) := by
  have h76 := hI.2.2.1
  have hal := fun w : Int => aloN_rg (S := S) (T := T) g w h76.1
  have hmb := maxL_b (f := aloN S T g) (B := T 76) 4096 (fun k _ _ => hal k)
  refine con (own := RX7) (by decide +kernel) rfl rfl rfl (fun Γ F => ?_)
  have loop : ∀ (N : Nat) (n : Nat) (μ1 : Me), 4096 - (n : Int) < N → n ≤ 4096 → NB μ1 S T g → (∀ o, o ≠ (22, 0, 0) → μ1 o = μ o) → XX Γ 6 (VC nh) ad (vl ad μ1) 0 0 12 [(0, .ref (ad (0, 0, 0))), (1, .int (I g)), (2, .int (I (maxL (aloN S T g) n).1)), (3, .int (I (maxL (aloN S T g) n).2)), (4, .int (I n))] [] := by
    intro N
    induction N with
    | zero => intro n μ1 a1 a2; omega
    | succ N ih =>
      intro n μ1 a1 a2 a3 a4
      have hR1 : TR μ1 0 T := TR_fr hR0 (fun o a b c => a4 o (by rintro rfl; simp at b))
      have hm : μ1 (1, 0, 0) 5 = T 76 := hR1.2.2.1.1
      have hb := hmb n a2
      have hr := maxL_rg (aloN S T g) n
      have hn := hal n
      have hnx : maxL (aloN S T g) (n + 1) = if (maxL (aloN S T g) n).2 < aloN S T g n then ((n : Int), aloN S T g n) else maxL (aloN S T g) n := rfl
      have hend : n = 4096 → (maxL (aloN S T g) n).1 = (masT S T g).1 := fun h => by unfold masT; rw [h]
      have hstop : T 76 ≤ (maxL (aloN S T g) n).2 → (maxL (aloN S T g) n).1 = (masT S T g).1 := fun h => by
        have := maxL_stop 4096 (fun k _ _ => (hal k).2) n h (4096 - n) (by omega)
        rw [show n + (4096 - n) = 4096 by omega] at this
        unfold masT
        rw [this]
      generalize hs : maxL (aloN S T g) n = s at hb hr hnx hend hstop ⊢
      refine x_iload (i := 4) (pc := 12) F dX7_master_12 rfl ?_
      refine x_sipush (pc := 14) F dX7_master_14 (by decide) ?_
      refine x_icmp_ge (tgt := 57) (pc := 17) F dX7_master_17 rfl (by omega) (fun h17 => ?_) (fun h17 => ?_)
      · refine x_iload_n (i := 2) (pc := 57) F dX7_master_57 rfl rfl ?_
        refine tq_reti (pc := 58) F dX7_master_58 ?_ rfl rfl rfl
        exact ⟨by first | exact hend (by omega) | exact hstop (by omega), a3, a4⟩
      · refine x_iload_n (i := 3) (pc := 20) F dX7_master_20 rfl rfl ?_
        refine x_aload_n (i := 0) (pc := 21) F dX7_master_21 rfl rfl ?_
        refine gf_X7_62 (pc := 22) F dX7_master_22 (v_0 (by omega)) ?_
        refine gf_X7_79 (pc := 25) F dX7_master_25 (v_1 (by omega)) ?_
        refine x_icmp_ge (tgt := 57) (pc := 28) F dX7_master_28 rfl (by omega) (fun h28 => ?_) (fun h28 => ?_)
        · refine x_iload_n (i := 2) (pc := 57) F dX7_master_57 rfl rfl ?_
          refine tq_reti (pc := 58) F dX7_master_58 ?_ rfl rfl rfl
          exact ⟨by first | exact hend (by omega) | exact hstop (by omega), a3, a4⟩
        · refine x_aload_n (i := 0) (pc := 31) F dX7_master_31 rfl rfl ?_
          refine x_iload (i := 4) (pc := 32) F dX7_master_32 rfl ?_
          refine x_V1i (ci := 7) (pc := 34) F dX7_master_34 lk_X7_186 rfl (v_0 (by omega)) rfl rfl (c_X7_letByWalkAlone g _ (by omega) hR1 hI a3) rfl rfl rfl ?_
          rintro _ _ ⟨rfl, rfl⟩
          refine x_istore (i := 5) (pc := 37) F dX7_master_37 rfl ?_
          refine x_iload (i := 5) (pc := 39) F dX7_master_39 rfl ?_
          refine x_iload_n (i := 3) (pc := 41) F dX7_master_41 rfl rfl ?_
          refine x_icmp_le (tgt := 51) (pc := 42) F dX7_master_42 rfl (by omega) (fun h42 => ?_) (fun h42 => ?_)
          · refine x_iinc (pc := 51) F dX7_master_51 rfl rfl ?_
            refine x_goto (tgt := 12) (pc := 54) F dX7_master_54 rfl ?_
            refine x_sub (L' := [(0, .ref (ad (0, 0, 0))), (1, .int (I g)), (2, .int (I (maxL (aloN S T g) (n + 1)).1)), (3, .int (I (maxL (aloN S T g) (n + 1)).2)), (4, .int (I ((n + 1 : Nat) : Int)))]) ⟨rfl, rfl, lk_i rfl ?_, lk_i rfl ?_, rfl, trivial⟩ (ih (n + 1) μ1 (by omega) (by omega) a3 a4)
            all_goals rw [hnx]
            all_goals first | (rw [if_pos (by omega)]; done) | (rw [if_neg (by omega)]; done)
          · refine x_iload (i := 5) (pc := 45) F dX7_master_45 rfl ?_
            refine x_istore_n (i := 3) (pc := 47) F dX7_master_47 rfl rfl ?_
            refine x_iload (i := 4) (pc := 48) F dX7_master_48 rfl ?_
            refine x_istore_n (i := 2) (pc := 50) F dX7_master_50 rfl rfl ?_
            refine x_iinc (pc := 51) F dX7_master_51 rfl rfl ?_
            refine x_goto (tgt := 12) (pc := 54) F dX7_master_54 rfl ?_
            refine x_sub (L' := [(0, .ref (ad (0, 0, 0))), (1, .int (I g)), (2, .int (I (maxL (aloN S T g) (n + 1)).1)), (3, .int (I (maxL (aloN S T g) (n + 1)).2)), (4, .int (I ((n + 1 : Nat) : Int)))]) ⟨rfl, rfl, lk_i rfl ?_, lk_i rfl ?_, rfl, trivial⟩ (ih (n + 1) μ1 (by omega) (by omega) a3 a4)
            all_goals rw [hnx]
            all_goals first | (rw [if_pos (by omega)]; done) | (rw [if_neg (by omega)]; done)
  refine x_aload_n (i := 0) (pc := 0) F dX7_master_0 rfl rfl ?_
  refine x_iload_n (i := 1) (pc := 1) F dX7_master_1 rfl rfl ?_
  refine x_V1v (ci := 7) (pc := 2) F dX7_master_2 lk_X7_205 rfl (v_0 (by omega)) rfl rfl (c_X7_askNeededByComer _ (by omega) hR0 hI hH hd) rfl rfl rfl ?_
  rintro μ1 ⟨b1, b2⟩
  refine x_iconst (pc := 5) F dX7_master_5 ?_
  refine x_istore_n (i := 2) (pc := 6) F dX7_master_6 rfl rfl ?_
  refine x_iconst (pc := 7) F dX7_master_7 ?_
  refine x_istore_n (i := 3) (pc := 8) F dX7_master_8 rfl rfl ?_
  refine x_iconst (pc := 9) F dX7_master_9 ?_
  refine x_istore (i := 4) (pc := 10) F dX7_master_10 rfl ?_
  exact x_sub (L' := [(0, .ref (ad (0, 0, 0))), (1, .int (I g)), (2, .int (I (maxL (aloN S T g) 0).1)), (3, .int (I (maxL (aloN S T g) 0).2)), (4, .int (I ((0 : Nat) : Int)))]) ⟨rfl, rfl, rfl, rfl, rfl, trivial⟩ (loop 4097 0 μ1 (by omega) (by omega) b1 b2)
set_option maxRecDepth 20000 in
theorem c_X7_told (w : Int) (hw : -2147483648 ≤ w ∧ w < 2147483648) (hR0 : TR μ 0 T) (hI : TI T) (hH : HRel μ nh (T 78) S) (hd : T 77 ≤ 9999) (l : Launch) (E : Ev) (A : Nat → Prop) : Con l E 6 m_X7_told A (VC nh) ad μ [.ref (ad (0, 0, 0)), .int (I w)] (pi fun z μ' => z = toldZ S T w ∧ ∀ o, ¬ scO o → μ' o = μ o) := by
  have h76 := hI.2.2.1
  have hal := fun g w : Int => aloN_rg (S := S) (T := T) g w h76.1
  have hT := hR0.town hI hH (by decide) (by omega)
  have hT4 := hT.2.2.2.1
  have h7 : μ (1, 0, 0) 7 = hR (T 78) := hR0.2.2.1.2.2
  refine con (own := RX7) (by decide +kernel) rfl rfl rfl (fun Γ F => ?_)
  refine x_iload_n (i := 1) (pc := 0) F dX7_told_0 rfl rfl ?_
  refine x_bipush (pc := 1) F dX7_told_1 (by decide) ?_
  refine x_isub (pc := 3) F dX7_told_3 ?_
  refine x_bipush (pc := 4) F dX7_told_4 (by decide) ?_
  refine x_S2z (pc := 6) F dX7_told_6 lk_X7_83 rfl (c_isInW _ _ _ (by omega)) rfl rfl rfl ?_
  rintro _ _ ⟨rfl, rfl⟩
  refine x_if_eqB (tgt := 54) (pc := 9) F dX7_told_9 rfl (fun h9 => ?_) (fun h9 => ?_)
  · try simp only [decide_eq_true_eq, decide_eq_false_iff_not, Bool.and_eq_true, Bool.or_eq_true, Bool.not_eq_true', Bool.not_eq_false', Bool.and_eq_false_iff, Bool.or_eq_false_iff] at h9
    refine x_iload_n (i := 1) (pc := 54) F dX7_told_54 rfl rfl ?_
    refine x_bipush (pc := 55) F dX7_told_55 (by decide) ?_
    refine x_isub (pc := 57) F dX7_told_57 ?_
    refine x_iconst (pc := 58) F dX7_told_58 ?_
    refine x_S2z (pc := 59) F dX7_told_59 lk_X7_83 rfl (c_isInW _ _ _ (by omega)) rfl rfl rfl ?_
    rintro _ _ ⟨rfl, rfl⟩
    refine x_if_eqB (tgt := 74) (pc := 62) F dX7_told_62 rfl (fun h62 => ?_) (fun h62 => ?_)
    · try simp only [decide_eq_true_eq, decide_eq_false_iff_not, Bool.and_eq_true, Bool.or_eq_true, Bool.not_eq_true', Bool.not_eq_false', Bool.and_eq_false_iff, Bool.or_eq_false_iff] at h62
      refine x_iload_n (i := 1) (pc := 74) F dX7_told_74 rfl rfl ?_
      refine x_bipush (pc := 75) F dX7_told_75 (by decide) ?_
      refine x_isub (pc := 77) F dX7_told_77 ?_
      refine x_iconst (pc := 78) F dX7_told_78 ?_
      refine x_S2z (pc := 79) F dX7_told_79 lk_X7_83 rfl (c_isInW _ _ _ (by omega)) rfl rfl rfl ?_
      rintro _ _ ⟨rfl, rfl⟩
      refine x_if_eqB (tgt := 98) (pc := 82) F dX7_told_82 rfl (fun h82 => ?_) (fun h82 => ?_)
      · try simp only [decide_eq_true_eq, decide_eq_false_iff_not, Bool.and_eq_true, Bool.or_eq_true, Bool.not_eq_true', Bool.not_eq_false', Bool.and_eq_false_iff, Bool.or_eq_false_iff] at h82
        refine x_iload_n (i := 1) (pc := 98) F dX7_told_98 rfl rfl ?_
        refine x_tab (ts := [132, 140, 151, 162, 170]) (dt := 178) (pc := 99) F dX7_told_99 rfl rfl (by omega) ⟨fun h99 => ?_, fun h99 => ?_, fun h99 => ?_, fun h99 => ?_, fun h99 => ?_, trivial⟩ (fun h99 => ?_)
        · refine x_aload_n (i := 0) (pc := 132) F dX7_told_132 rfl rfl ?_
          refine gf_X7_62 (pc := 133) F dX7_told_133 (v_0 (by omega)) ?_
          refine gf_X7_153 (pc := 136) F dX7_told_136 (v_1 (by omega)) ?_
          refine tq_reti (pc := 139) F dX7_told_139 ?_ rfl rfl rfl
          exact ⟨by unfold toldZ; rw [if_neg (by omega), if_neg (by omega), if_neg (by omega), if_pos (by omega)]; exact hR0.2.2.1.2.1, fun o _ => rfl⟩
        · refine x_aload_n (i := 0) (pc := 140) F dX7_told_140 rfl rfl ?_
          refine gf_X7_62 (pc := 141) F dX7_told_141 (v_0 (by omega)) ?_
          refine gf_X7_179 (pc := 144) F dX7_told_144 (v_1 (by omega)) ?_
          rw [hvl_r (by omega)]
          refine gf_X7_189 (pc := 147) F dX7_told_147 (v_12 (by omega)) ?_
          refine tq_reti (pc := 150) F dX7_told_150 ?_ rfl rfl rfl
          exact ⟨by unfold toldZ; rw [if_neg (by omega), if_neg (by omega), if_neg (by omega), if_neg (by omega), if_pos (by omega), h7]; exact hH.2.2.2.1, fun o _ => rfl⟩
        · refine x_aload_n (i := 0) (pc := 151) F dX7_told_151 rfl rfl ?_
          refine gf_X7_62 (pc := 152) F dX7_told_152 (v_0 (by omega)) ?_
          refine gf_X7_179 (pc := 155) F dX7_told_155 (v_1 (by omega)) ?_
          rw [hvl_r (by omega)]
          refine gf_X7_192 (pc := 158) F dX7_told_158 (v_12 (by omega)) ?_
          refine tq_reti (pc := 161) F dX7_told_161 ?_ rfl rfl rfl
          exact ⟨by unfold toldZ; rw [if_neg (by omega), if_neg (by omega), if_neg (by omega), if_neg (by omega), if_neg (by omega), if_pos (by omega), h7]; exact hH.2.2.2.2, fun o _ => rfl⟩
        · refine x_aload_n (i := 0) (pc := 162) F dX7_told_162 rfl rfl ?_
          refine gf_X7_62 (pc := 163) F dX7_told_163 (v_0 (by omega)) ?_
          refine x_V0i (ci := 6) (pc := 166) F dX7_told_166 lk_X7_195 rfl (v_1 (by omega)) rfl rfl (c_X6_whoIsLet hR0 hI hH (by decide) (by omega)) rfl rfl rfl ?_
          rintro _ _ ⟨rfl, rfl⟩
          refine tq_reti (pc := 169) F dX7_told_169 ?_ rfl rfl rfl
          exact ⟨by unfold toldZ; rw [if_neg (by omega), if_neg (by omega), if_neg (by omega), if_neg (by omega), if_neg (by omega), if_neg (by omega), if_pos (by omega)], fun o _ => rfl⟩
        · refine x_aload_n (i := 0) (pc := 170) F dX7_told_170 rfl rfl ?_
          refine gf_X7_62 (pc := 171) F dX7_told_171 (v_0 (by omega)) ?_
          refine x_V0i (ci := 6) (pc := 174) F dX7_told_174 lk_X7_199 rfl (v_1 (by omega)) rfl rfl (c_X6_passedTogether hR0 hI (by decide) (by omega)) rfl rfl rfl ?_
          rintro _ _ ⟨rfl, rfl⟩
          refine tq_reti (pc := 177) F dX7_told_177 ?_ rfl rfl rfl
          exact ⟨by unfold toldZ; rw [if_neg (by omega), if_neg (by omega), if_neg (by omega), if_neg (by omega), if_neg (by omega), if_neg (by omega), if_neg (by omega), if_pos (by omega)], fun o _ => rfl⟩
        · refine x_iconst (pc := 178) F dX7_told_178 ?_
          refine tq_reti (pc := 179) F dX7_told_179 ?_ rfl rfl rfl
          exact ⟨by unfold toldZ; rw [if_neg (by omega), if_neg (by omega), if_neg (by omega), if_neg (by omega), if_neg (by omega), if_neg (by omega), if_neg (by omega), if_neg (by omega)], fun o _ => rfl⟩
      · try simp only [decide_eq_true_eq, decide_eq_false_iff_not, Bool.and_eq_true, Bool.or_eq_true, Bool.not_eq_true', Bool.not_eq_false', Bool.and_eq_false_iff, Bool.or_eq_false_iff] at h82
        refine x_aload_n (i := 0) (pc := 85) F dX7_told_85 rfl rfl ?_
        refine x_aload_n (i := 0) (pc := 86) F dX7_told_86 rfl rfl ?_
        refine x_iload_n (i := 1) (pc := 87) F dX7_told_87 rfl rfl ?_
        refine x_bipush (pc := 88) F dX7_told_88 (by decide) ?_
        refine x_isub (pc := 90) F dX7_told_90 ?_
        refine x_V1i (ci := 7) (pc := 91) F dX7_told_91 lk_X7_183 rfl (v_0 (by omega)) rfl rfl (c_X7_master _ (by omega) hR0 hI hH hd) rfl rfl rfl ?_
        rintro _ μ1 ⟨rfl, b1, b2⟩
        have hR1 : TR μ1 0 T := TR_fr hR0 (fun o a b c => b2 o (by rintro rfl; simp at b))
        have hmr := maxL_rg (aloN S T (w - 40)) 4096
        have hmb := maxL_b (f := aloN S T (w - 40)) (B := T 76) 4096 (fun k _ _ => hal _ k) 4096 (Nat.le_refl _)
        have hmq : (masT S T (w - 40)).2 = aloN S T (w - 40) (masT S T (w - 40)).1 := (hmb.2.2 (by decide)).2
        refine x_V1i (ci := 7) (pc := 94) F dX7_told_94 lk_X7_186 rfl (v_0 (by omega)) rfl rfl (c_X7_letByWalkAlone (w - 40) _ (by unfold masT; omega) hR1 hI b1) rfl rfl rfl ?_
        rintro _ _ ⟨rfl, rfl⟩
        refine tq_reti (pc := 97) F dX7_told_97 ?_ rfl rfl rfl
        exact ⟨by unfold toldZ; rw [if_neg (by omega), if_neg (by omega), if_pos (by omega), hmq], fun o ho => b2 o (by rintro rfl; exact ho (by simp [scO]))⟩
    · try simp only [decide_eq_true_eq, decide_eq_false_iff_not, Bool.and_eq_true, Bool.or_eq_true, Bool.not_eq_true', Bool.not_eq_false', Bool.and_eq_false_iff, Bool.or_eq_false_iff] at h62
      refine x_aload_n (i := 0) (pc := 65) F dX7_told_65 rfl rfl ?_
      refine x_iload_n (i := 1) (pc := 66) F dX7_told_66 rfl rfl ?_
      refine x_bipush (pc := 67) F dX7_told_67 (by decide) ?_
      refine x_isub (pc := 69) F dX7_told_69 ?_
      refine x_V1i (ci := 7) (pc := 70) F dX7_told_70 lk_X7_183 rfl (v_0 (by omega)) rfl rfl (c_X7_master _ (by omega) hR0 hI hH hd) rfl rfl rfl ?_
      rintro _ μ1 ⟨rfl, b1, b2⟩
      refine tq_reti (pc := 73) F dX7_told_73 ?_ rfl rfl rfl
      exact ⟨by unfold toldZ; rw [if_neg (by omega), if_pos (by omega)], fun o ho => b2 o (by rintro rfl; exact ho (by simp [scO]))⟩
  · try simp only [decide_eq_true_eq, decide_eq_false_iff_not, Bool.and_eq_true, Bool.or_eq_true, Bool.not_eq_true', Bool.not_eq_false', Bool.and_eq_false_iff, Bool.or_eq_false_iff] at h9
    refine x_aload_n (i := 0) (pc := 12) F dX7_told_12 rfl rfl ?_
    refine gf_X7_62 (pc := 13) F dX7_told_13 (v_0 (by omega)) ?_
    refine gf_X7_135 (pc := 16) F dX7_told_16 (v_1 (by omega)) ?_
    refine x_iload_n (i := 1) (pc := 19) F dX7_told_19 rfl rfl ?_
    refine x_bipush (pc := 20) F dX7_told_20 (by decide) ?_
    refine x_isub (pc := 22) F dX7_told_22 ?_
    refine x_iconst (pc := 23) F dX7_told_23 ?_
    refine tq_idiv (pc := 24) F dX7_told_24 (by omega) ?_
    refine tq_ga (pc := 25) F dX7_told_25 (v_10 (by omega)) (by omega) ?_
    refine x_astore_n (i := 2) (pc := 26) F dX7_told_26 rfl rfl ?_
    refine x_iload_n (i := 1) (pc := 27) F dX7_told_27 rfl rfl ?_
    refine x_bipush (pc := 28) F dX7_told_28 (by decide) ?_
    refine x_isub (pc := 30) F dX7_told_30 ?_
    refine x_iconst (pc := 31) F dX7_told_31 ?_
    refine tq_irem (pc := 32) F dX7_told_32 (by omega) ?_
    refine x_istore_n (i := 3) (pc := 33) F dX7_told_33 rfl rfl ?_
    obtain ⟨g0, g1⟩ := hR0.1 ((w - 10) / 3) (by omega) (by omega)
    have hgi := (hI.1 ((w - 10) / 3) (by omega) (by omega)).1
    refine x_iload_n (i := 3) (pc := 34) F dX7_told_34 rfl rfl ?_
    refine x_aload_n (i := 2) (pc := 35) F dX7_told_35 rfl rfl ?_
    refine gf_X7_139 (pc := 36) F dX7_told_36 (v_2 (by omega)) ?_
    rw [g0]
    refine x_icmp_ge (tgt := 51) (pc := 39) F dX7_told_39 rfl (by omega) (fun h39 => ?_) (fun h39 => ?_)
    · refine x_bipush (pc := 51) F dX7_told_51 (by decide) ?_
      refine tq_reti (pc := 53) F dX7_told_53 ?_ rfl rfl rfl
      refine ⟨?_, fun o _ => rfl⟩
      unfold toldZ; rw [if_pos (by omega)]
      first | (rw [if_pos (by omega)]; exact g1 _ (by omega) (by omega)) | (rw [if_neg (by omega)]; done)
    · refine x_aload_n (i := 2) (pc := 42) F dX7_told_42 rfl rfl ?_
      refine gf_X7_142 (pc := 43) F dX7_told_43 (v_2 (by omega)) ?_
      refine x_iload_n (i := 3) (pc := 46) F dX7_told_46 rfl rfl ?_
      refine tq_ia (pc := 47) F dX7_told_47 (v_3 (by omega)) rfl (fun _ => rfl) (by omega) ?_
      refine x_goto (tgt := 53) (pc := 48) F dX7_told_48 rfl ?_
      refine tq_reti (pc := 53) F dX7_told_53 ?_ rfl rfl rfl
      refine ⟨?_, fun o _ => rfl⟩
      unfold toldZ; rw [if_pos (by omega)]
      first | (rw [if_pos (by omega)]; exact g1 _ (by omega) (by omega)) | (rw [if_neg (by omega)]; done)
set_option maxRecDepth 20000 in
theorem c_X7_lowest (V : Ob → Prop) (a b part : Int) (ha : 0 ≤ a ∧ a < 2147483648) (hb : 0 < b ∧ b ≤ 100) (hp : -2147483648 ≤ part ∧ part < 2147483648) (l : Launch) (E : Ev) (A : Nat → Prop) : Con l E 1 m_X7_lowest A V ad μ [.int (I a), .int (I b), .int (I part)] (pl fun z μ' => z = fracZ a b part ∧ μ = μ') := by
  have hg := gcdI_pos (a := a) hb.1
  have hcg := comL_gcd ha.1 hb.1
  refine con (own := RX7) (by decide +kernel) rfl rfl rfl (fun Γ F => ?_)
  have loop : ∀ (N : Nat) (n : Nat), b - 1 - n < N → n ≤ b - 1 → XX Γ 5 V ad (vl ad μ) 0 0 5 [(0, .int (I a)), (1, .int (I b)), (2, .int (I part)), (3, .int (I (comL a b n))), (4, .int (I ((n : Int) + 2)))] [] := by
    intro N
    induction N with
    | zero => intro n a1 a2; omega
    | succ N ih =>
      intro n a1 a2
      have hc := (comL_ok a b n).1
      have hnx : comL a b (n + 1) = if a % ((n : Int) + 2) = 0 ∧ b % ((n : Int) + 2) = 0 then (n : Int) + 2 else comL a b n := rfl
      have m1 := Int.emod_nonneg a (show (n : Int) + 2 ≠ 0 by omega)
      have m2 := Int.emod_lt_of_pos a (show 0 < (n : Int) + 2 by omega)
      have m3 := Int.emod_nonneg b (show (n : Int) + 2 ≠ 0 by omega)
      have m4 := Int.emod_lt_of_pos b (show 0 < (n : Int) + 2 by omega)
      have hend : n = b.toNat - 1 → comL a b n = gcdI a b := fun h => by rw [h]; exact hcg
      have q1 : 0 ≤ a / comL a b n ∧ a / comL a b n ≤ a := ⟨Int.ediv_nonneg ha.1 (by omega), Int.ediv_le_self _ ha.1⟩
      have q2 : 0 ≤ b / comL a b n ∧ b / comL a b n ≤ b := ⟨Int.ediv_nonneg (by omega) (by omega), Int.ediv_le_self _ (by omega)⟩
      generalize hs : comL a b n = s at hc hnx hend q1 q2 ⊢
      refine x_iload (i := 4) (pc := 5) F dX7_lowest_5 rfl ?_
      refine x_iload_n (i := 1) (pc := 7) F dX7_lowest_7 rfl rfl ?_
      refine x_icmp_gt (tgt := 34) (pc := 8) F dX7_lowest_8 rfl (by omega) (fun h8 => ?_) (fun h8 => ?_)
      · refine x_iload_n (i := 2) (pc := 34) F dX7_lowest_34 rfl rfl ?_
        refine x_if_ne (tgt := 45) (pc := 35) F dX7_lowest_35 rfl (by omega) (fun h35 => ?_) (fun h35 => ?_)
        · refine x_iload_n (i := 1) (pc := 45) F dX7_lowest_45 rfl rfl ?_
          refine x_iload_n (i := 3) (pc := 46) F dX7_lowest_46 rfl rfl ?_
          refine tq_idiv (pc := 47) F dX7_lowest_47 (by omega) ?_
          refine x_i2l (pc := 48) F dX7_lowest_48 (by omega) ?_
          refine tq_retl (pc := 49) F dX7_lowest_49 ?_ rfl rfl rfl
          refine ⟨?_, rfl⟩
          unfold fracZ; rw [← hend (by omega)]
          first | (rw [if_pos (by omega)]; done) | (rw [if_neg (by omega)]; done)
        · refine x_iload_n (i := 0) (pc := 38) F dX7_lowest_38 rfl rfl ?_
          refine x_iload_n (i := 3) (pc := 39) F dX7_lowest_39 rfl rfl ?_
          refine tq_idiv (pc := 40) F dX7_lowest_40 (by omega) ?_
          refine x_i2l (pc := 41) F dX7_lowest_41 (by omega) ?_
          refine x_goto (tgt := 49) (pc := 42) F dX7_lowest_42 rfl ?_
          refine tq_retl (pc := 49) F dX7_lowest_49 ?_ rfl rfl rfl
          refine ⟨?_, rfl⟩
          unfold fracZ; rw [← hend (by omega)]
          first | (rw [if_pos (by omega)]; done) | (rw [if_neg (by omega)]; done)
      · refine x_iload_n (i := 0) (pc := 11) F dX7_lowest_11 rfl rfl ?_
        refine x_iload (i := 4) (pc := 12) F dX7_lowest_12 rfl ?_
        refine tq_irem (pc := 14) F dX7_lowest_14 (by omega) ?_
        refine x_if_ne (tgt := 28) (pc := 15) F dX7_lowest_15 rfl (by omega) (fun h15 => ?_) (fun h15 => ?_)
        · refine x_iinc (pc := 28) F dX7_lowest_28 rfl rfl ?_
          refine x_goto (tgt := 5) (pc := 31) F dX7_lowest_31 rfl ?_
          refine x_sub (L' := [(0, .int (I a)), (1, .int (I b)), (2, .int (I part)), (3, .int (I (comL a b (n + 1)))), (4, .int (I (((n + 1 : Nat) : Int) + 2)))]) ⟨rfl, rfl, rfl, lk_i rfl ?_, lk_i rfl ?_, trivial⟩ (ih (n + 1) (by omega) (by omega))
          · rw [hnx]
            first | (rw [if_pos (by omega)]; done) | (rw [if_neg (by omega)]; done)
          · omega
        · refine x_iload_n (i := 1) (pc := 18) F dX7_lowest_18 rfl rfl ?_
          refine x_iload (i := 4) (pc := 19) F dX7_lowest_19 rfl ?_
          refine tq_irem (pc := 21) F dX7_lowest_21 (by omega) ?_
          refine x_if_ne (tgt := 28) (pc := 22) F dX7_lowest_22 rfl (by omega) (fun h22 => ?_) (fun h22 => ?_)
          · refine x_iinc (pc := 28) F dX7_lowest_28 rfl rfl ?_
            refine x_goto (tgt := 5) (pc := 31) F dX7_lowest_31 rfl ?_
            refine x_sub (L' := [(0, .int (I a)), (1, .int (I b)), (2, .int (I part)), (3, .int (I (comL a b (n + 1)))), (4, .int (I (((n + 1 : Nat) : Int) + 2)))]) ⟨rfl, rfl, rfl, lk_i rfl ?_, lk_i rfl ?_, trivial⟩ (ih (n + 1) (by omega) (by omega))
            · rw [hnx]
              first | (rw [if_pos (by omega)]; done) | (rw [if_neg (by omega)]; done)
            · omega
          · refine x_iload (i := 4) (pc := 25) F dX7_lowest_25 rfl ?_
            refine x_istore_n (i := 3) (pc := 27) F dX7_lowest_27 rfl rfl ?_
            refine x_iinc (pc := 28) F dX7_lowest_28 rfl rfl ?_
            refine x_goto (tgt := 5) (pc := 31) F dX7_lowest_31 rfl ?_
            refine x_sub (L' := [(0, .int (I a)), (1, .int (I b)), (2, .int (I part)), (3, .int (I (comL a b (n + 1)))), (4, .int (I (((n + 1 : Nat) : Int) + 2)))]) ⟨rfl, rfl, rfl, lk_i rfl ?_, lk_i rfl ?_, trivial⟩ (ih (n + 1) (by omega) (by omega))
            · rw [hnx]
              first | (rw [if_pos (by omega)]; done) | (rw [if_neg (by omega)]; done)
            · omega
  refine x_iconst (pc := 0) F dX7_lowest_0 ?_
  refine x_istore_n (i := 3) (pc := 1) F dX7_lowest_1 rfl rfl ?_
  refine x_iconst (pc := 2) F dX7_lowest_2 ?_
  refine x_istore (i := 4) (pc := 3) F dX7_lowest_3 rfl ?_
  exact x_sub (L' := [(0, .int (I a)), (1, .int (I b)), (2, .int (I part)), (3, .int (I (comL a b 0))), (4, .int (I (((0 : Nat) : Int) + 2)))]) ⟨rfl, rfl, rfl, rfl, rfl, trivial⟩ (loop 101 0 (by omega) (by omega))
set_option maxRecDepth 20000 in
theorem c_X7_mean (n part : Int) (hn : -2147483648 ≤ n ∧ n < 2147483648) (hp : -2147483648 ≤ part ∧ part < 2147483648) (hR0 : TR μ 0 T) (hI : TI T) (hH : HRel μ nh (T 78) S) (hd : T 77 ≤ 9999) (l : Launch) (E : Ev) (A : Nat → Prop) : Con l E 8 m_X7_mean A (VC nh) ad μ [.ref (ad (0, 0, 0)), .int (I n), .int (I part)] (pl fun z μ' => z = meanZ S T n part ∧ ∀ o, ¬ scO o → μ' o = μ o) := by
  have h76 := hI.2.2.1
  have hm : μ (1, 0, 0) 5 = T 76 := hR0.2.2.1.1
  have hS0 : 0 ≤ S.2.2 := by
    have h1 := hH.2.1.2.2.2.2.2.2.1
    rw [hH.2.2.2.2] at h1
    exact h1
  have g77 := daysT_77 (S := S) (T := T) n.toNat
  have gI := daysT_TI hI hS0 n.toNat
  have g76 : daysT S n.toNat T 76 = T 76 := daysT_o hI hS0 (by decide) (by omega) n.toNat
  refine con (own := RX7) (by decide +kernel) rfl rfl rfl (fun Γ F => ?_)
  refine x_iload_n (i := 1) (pc := 0) F dX7_mean_0 rfl rfl ?_
  refine x_bipush (pc := 1) F dX7_mean_1 (by decide) ?_
  refine x_S2z (pc := 3) F dX7_mean_3 lk_X7_83 rfl (c_isInW _ _ _ (by omega)) rfl rfl rfl ?_
  rintro _ _ ⟨rfl, rfl⟩
  refine x_if_eqB (tgt := 27) (pc := 6) F dX7_mean_6 rfl (fun h6 => ?_) (fun h6 => ?_)
  · try simp only [decide_eq_true_eq, decide_eq_false_iff_not, Bool.and_eq_true, Bool.or_eq_true, Bool.not_eq_true', Bool.not_eq_false', Bool.and_eq_false_iff, Bool.or_eq_false_iff] at h6
    refine x_ldc2 (z := -9223372036854775808) (pc := 27) F dX7_mean_27 kw_700 rfl ?_
    refine tq_retl (pc := 30) F dX7_mean_30 ?_ rfl rfl rfl
    exact ⟨by unfold meanZ; rw [if_neg (by omega)], fun o _ => rfl⟩
  · try simp only [decide_eq_true_eq, decide_eq_false_iff_not, Bool.and_eq_true, Bool.or_eq_true, Bool.not_eq_true', Bool.not_eq_false', Bool.and_eq_false_iff, Bool.or_eq_false_iff] at h6
    refine x_iload_n (i := 2) (pc := 9) F dX7_mean_9 rfl rfl ?_
    refine x_iconst (pc := 10) F dX7_mean_10 ?_
    refine x_S2z (pc := 11) F dX7_mean_11 lk_X7_83 rfl (c_isInW _ _ _ (by omega)) rfl rfl rfl ?_
    rintro _ _ ⟨rfl, rfl⟩
    refine x_if_eqB (tgt := 27) (pc := 14) F dX7_mean_14 rfl (fun h14 => ?_) (fun h14 => ?_)
    · try simp only [decide_eq_true_eq, decide_eq_false_iff_not, Bool.and_eq_true, Bool.or_eq_true, Bool.not_eq_true', Bool.not_eq_false', Bool.and_eq_false_iff, Bool.or_eq_false_iff] at h14
      refine x_ldc2 (z := -9223372036854775808) (pc := 27) F dX7_mean_27 kw_700 rfl ?_
      refine tq_retl (pc := 30) F dX7_mean_30 ?_ rfl rfl rfl
      exact ⟨by unfold meanZ; rw [if_neg (by omega)], fun o _ => rfl⟩
    · try simp only [decide_eq_true_eq, decide_eq_false_iff_not, Bool.and_eq_true, Bool.or_eq_true, Bool.not_eq_true', Bool.not_eq_false', Bool.and_eq_false_iff, Bool.or_eq_false_iff] at h14
      refine x_aload_n (i := 0) (pc := 17) F dX7_mean_17 rfl rfl ?_
      refine gf_X7_62 (pc := 18) F dX7_mean_18 (v_0 (by omega)) ?_
      refine gf_X7_79 (pc := 21) F dX7_mean_21 (v_1 (by omega)) ?_
      rw [hm]
      refine x_if_ne (tgt := 31) (pc := 24) F dX7_mean_24 rfl (by omega) (fun h24 => ?_) (fun h24 => ?_)
      · refine x_aload_n (i := 0) (pc := 31) F dX7_mean_31 rfl rfl ?_
        refine x_iload_n (i := 1) (pc := 32) F dX7_mean_32 rfl rfl ?_
        refine x_V1r (ci := 7) (pc := 33) F dX7_mean_33 lk_X7_212 rfl (v_0 (by omega)) rfl rfl (c_X7_aheadBy _ (by omega) hR0 hI hH (by omega)) rfl rfl rfl ?_
        rintro a μ1 ⟨rfl, e1, e2⟩
        refine x_V0i (ci := 6) (pc := 36) F dX7_mean_36 lk_X7_199 rfl (v_1 (by omega)) rfl rfl (c_X6_passedTogether e1 gI (by decide) (by omega)) rfl rfl rfl ?_
        rintro _ _ ⟨rfl, rfl⟩
        refine x_aload_n (i := 0) (pc := 39) F dX7_mean_39 rfl rfl ?_
        refine gf_X7_62 (pc := 40) F dX7_mean_40 (v_0 (by omega)) ?_
        refine gf_X7_79 (pc := 43) F dX7_mean_43 (v_1 (by omega)) ?_
        rw [show μ1 (1, 0, 0) 5 = T 76 by rw [e2 _ (by simp [scO])]; exact hm]
        refine x_iload_n (i := 2) (pc := 46) F dX7_mean_46 rfl rfl ?_
        have hps := sumP_rg (T := daysT S n.toNat T) 10060 (fun p a b => by have := (gI.2.1 p a b).2.2.2.2.2.1; omega) (daysT S n.toNat T 76).toNat (by omega)
        refine x_S3l (pc := 47) F dX7_mean_47 lk_X7_274 rfl (c_X7_lowest _ _ _ _ (by unfold passT; omega) (by omega) (by omega)) rfl rfl rfl ?_
        rintro _ _ ⟨rfl, rfl⟩
        refine tq_retl (pc := 50) F dX7_mean_50 ?_ rfl rfl rfl
        exact ⟨by unfold meanZ; rw [if_pos (by omega)], e2⟩
      · refine x_ldc2 (z := -9223372036854775808) (pc := 27) F dX7_mean_27 kw_700 rfl ?_
        refine tq_retl (pc := 30) F dX7_mean_30 ?_ rfl rfl rfl
        exact ⟨by unfold meanZ; rw [if_neg (by omega)], fun o _ => rfl⟩
set_option maxRecDepth 20000 in
theorem c_X7_odds (c g part : Int) (hc : -2147483648 ≤ c ∧ c < 2147483648) (hg : -2147483648 ≤ g ∧ g < 2147483648) (hp : -2147483648 ≤ part ∧ part < 2147483648) (hR0 : TR μ 0 T) (hI : TI T) (hH : HRel μ nh (T 78) S) (hd : T 77 ≤ 9999) (l : Launch) (E : Ev) (A : Nat → Prop) : Con l E 5 m_X7_odds A (VC nh) ad μ [.ref (ad (0, 0, 0)), .int (I c), .int (I g), .int (I part)] (pl fun z μ' => z = oddsZ S T c g part ∧ μ = μ') := by
  have h76 := hI.2.2.1
  refine con (own := RX7) (by decide +kernel) rfl rfl rfl (fun Γ F => ?_)
  have loop : ((0 ≤ c ∧ c < T 76) ∧ (0 ≤ g ∧ g < 4) ∧ 0 ≤ part ∧ part < 2) → ∀ (z : Int), mnT S T c g z → ∀ (N : Nat) (n : Nat), 12 - (n : Int) < N → n ≤ 12 → XX Γ 8 (VC nh) ad (vl ad μ) 0 0 57 [(0, .ref (ad (0, 0, 0))), (1, .int (I c)), (2, .int (I g)), (3, .int (I part)), (4, .ref (ad (4, 0, c))), (5, .int (I z)), (6, .int (I (cntP (fun m => LW S T c g (T (4 * g)) (fun k => T (4 * g + 1 + k)) (wx (T (18 + 10 * c)) (p2 m))) n))), (7, .int (I n))] [] := by
    intro hcc z hz N
    have hgg := hR0.gate hI (g := g) (by omega)
    have hwk : μ (4, 0, c) 3 = T (18 + 10 * c) := (hR0.2.1 c (by omega) (by omega)).2.2.2.1
    have hwr := (hI.2.1 c (by omega) (by omega)).2.2.1
    obtain ⟨g0, g1⟩ := hR0.1 g (by omega) (by omega)
    induction N with
    | zero => intro n a1 a2; omega
    | succ N ih =>
      intro n a1 a2
      have hcr := cntP_rg (fun m => LW S T c g (T (4 * g)) (fun k => T (4 * g + 1 + k)) (wx (T (18 + 10 * c)) (p2 m))) n
      have hgi := (hI.1 g (by omega) (by omega)).1
      refine x_iload (i := 7) (pc := 57) F dX7_odds_57 rfl ?_
      refine x_bipush (pc := 59) F dX7_odds_59 (by decide) ?_
      refine x_icmp_ge (tgt := 100) (pc := 61) F dX7_odds_61 rfl (by omega) (fun h61 => ?_) (fun h61 => ?_)
      · refine x_iload (i := 6) (pc := 100) F dX7_odds_100 rfl ?_
        refine x_bipush (pc := 102) F dX7_odds_102 (by decide) ?_
        refine x_iload_n (i := 3) (pc := 104) F dX7_odds_104 rfl rfl ?_
        refine x_S3l (pc := 105) F dX7_odds_105 lk_X7_274 rfl (c_X7_lowest _ _ _ _ (by omega) (by omega) (by omega)) rfl rfl rfl ?_
        rintro _ _ ⟨rfl, rfl⟩
        refine tq_retl (pc := 108) F dX7_odds_108 ?_ rfl rfl rfl
        exact ⟨by unfold oddsZ; rw [if_pos hcc, show n = 12 by omega], rfl⟩
      · have hp2 := p2_rg (k := n) (by omega)
        refine x_aload_n (i := 0) (pc := 64) F dX7_odds_64 rfl rfl ?_
        refine gf_X7_62 (pc := 65) F dX7_odds_65 (v_0 (by omega)) ?_
        refine gf_X7_135 (pc := 68) F dX7_odds_68 (v_1 (by omega)) ?_
        refine x_iload_n (i := 2) (pc := 71) F dX7_odds_71 rfl rfl ?_
        refine tq_ga (pc := 72) F dX7_odds_72 (v_10 (by omega)) (by omega) ?_
        refine x_aload (i := 4) (pc := 73) F dX7_odds_73 rfl ?_
        refine gf_X7_120 (pc := 75) F dX7_odds_75 (v_4 (by omega)) ?_
        rw [hwk]
        refine x_iconst (pc := 78) F dX7_odds_78 ?_
        refine x_iload (i := 7) (pc := 79) F dX7_odds_79 rfl ?_
        refine tq_ishl (pc := 81) F dX7_odds_81 (by omega) ?_
        refine tq_ixor (pc := 82) F dX7_odds_82 (by omega) ?_
        have hx := wx_rg (a := T (18 + 10 * c)) (b := p2 n) (by omega)
        refine x_iload (i := 5) (pc := 83) F dX7_odds_83 rfl ?_
        refine x_V2z (ci := 1) (pc := 85) F dX7_odds_85 lk_X7_229 rfl (v_2 (by omega)) rfl rfl (c_X1_knowsAlike _ z (by omega) hgg.1 hgg.2 (by omega) ⟨hz.1, hz.2.1⟩) rfl rfl rfl ?_
        rintro b _ ⟨hb, rfl⟩
        rw [LW_kn hz, g0, LW_c (G' := fun k => T (4 * g + 1 + k)) (fun k a b => g1 k a (by omega))] at hb
        refine x_if_eqB (tgt := 94) (pc := 88) F dX7_odds_88 rfl (fun h88 => ?_) (fun h88 => ?_)
        · try simp only [decide_eq_true_eq, decide_eq_false_iff_not, Bool.and_eq_true, Bool.or_eq_true, Bool.not_eq_true', Bool.not_eq_false', Bool.and_eq_false_iff, Bool.or_eq_false_iff] at h88
          refine x_iinc (pc := 94) F dX7_odds_94 rfl rfl ?_
          refine x_goto (tgt := 57) (pc := 97) F dX7_odds_97 rfl ?_
          refine x_sub (L' := [(0, .ref (ad (0, 0, 0))), (1, .int (I c)), (2, .int (I g)), (3, .int (I part)), (4, .ref (ad (4, 0, c))), (5, .int (I z)), (6, .int (I (cntP (fun m => LW S T c g (T (4 * g)) (fun k => T (4 * g + 1 + k)) (wx (T (18 + 10 * c)) (p2 m))) (n + 1)))), (7, .int (I ((n + 1 : Nat) : Int)))]) ⟨rfl, rfl, rfl, rfl, rfl, rfl, lk_i rfl ?_, rfl, trivial⟩ (ih (n + 1) (by omega) (by omega))
          simp only [cntP]
          first | (rw [pI_t (hb.mp h88)]; done) | (rw [pI_f (fun z => by have := hb.mpr z; rw [h88] at this; cases this)]; omega)
        · try simp only [decide_eq_true_eq, decide_eq_false_iff_not, Bool.and_eq_true, Bool.or_eq_true, Bool.not_eq_true', Bool.not_eq_false', Bool.and_eq_false_iff, Bool.or_eq_false_iff] at h88
          refine x_iinc (pc := 91) F dX7_odds_91 rfl rfl ?_
          refine x_iinc (pc := 94) F dX7_odds_94 rfl rfl ?_
          refine x_goto (tgt := 57) (pc := 97) F dX7_odds_97 rfl ?_
          refine x_sub (L' := [(0, .ref (ad (0, 0, 0))), (1, .int (I c)), (2, .int (I g)), (3, .int (I part)), (4, .ref (ad (4, 0, c))), (5, .int (I z)), (6, .int (I (cntP (fun m => LW S T c g (T (4 * g)) (fun k => T (4 * g + 1 + k)) (wx (T (18 + 10 * c)) (p2 m))) (n + 1)))), (7, .int (I ((n + 1 : Nat) : Int)))]) ⟨rfl, rfl, rfl, rfl, rfl, rfl, lk_i rfl ?_, rfl, trivial⟩ (ih (n + 1) (by omega) (by omega))
          simp only [cntP]
          first | (rw [pI_t (hb.mp h88)]; done) | (rw [pI_f (fun z => by have := hb.mpr z; rw [h88] at this; cases this)]; omega)
  refine x_aload_n (i := 0) (pc := 0) F dX7_odds_0 rfl rfl ?_
  refine x_iload_n (i := 1) (pc := 1) F dX7_odds_1 rfl rfl ?_
  refine x_V1z (ci := 7) (pc := 2) F dX7_odds_2 lk_X7_102 rfl (v_0 (by omega)) rfl rfl (c_X7_isComer _ (by omega) hR0 hI) rfl rfl rfl ?_
  rintro _ _ ⟨rfl, rfl⟩
  refine x_if_eqB (tgt := 24) (pc := 5) F dX7_odds_5 rfl (fun h5 => ?_) (fun h5 => ?_)
  · try simp only [decide_eq_true_eq, decide_eq_false_iff_not, Bool.and_eq_true, Bool.or_eq_true, Bool.not_eq_true', Bool.not_eq_false', Bool.and_eq_false_iff, Bool.or_eq_false_iff] at h5
    refine x_ldc2 (z := -9223372036854775808) (pc := 24) F dX7_odds_24 kw_700 rfl ?_
    refine tq_retl (pc := 27) F dX7_odds_27 ?_ rfl rfl rfl
    exact ⟨by unfold oddsZ; rw [if_neg (by omega)], rfl⟩
  · try simp only [decide_eq_true_eq, decide_eq_false_iff_not, Bool.and_eq_true, Bool.or_eq_true, Bool.not_eq_true', Bool.not_eq_false', Bool.and_eq_false_iff, Bool.or_eq_false_iff] at h5
    refine x_iload_n (i := 2) (pc := 8) F dX7_odds_8 rfl rfl ?_
    refine x_iconst (pc := 9) F dX7_odds_9 ?_
    refine x_S2z (pc := 10) F dX7_odds_10 lk_X7_83 rfl (c_isInW _ _ _ (by omega)) rfl rfl rfl ?_
    rintro _ _ ⟨rfl, rfl⟩
    refine x_if_eqB (tgt := 24) (pc := 13) F dX7_odds_13 rfl (fun h13 => ?_) (fun h13 => ?_)
    · try simp only [decide_eq_true_eq, decide_eq_false_iff_not, Bool.and_eq_true, Bool.or_eq_true, Bool.not_eq_true', Bool.not_eq_false', Bool.and_eq_false_iff, Bool.or_eq_false_iff] at h13
      refine x_ldc2 (z := -9223372036854775808) (pc := 24) F dX7_odds_24 kw_700 rfl ?_
      refine tq_retl (pc := 27) F dX7_odds_27 ?_ rfl rfl rfl
      exact ⟨by unfold oddsZ; rw [if_neg (by omega)], rfl⟩
    · try simp only [decide_eq_true_eq, decide_eq_false_iff_not, Bool.and_eq_true, Bool.or_eq_true, Bool.not_eq_true', Bool.not_eq_false', Bool.and_eq_false_iff, Bool.or_eq_false_iff] at h13
      refine x_iload_n (i := 3) (pc := 16) F dX7_odds_16 rfl rfl ?_
      refine x_iconst (pc := 17) F dX7_odds_17 ?_
      refine x_S2z (pc := 18) F dX7_odds_18 lk_X7_83 rfl (c_isInW _ _ _ (by omega)) rfl rfl rfl ?_
      rintro _ _ ⟨rfl, rfl⟩
      refine x_if_neB (tgt := 28) (pc := 21) F dX7_odds_21 rfl (fun h21 => ?_) (fun h21 => ?_)
      · try simp only [decide_eq_true_eq, decide_eq_false_iff_not, Bool.and_eq_true, Bool.or_eq_true, Bool.not_eq_true', Bool.not_eq_false', Bool.and_eq_false_iff, Bool.or_eq_false_iff] at h21
        refine x_aload_n (i := 0) (pc := 28) F dX7_odds_28 rfl rfl ?_
        refine gf_X7_62 (pc := 29) F dX7_odds_29 (v_0 (by omega)) ?_
        refine gf_X7_94 (pc := 32) F dX7_odds_32 (v_1 (by omega)) ?_
        refine x_iload_n (i := 1) (pc := 35) F dX7_odds_35 rfl rfl ?_
        refine tq_pa (pc := 36) F dX7_odds_36 (v_11 (by omega)) (by omega) ?_
        refine x_astore (i := 4) (pc := 37) F dX7_odds_37 rfl ?_
        refine x_aload_n (i := 0) (pc := 39) F dX7_odds_39 rfl rfl ?_
        refine gf_X7_62 (pc := 40) F dX7_odds_40 (v_0 (by omega)) ?_
        refine x_aload (i := 4) (pc := 43) F dX7_odds_43 rfl ?_
        refine x_iload_n (i := 2) (pc := 45) F dX7_odds_45 rfl rfl ?_
        refine x_V2i (ci := 6) (pc := 46) F dX7_odds_46 lk_X7_202 rfl (v_1 (by omega)) rfl rfl (c_X6_marksNeeded (hR0.town hI hH (by omega) (by omega)) (hR0.comer hI (by omega) (by omega) (by omega)) (by omega)) rfl rfl rfl ?_
        rintro z _ ⟨hmn, rfl⟩
        refine x_istore (i := 5) (pc := 49) F dX7_odds_49 rfl ?_
        refine x_iconst (pc := 51) F dX7_odds_51 ?_
        refine x_istore (i := 6) (pc := 52) F dX7_odds_52 rfl ?_
        refine x_iconst (pc := 54) F dX7_odds_54 ?_
        refine x_istore (i := 7) (pc := 55) F dX7_odds_55 rfl ?_
        exact x_sub (L' := [(0, .ref (ad (0, 0, 0))), (1, .int (I c)), (2, .int (I g)), (3, .int (I part)), (4, .ref (ad (4, 0, c))), (5, .int (I z)), (6, .int (I (cntP (fun m => LW S T c g (T (4 * g)) (fun k => T (4 * g + 1 + k)) (wx (T (18 + 10 * c)) (p2 m))) 0))), (7, .int (I ((0 : Nat) : Int)))]) ⟨rfl, rfl, rfl, rfl, rfl, rfl, rfl, rfl, trivial⟩ (loop (by omega) z (mnT_of hmn hR0 hH (by omega) (by omega)) 13 0 (by omega) (by omega))
      · try simp only [decide_eq_true_eq, decide_eq_false_iff_not, Bool.and_eq_true, Bool.or_eq_true, Bool.not_eq_true', Bool.not_eq_false', Bool.and_eq_false_iff, Bool.or_eq_false_iff] at h21
        refine x_ldc2 (z := -9223372036854775808) (pc := 24) F dX7_odds_24 kw_700 rfl ?_
        refine tq_retl (pc := 27) F dX7_odds_27 ?_ rfl rfl rfl
        exact ⟨by unfold oddsZ; rw [if_neg (by omega)], rfl⟩
set_option maxRecDepth 20000 in
theorem c_X7_feign (c g part : Int) (hc : -2147483648 ≤ c ∧ c < 2147483648) (hg : -2147483648 ≤ g ∧ g < 2147483648) (hp : -2147483648 ≤ part ∧ part < 2147483648) (hR0 : TR μ 0 T) (hI : TI T) (hH : HRel μ nh (T 78) S) (hd : T 77 ≤ 9999) (l : Launch) (E : Ev) (A : Nat → Prop) : Con l E 5 m_X7_feign A (VC nh) ad μ [.ref (ad (0, 0, 0)), .int (I c), .int (I g), .int (I part)] (pi fun z μ' => z = feignZ S T c g part ∧ μ = μ') := by
  have h76 := hI.2.2.1
  refine con (own := RX7) (by decide +kernel) rfl rfl rfl (fun Γ F => ?_)
  have loop : ((0 ≤ c ∧ c < T 76) ∧ (0 ≤ g ∧ g < 4) ∧ 0 ≤ part ∧ part < 2) → ∀ (z : Int), mnT S T c g z → ∀ (N : Nat) (n : Nat), 4096 - (n : Int) < N → n ≤ 4096 → XX Γ 10 (VC nh) ad (vl ad μ) 0 0 60 [(0, .ref (ad (0, 0, 0))), (1, .int (I c)), (2, .int (I g)), (3, .int (I part)), (4, .ref (ad (4, 0, c))), (5, .int (I z)), (6, .int (I (feL (fun w => LW S T c g (T (4 * g)) (fun k => T (4 * g + 1 + k)) w) (T (18 + 10 * c)) n).1)), (7, .int (I (feL (fun w => LW S T c g (T (4 * g)) (fun k => T (4 * g + 1 + k)) w) (T (18 + 10 * c)) n).2)), (8, .int (I n))] [] := by
    intro hcc z hz N
    have hgg := hR0.gate hI (g := g) (by omega)
    have hwk : μ (4, 0, c) 3 = T (18 + 10 * c) := (hR0.2.1 c (by omega) (by omega)).2.2.2.1
    have hwr := (hI.2.1 c (by omega) (by omega)).2.2.1
    obtain ⟨g0, g1⟩ := hR0.1 g (by omega) (by omega)
    have hgi := (hI.1 g (by omega) (by omega)).1
    induction N with
    | zero => intro n a1 a2; omega
    | succ N ih =>
      intro n a1 a2
      have hfr := feL_rg (Lw := fun w => LW S T c g (T (4 * g)) (fun k => T (4 * g + 1 + k)) w) (w0 := T (18 + 10 * c)) n
      have ft := feL_t (Lw := fun w => LW S T c g (T (4 * g)) (fun k => T (4 * g + 1 + k)) w) (w0 := T (18 + 10 * c)) (n := n)
      have ff := feL_f (Lw := fun w => LW S T c g (T (4 * g)) (fun k => T (4 * g + 1 + k)) w) (w0 := T (18 + 10 * c)) (n := n)
      have hpr := pop_rg (wx (T (18 + 10 * c)) n)
      have hak : 12 - alk (T (18 + 10 * c)) n = pop (wx (T (18 + 10 * c)) n) := by unfold alk; omega
      have hend : n = 4096 → feL (fun w => LW S T c g (T (4 * g)) (fun k => T (4 * g + 1 + k)) w) (T (18 + 10 * c)) n = feT S T c g := fun h => by unfold feT; rw [h]
      generalize hs : feL (fun w => LW S T c g (T (4 * g)) (fun k => T (4 * g + 1 + k)) w) (T (18 + 10 * c)) n = s at hfr ft ff hend ⊢
      refine x_iload (i := 8) (pc := 60) F dX7_feign_60 rfl ?_
      refine x_sipush (pc := 62) F dX7_feign_62 (by decide) ?_
      refine x_icmp_ge (tgt := 123) (pc := 65) F dX7_feign_65 rfl (by omega) (fun h65 => ?_) (fun h65 => ?_)
      · refine x_iload (i := 7) (pc := 123) F dX7_feign_123 rfl ?_
        refine x_bipush (pc := 125) F dX7_feign_125 (by decide) ?_
        refine x_icmp_eq (tgt := 135) (pc := 127) F dX7_feign_127 rfl (by omega) (fun h127 => ?_) (fun h127 => ?_)
        · refine x_iload (i := 7) (pc := 135) F dX7_feign_135 rfl ?_
          refine x_goto (tgt := 142) (pc := 137) F dX7_feign_137 rfl ?_
          refine tq_reti (pc := 142) F dX7_feign_142 ?_ rfl rfl rfl
          have hq := hend (by omega)
          refine ⟨?_, rfl⟩
          unfold feignZ; rw [if_pos hcc, ← hq]
          first | (rw [if_pos (by omega)]; omega) | (rw [if_neg (by omega), if_pos (by omega)]; done) | (rw [if_neg (by omega), if_neg (by omega)]; done)
        · refine x_iload_n (i := 3) (pc := 130) F dX7_feign_130 rfl rfl ?_
          refine x_iconst (pc := 131) F dX7_feign_131 ?_
          refine x_icmp_ne (tgt := 140) (pc := 132) F dX7_feign_132 rfl (by omega) (fun h132 => ?_) (fun h132 => ?_)
          · refine x_iload (i := 6) (pc := 140) F dX7_feign_140 rfl ?_
            refine tq_reti (pc := 142) F dX7_feign_142 ?_ rfl rfl rfl
            have hq := hend (by omega)
            refine ⟨?_, rfl⟩
            unfold feignZ; rw [if_pos hcc, ← hq]
            first | (rw [if_pos (by omega)]; omega) | (rw [if_neg (by omega), if_pos (by omega)]; done) | (rw [if_neg (by omega), if_neg (by omega)]; done)
          · refine x_iload (i := 7) (pc := 135) F dX7_feign_135 rfl ?_
            refine x_goto (tgt := 142) (pc := 137) F dX7_feign_137 rfl ?_
            refine tq_reti (pc := 142) F dX7_feign_142 ?_ rfl rfl rfl
            have hq := hend (by omega)
            refine ⟨?_, rfl⟩
            unfold feignZ; rw [if_pos hcc, ← hq]
            first | (rw [if_pos (by omega)]; omega) | (rw [if_neg (by omega), if_pos (by omega)]; done) | (rw [if_neg (by omega), if_neg (by omega)]; done)
      · refine x_bipush (pc := 68) F dX7_feign_68 (by decide) ?_
        refine x_aload (i := 4) (pc := 70) F dX7_feign_70 rfl ?_
        refine gf_X7_120 (pc := 72) F dX7_feign_72 (v_4 (by omega)) ?_
        rw [hwk]
        refine x_iload (i := 8) (pc := 75) F dX7_feign_75 rfl ?_
        refine x_S2i (pc := 77) F dX7_feign_77 lk_X7_208 rfl (c_X7_alike _ _ (by omega)) rfl rfl rfl ?_
        rintro _ _ ⟨rfl, rfl⟩
        refine x_isub (pc := 80) F dX7_feign_80 ?_
        rw [hak]
        refine x_istore (i := 9) (pc := 81) F dX7_feign_81 rfl ?_
        refine x_iload (i := 9) (pc := 83) F dX7_feign_83 rfl ?_
        refine x_iload (i := 6) (pc := 85) F dX7_feign_85 rfl ?_
        refine x_icmp_ge (tgt := 117) (pc := 87) F dX7_feign_87 rfl (by omega) (fun h87 => ?_) (fun h87 => ?_)
        · refine x_iinc (pc := 117) F dX7_feign_117 rfl rfl ?_
          refine x_goto (tgt := 60) (pc := 120) F dX7_feign_120 rfl ?_
          refine x_sub (L' := [(0, .ref (ad (0, 0, 0))), (1, .int (I c)), (2, .int (I g)), (3, .int (I part)), (4, .ref (ad (4, 0, c))), (5, .int (I z)), (6, .int (I (feL (fun w => LW S T c g (T (4 * g)) (fun k => T (4 * g + 1 + k)) w) (T (18 + 10 * c)) (n + 1)).1)), (7, .int (I (feL (fun w => LW S T c g (T (4 * g)) (fun k => T (4 * g + 1 + k)) w) (T (18 + 10 * c)) (n + 1)).2)), (8, .int (I ((n + 1 : Nat) : Int)))]) ⟨rfl, rfl, rfl, rfl, rfl, rfl, lk_i rfl ?_, lk_i rfl ?_, rfl, trivial⟩ (ih (n + 1) (by omega) (by omega))
          all_goals first | (rw [ft ⟨by omega, hb.mp h106⟩]; done) | (rw [ff (fun q => by omega)]; done) | (rw [ff (fun q => by have := hb.mpr q.2; rw [h106] at this; cases this)]; done)
        · refine x_aload_n (i := 0) (pc := 90) F dX7_feign_90 rfl rfl ?_
          refine gf_X7_62 (pc := 91) F dX7_feign_91 (v_0 (by omega)) ?_
          refine gf_X7_135 (pc := 94) F dX7_feign_94 (v_1 (by omega)) ?_
          refine x_iload_n (i := 2) (pc := 97) F dX7_feign_97 rfl rfl ?_
          refine tq_ga (pc := 98) F dX7_feign_98 (v_10 (by omega)) (by omega) ?_
          refine x_iload (i := 8) (pc := 99) F dX7_feign_99 rfl ?_
          refine x_iload (i := 5) (pc := 101) F dX7_feign_101 rfl ?_
          refine x_V2z (ci := 1) (pc := 103) F dX7_feign_103 lk_X7_229 rfl (v_2 (by omega)) rfl rfl (c_X1_knowsAlike _ z (by omega) hgg.1 hgg.2 (by omega) ⟨hz.1, hz.2.1⟩) rfl rfl rfl ?_
          rintro b _ ⟨hb, rfl⟩
          rw [LW_kn hz, g0, LW_c (G' := fun k => T (4 * g + 1 + k)) (fun k a b => g1 k a (by omega))] at hb
          refine x_if_eqB (tgt := 117) (pc := 106) F dX7_feign_106 rfl (fun h106 => ?_) (fun h106 => ?_)
          · try simp only [decide_eq_true_eq, decide_eq_false_iff_not, Bool.and_eq_true, Bool.or_eq_true, Bool.not_eq_true', Bool.not_eq_false', Bool.and_eq_false_iff, Bool.or_eq_false_iff] at h106
            refine x_iinc (pc := 117) F dX7_feign_117 rfl rfl ?_
            refine x_goto (tgt := 60) (pc := 120) F dX7_feign_120 rfl ?_
            refine x_sub (L' := [(0, .ref (ad (0, 0, 0))), (1, .int (I c)), (2, .int (I g)), (3, .int (I part)), (4, .ref (ad (4, 0, c))), (5, .int (I z)), (6, .int (I (feL (fun w => LW S T c g (T (4 * g)) (fun k => T (4 * g + 1 + k)) w) (T (18 + 10 * c)) (n + 1)).1)), (7, .int (I (feL (fun w => LW S T c g (T (4 * g)) (fun k => T (4 * g + 1 + k)) w) (T (18 + 10 * c)) (n + 1)).2)), (8, .int (I ((n + 1 : Nat) : Int)))]) ⟨rfl, rfl, rfl, rfl, rfl, rfl, lk_i rfl ?_, lk_i rfl ?_, rfl, trivial⟩ (ih (n + 1) (by omega) (by omega))
            all_goals first | (rw [ft ⟨by omega, hb.mp h106⟩]; done) | (rw [ff (fun q => by omega)]; done) | (rw [ff (fun q => by have := hb.mpr q.2; rw [h106] at this; cases this)]; done)
          · try simp only [decide_eq_true_eq, decide_eq_false_iff_not, Bool.and_eq_true, Bool.or_eq_true, Bool.not_eq_true', Bool.not_eq_false', Bool.and_eq_false_iff, Bool.or_eq_false_iff] at h106
            refine x_iload (i := 9) (pc := 109) F dX7_feign_109 rfl ?_
            refine x_istore (i := 6) (pc := 111) F dX7_feign_111 rfl ?_
            refine x_iload (i := 8) (pc := 113) F dX7_feign_113 rfl ?_
            refine x_istore (i := 7) (pc := 115) F dX7_feign_115 rfl ?_
            refine x_iinc (pc := 117) F dX7_feign_117 rfl rfl ?_
            refine x_goto (tgt := 60) (pc := 120) F dX7_feign_120 rfl ?_
            refine x_sub (L' := [(0, .ref (ad (0, 0, 0))), (1, .int (I c)), (2, .int (I g)), (3, .int (I part)), (4, .ref (ad (4, 0, c))), (5, .int (I z)), (6, .int (I (feL (fun w => LW S T c g (T (4 * g)) (fun k => T (4 * g + 1 + k)) w) (T (18 + 10 * c)) (n + 1)).1)), (7, .int (I (feL (fun w => LW S T c g (T (4 * g)) (fun k => T (4 * g + 1 + k)) w) (T (18 + 10 * c)) (n + 1)).2)), (8, .int (I ((n + 1 : Nat) : Int)))]) ⟨rfl, rfl, rfl, rfl, rfl, rfl, lk_i rfl ?_, lk_i rfl ?_, rfl, trivial⟩ (ih (n + 1) (by omega) (by omega))
            all_goals first | (rw [ft ⟨by omega, hb.mp h106⟩]; done) | (rw [ff (fun q => by omega)]; done) | (rw [ff (fun q => by have := hb.mpr q.2; rw [h106] at this; cases this)]; done)
  refine x_aload_n (i := 0) (pc := 0) F dX7_feign_0 rfl rfl ?_
  refine x_iload_n (i := 1) (pc := 1) F dX7_feign_1 rfl rfl ?_
  refine x_V1z (ci := 7) (pc := 2) F dX7_feign_2 lk_X7_102 rfl (v_0 (by omega)) rfl rfl (c_X7_isComer _ (by omega) hR0 hI) rfl rfl rfl ?_
  rintro _ _ ⟨rfl, rfl⟩
  refine x_if_eqB (tgt := 24) (pc := 5) F dX7_feign_5 rfl (fun h5 => ?_) (fun h5 => ?_)
  · try simp only [decide_eq_true_eq, decide_eq_false_iff_not, Bool.and_eq_true, Bool.or_eq_true, Bool.not_eq_true', Bool.not_eq_false', Bool.and_eq_false_iff, Bool.or_eq_false_iff] at h5
    refine x_iconst (pc := 24) F dX7_feign_24 ?_
    refine tq_reti (pc := 25) F dX7_feign_25 ?_ rfl rfl rfl
    exact ⟨by unfold feignZ; rw [if_neg (by omega)], rfl⟩
  · try simp only [decide_eq_true_eq, decide_eq_false_iff_not, Bool.and_eq_true, Bool.or_eq_true, Bool.not_eq_true', Bool.not_eq_false', Bool.and_eq_false_iff, Bool.or_eq_false_iff] at h5
    refine x_iload_n (i := 2) (pc := 8) F dX7_feign_8 rfl rfl ?_
    refine x_iconst (pc := 9) F dX7_feign_9 ?_
    refine x_S2z (pc := 10) F dX7_feign_10 lk_X7_83 rfl (c_isInW _ _ _ (by omega)) rfl rfl rfl ?_
    rintro _ _ ⟨rfl, rfl⟩
    refine x_if_eqB (tgt := 24) (pc := 13) F dX7_feign_13 rfl (fun h13 => ?_) (fun h13 => ?_)
    · try simp only [decide_eq_true_eq, decide_eq_false_iff_not, Bool.and_eq_true, Bool.or_eq_true, Bool.not_eq_true', Bool.not_eq_false', Bool.and_eq_false_iff, Bool.or_eq_false_iff] at h13
      refine x_iconst (pc := 24) F dX7_feign_24 ?_
      refine tq_reti (pc := 25) F dX7_feign_25 ?_ rfl rfl rfl
      exact ⟨by unfold feignZ; rw [if_neg (by omega)], rfl⟩
    · try simp only [decide_eq_true_eq, decide_eq_false_iff_not, Bool.and_eq_true, Bool.or_eq_true, Bool.not_eq_true', Bool.not_eq_false', Bool.and_eq_false_iff, Bool.or_eq_false_iff] at h13
      refine x_iload_n (i := 3) (pc := 16) F dX7_feign_16 rfl rfl ?_
      refine x_iconst (pc := 17) F dX7_feign_17 ?_
      refine x_S2z (pc := 18) F dX7_feign_18 lk_X7_83 rfl (c_isInW _ _ _ (by omega)) rfl rfl rfl ?_
      rintro _ _ ⟨rfl, rfl⟩
      refine x_if_neB (tgt := 26) (pc := 21) F dX7_feign_21 rfl (fun h21 => ?_) (fun h21 => ?_)
      · try simp only [decide_eq_true_eq, decide_eq_false_iff_not, Bool.and_eq_true, Bool.or_eq_true, Bool.not_eq_true', Bool.not_eq_false', Bool.and_eq_false_iff, Bool.or_eq_false_iff] at h21
        refine x_aload_n (i := 0) (pc := 26) F dX7_feign_26 rfl rfl ?_
        refine gf_X7_62 (pc := 27) F dX7_feign_27 (v_0 (by omega)) ?_
        refine gf_X7_94 (pc := 30) F dX7_feign_30 (v_1 (by omega)) ?_
        refine x_iload_n (i := 1) (pc := 33) F dX7_feign_33 rfl rfl ?_
        refine tq_pa (pc := 34) F dX7_feign_34 (v_11 (by omega)) (by omega) ?_
        refine x_astore (i := 4) (pc := 35) F dX7_feign_35 rfl ?_
        refine x_aload_n (i := 0) (pc := 37) F dX7_feign_37 rfl rfl ?_
        refine gf_X7_62 (pc := 38) F dX7_feign_38 (v_0 (by omega)) ?_
        refine x_aload (i := 4) (pc := 41) F dX7_feign_41 rfl ?_
        refine x_iload_n (i := 2) (pc := 43) F dX7_feign_43 rfl rfl ?_
        refine x_V2i (ci := 6) (pc := 44) F dX7_feign_44 lk_X7_202 rfl (v_1 (by omega)) rfl rfl (c_X6_marksNeeded (hR0.town hI hH (by omega) (by omega)) (hR0.comer hI (by omega) (by omega) (by omega)) (by omega)) rfl rfl rfl ?_
        rintro z _ ⟨hmn, rfl⟩
        refine x_istore (i := 5) (pc := 47) F dX7_feign_47 rfl ?_
        refine x_bipush (pc := 49) F dX7_feign_49 (by decide) ?_
        refine x_istore (i := 6) (pc := 51) F dX7_feign_51 rfl ?_
        refine x_bipush (pc := 53) F dX7_feign_53 (by decide) ?_
        refine x_istore (i := 7) (pc := 55) F dX7_feign_55 rfl ?_
        refine x_iconst (pc := 57) F dX7_feign_57 ?_
        refine x_istore (i := 8) (pc := 58) F dX7_feign_58 rfl ?_
        exact x_sub (L' := [(0, .ref (ad (0, 0, 0))), (1, .int (I c)), (2, .int (I g)), (3, .int (I part)), (4, .ref (ad (4, 0, c))), (5, .int (I z)), (6, .int (I (feL (fun w => LW S T c g (T (4 * g)) (fun k => T (4 * g + 1 + k)) w) (T (18 + 10 * c)) 0).1)), (7, .int (I (feL (fun w => LW S T c g (T (4 * g)) (fun k => T (4 * g + 1 + k)) w) (T (18 + 10 * c)) 0).2)), (8, .int (I ((0 : Nat) : Int)))]) ⟨rfl, rfl, rfl, rfl, rfl, rfl, rfl, rfl, rfl, trivial⟩ (loop (by omega) z (mnT_of hmn hR0 hH (by omega) (by omega)) 4097 0 (by omega) (by omega))
      · try simp only [decide_eq_true_eq, decide_eq_false_iff_not, Bool.and_eq_true, Bool.or_eq_true, Bool.not_eq_true', Bool.not_eq_false', Bool.and_eq_false_iff, Bool.or_eq_false_iff] at h21
        refine x_iconst (pc := 24) F dX7_feign_24 ?_
        refine tq_reti (pc := 25) F dX7_feign_25 ?_ rfl rfl rfl
        exact ⟨by unfold feignZ; rw [if_neg (by omega)], rfl⟩
end CLS4
