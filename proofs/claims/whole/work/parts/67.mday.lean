/-! ===== the reference: who is let, days ===== -/
theorem kI_rg {T : Tn} {g k : Int} (hJ : TJ T) (hg : 0 ≤ g ∧ g < 4) (hk : 0 ≤ k ∧ k < 3) : 0 ≤ T (4 * g + 1 + k) ∧ T (4 * g + 1 + k) < 4096 := (hJ.1 g hg.1 hg.2).2 k hk.1 hk.2
theorem lkT_rg {S : Hs} {T : Tn} {i g w : Int} (hJ : TJ T) (hS : SB S) (hi : 0 ≤ i ∧ i < 6) (hg : 0 ≤ g ∧ g < 4) : -20000 ≤ lkT S T i g w ∧ lkT S T i g w ≤ 20000 := by
  obtain ⟨j1, j2, j3, j4, j5⟩ := hJ
  obtain ⟨k1, k2, k3, k4, k5, k6⟩ := j2 i hi.1 hi.2
  have k6g := k6 g hg.1 hg.2
  have hal := alk_rg w (T (18 + 10 * i))
  have hb := hS.1 (vsT T i g)
  have ht := Int.natAbs_tdiv_le_natAbs (alk w (T (18 + 10 * i)) + S.1 (vsT T i g)) 2
  unfold lkT lbT lbS
  (repeat' split) <;> omega
section MLT
variable {ad : Ob → Nat} {μ : Me} {T : Tn} {S : Hs} {i g : Int}
set_option maxRecDepth 20000 in
theorem c_X8_lets (hE : MEn μ T S) (hJ : TJ T) (hS : SB S) (hi : 0 ≤ i ∧ i < 6) (hg : 0 ≤ g ∧ g < 4) (l : Launch) (E : Ev) (A : Nat → Prop) : Con l E 22 m_X8_lets A VM ad μ [.ref (ad (30, 0, 0)), .int (I i), .int (I g)] (pz fun z μ' => (z = true ↔ LTg S T i g) ∧ FH μ μ') := by
  have hkn := (hJ.1 g hg.1 hg.2).1
  have hnr := hS.2.1
  refine con (own := RX8) (by decide +kernel) rfl rfl rfl (fun Γ F => ?_)
  have loop : ∀ (N k : Nat) (b : Bool) (μ1 : Me), T (4 * g) - k < N → k ≤ T (4 * g) → FH μ μ1 → μ1 (30, 0, 0) 15 = S.2.1 → (b = true ↔ ∃ j, 0 ≤ j ∧ j < (k : Int) ∧ S.2.1 ≤ lkT S T i g (T (4 * g + 1 + j))) → XX Γ 6 VM ad (vl ad μ1) 0 0 13 [(0, .ref (ad (30, 0, 0))), (1, .int (I i)), (2, .int (I g)), (3, .int (I (S.1 (vsT T i g)))), (4, .int (I (bI b))), (5, .int (I k))] [] := by
    intro N
    induction N with
    | zero => intro k b μ1 b1; omega
    | succ N ih =>
      intro k b μ1 b1 b2 b3 b4 b5
      have hT1 := hE.1.fh b3
      have hx : ∀ q : Prop, (q ↔ S.2.1 ≤ lkT S T i g (T (4 * g + 1 + k))) → ((b = true ∨ q) ↔ ∃ j, 0 ≤ j ∧ j < ((k + 1 : Nat) : Int) ∧ S.2.1 ≤ lkT S T i g (T (4 * g + 1 + j))) := fun q hq => by
        rw [b5, hq]
        constructor
        · rintro (⟨j, a, a2, a3⟩ | h)
          · exact ⟨j, a, by omega, a3⟩
          · exact ⟨k, by omega, by omega, h⟩
        · rintro ⟨j, a, a2, a3⟩
          by_cases e : j = k
          · right; rw [e] at a3; exact a3
          · left; exact ⟨j, a, by omega, a3⟩
      refine x_iload (i := 5) (pc := 13) F dX8_lets_13 rfl ?_
      refine x_aload_n (i := 0) (pc := 15) F dX8_lets_15 rfl rfl ?_
      refine x_iload_n (i := 2) (pc := 16) F dX8_lets_16 rfl rfl ?_
      refine x_V1i (ci := 8) (pc := 17) F dX8_lets_17 lk_X8_108 rfl (vm_ok rfl) rfl rfl (c_X8_known hT1 g hg) rfl rfl rfl ?_
      rintro _ _ ⟨rfl, rfl⟩
      refine x_icmp_ge (tgt := 62) (pc := 20) F dX8_lets_20 rfl (by omega) (fun h20 => ?_) (fun h20 => ?_)
      · refine x_iload (i := 4) (pc := 62) F dX8_lets_62 rfl ?_
        refine tq_retz (pc := 64) F dX8_lets_64 ?_ rfl rfl rfl
        refine ⟨?_, b3⟩
        unfold LTg
        rw [show T (4 * g) = k by omega]
        exact b5
      · refine x_iload (i := 4) (pc := 23) F dX8_lets_23 rfl ?_
        refine x_if_neB (tgt := 49) (pc := 25) F dX8_lets_25 rfl (fun h25 => ?_) (fun h25 => ?_)
        · try simp only [decide_eq_true_eq, decide_eq_false_iff_not, Bool.and_eq_true, Bool.or_eq_true, Bool.not_eq_true', Bool.not_eq_false', Bool.and_eq_false_iff, Bool.or_eq_false_iff] at h25
          refine x_iconst (pc := 49) F dX8_lets_49 ?_
          refine x_goto (tgt := 54) (pc := 50) F dX8_lets_50 rfl ?_
          refine x_istore (i := 4) (pc := 54) F dX8_lets_54 rfl ?_
          refine x_iinc (pc := 56) F dX8_lets_56 rfl rfl ?_
          refine x_goto (tgt := 13) (pc := 59) F dX8_lets_59 rfl ?_
          first | (refine x_sub (L' := [(0, .ref (ad (30, 0, 0))), (1, .int (I i)), (2, .int (I g)), (3, .int (I (S.1 (vsT T i g)))), (4, .int (I (bI true))), (5, .int (I ((k + 1 : Nat) : Int)))]) ⟨rfl, rfl, rfl, rfl, rfl, rfl, trivial⟩ (ih (k + 1) true μ1 (by omega) (by omega) b3 b4 ⟨fun _ => (hx _ Iff.rfl).mp ?_, fun _ => rfl⟩); first | exact Or.inl h25 | exact Or.inr (by omega)) | exact x_sub (L' := [(0, .ref (ad (30, 0, 0))), (1, .int (I i)), (2, .int (I g)), (3, .int (I (S.1 (vsT T i g)))), (4, .int (I (bI false))), (5, .int (I ((k + 1 : Nat) : Int)))]) ⟨rfl, rfl, rfl, rfl, rfl, rfl, trivial⟩ (ih (k + 1) false μ1 (by omega) (by omega) b3 b4 ⟨fun z => (by cases z), fun z => by rcases (hx _ Iff.rfl).mpr z with q | q; (rw [h25] at q; cases q); (exfalso; omega)⟩)
        · try simp only [decide_eq_true_eq, decide_eq_false_iff_not, Bool.and_eq_true, Bool.or_eq_true, Bool.not_eq_true', Bool.not_eq_false', Bool.and_eq_false_iff, Bool.or_eq_false_iff] at h25
          have hkr := kI_rg (k := (k : Int)) hJ hg (by omega)
          have hlr := lkT_rg (w := T (4 * g + 1 + k)) hJ hS hi hg
          refine x_aload_n (i := 0) (pc := 28) F dX8_lets_28 rfl rfl ?_
          refine x_iload_n (i := 1) (pc := 29) F dX8_lets_29 rfl rfl ?_
          refine x_iload_n (i := 2) (pc := 30) F dX8_lets_30 rfl rfl ?_
          refine x_aload_n (i := 0) (pc := 31) F dX8_lets_31 rfl rfl ?_
          refine x_iload_n (i := 2) (pc := 32) F dX8_lets_32 rfl rfl ?_
          refine x_iload (i := 5) (pc := 33) F dX8_lets_33 rfl ?_
          refine x_V2i (ci := 8) (pc := 35) F dX8_lets_35 lk_X8_111 rfl (vm_ok rfl) rfl rfl (c_X8_walkAt hT1 g k (by omega)) rfl rfl rfl ?_
          rintro _ _ ⟨rfl, rfl⟩
          refine x_iload_n (i := 3) (pc := 38) F dX8_lets_38 rfl rfl ?_
          refine x_V4i (ci := 8) (pc := 39) F dX8_lets_39 lk_X8_117 rfl (vm_ok rfl) rfl rfl (c_X8_likeTo hT1 hJ hi hg _ _ hkr (hS.1 _)) rfl rfl rfl ?_
          rintro _ _ ⟨rfl, rfl⟩
          rw [show lbT T i g (alk (T (4 * g + 1 + k)) (T (18 + 10 * i)) + S.1 (vsT T i g)) = lkT S T i g (T (4 * g + 1 + k)) from rfl]
          refine x_aload_n (i := 0) (pc := 42) F dX8_lets_42 rfl rfl ?_
          refine gf_X8_164 (pc := 43) F dX8_lets_43 (vm_ok rfl) ?_
          rw [b4]
          refine x_icmp_lt (tgt := 53) (pc := 46) F dX8_lets_46 rfl (by omega) (fun h46 => ?_) (fun h46 => ?_)
          · refine x_iconst (pc := 53) F dX8_lets_53 ?_
            refine x_istore (i := 4) (pc := 54) F dX8_lets_54 rfl ?_
            refine x_iinc (pc := 56) F dX8_lets_56 rfl rfl ?_
            refine x_goto (tgt := 13) (pc := 59) F dX8_lets_59 rfl ?_
            first | (refine x_sub (L' := [(0, .ref (ad (30, 0, 0))), (1, .int (I i)), (2, .int (I g)), (3, .int (I (S.1 (vsT T i g)))), (4, .int (I (bI true))), (5, .int (I ((k + 1 : Nat) : Int)))]) ⟨rfl, rfl, rfl, rfl, rfl, rfl, trivial⟩ (ih (k + 1) true μ1 (by omega) (by omega) b3 b4 ⟨fun _ => (hx _ Iff.rfl).mp ?_, fun _ => rfl⟩); first | exact Or.inl h25 | exact Or.inr (by omega)) | exact x_sub (L' := [(0, .ref (ad (30, 0, 0))), (1, .int (I i)), (2, .int (I g)), (3, .int (I (S.1 (vsT T i g)))), (4, .int (I (bI false))), (5, .int (I ((k + 1 : Nat) : Int)))]) ⟨rfl, rfl, rfl, rfl, rfl, rfl, trivial⟩ (ih (k + 1) false μ1 (by omega) (by omega) b3 b4 ⟨fun z => (by cases z), fun z => by rcases (hx _ Iff.rfl).mpr z with q | q; (rw [h25] at q; cases q); (exfalso; omega)⟩)
          · refine x_iconst (pc := 49) F dX8_lets_49 ?_
            refine x_goto (tgt := 54) (pc := 50) F dX8_lets_50 rfl ?_
            refine x_istore (i := 4) (pc := 54) F dX8_lets_54 rfl ?_
            refine x_iinc (pc := 56) F dX8_lets_56 rfl rfl ?_
            refine x_goto (tgt := 13) (pc := 59) F dX8_lets_59 rfl ?_
            first | (refine x_sub (L' := [(0, .ref (ad (30, 0, 0))), (1, .int (I i)), (2, .int (I g)), (3, .int (I (S.1 (vsT T i g)))), (4, .int (I (bI true))), (5, .int (I ((k + 1 : Nat) : Int)))]) ⟨rfl, rfl, rfl, rfl, rfl, rfl, trivial⟩ (ih (k + 1) true μ1 (by omega) (by omega) b3 b4 ⟨fun _ => (hx _ Iff.rfl).mp ?_, fun _ => rfl⟩); first | exact Or.inl h25 | exact Or.inr (by omega)) | exact x_sub (L' := [(0, .ref (ad (30, 0, 0))), (1, .int (I i)), (2, .int (I g)), (3, .int (I (S.1 (vsT T i g)))), (4, .int (I (bI false))), (5, .int (I ((k + 1 : Nat) : Int)))]) ⟨rfl, rfl, rfl, rfl, rfl, rfl, trivial⟩ (ih (k + 1) false μ1 (by omega) (by omega) b3 b4 ⟨fun z => (by cases z), fun z => by rcases (hx _ Iff.rfl).mpr z with q | q; (rw [h25] at q; cases q); (exfalso; omega)⟩)
  refine x_aload_n (i := 0) (pc := 0) F dX8_lets_0 rfl rfl ?_
  refine x_iload_n (i := 1) (pc := 1) F dX8_lets_1 rfl rfl ?_
  refine x_iload_n (i := 2) (pc := 2) F dX8_lets_2 rfl rfl ?_
  refine x_V2i (ci := 8) (pc := 3) F dX8_lets_3 lk_X8_114 rfl (vm_ok rfl) rfl rfl (c_X8_helps hE hJ hi hg) rfl rfl rfl ?_
  rintro _ μ1 ⟨rfl, p1, p2, p3⟩
  refine x_istore_n (i := 3) (pc := 6) F dX8_lets_6 rfl rfl ?_
  refine x_iconst (pc := 7) F dX8_lets_7 ?_
  refine x_istore (i := 4) (pc := 8) F dX8_lets_8 rfl ?_
  refine x_iconst (pc := 10) F dX8_lets_10 ?_
  refine x_istore (i := 5) (pc := 11) F dX8_lets_11 rfl ?_
  exact x_sub (L' := [(0, .ref (ad (30, 0, 0))), (1, .int (I i)), (2, .int (I g)), (3, .int (I (S.1 (vsT T i g)))), (4, .int (I (bI false))), (5, .int (I ((0 : Nat) : Int)))]) ⟨rfl, rfl, rfl, rfl, rfl, rfl, trivial⟩ (loop 5 0 false μ1 (by omega) (by omega) p1 p2 ⟨fun z => (by cases z), fun ⟨j, a, a2, _⟩ => by omega⟩)
set_option maxRecDepth 20000 in
theorem c_X8_isBy (hE : MEn μ T S) (hJ : TJ T) (hS : SB S) (hi : 0 ≤ i ∧ i < 6) (l : Launch) (E : Ev) (A : Nat → Prop) : Con l E 23 m_X8_isBy A VM ad μ [.ref (ad (30, 0, 0)), .int (I i)] (pz fun z μ' => (z = true ↔ LT S T i) ∧ FH μ μ') := by
  have hk := (hJ.2.1 i hi.1 hi.2).2.2.2.1
  refine con (own := RX8) (by decide +kernel) rfl rfl rfl (fun Γ F => ?_)
  refine x_aload_n (i := 0) (pc := 0) F dX8_isBy_0 rfl rfl ?_
  refine x_iload_n (i := 1) (pc := 1) F dX8_isBy_1 rfl rfl ?_
  refine x_aload_n (i := 0) (pc := 2) F dX8_isBy_2 rfl rfl ?_
  refine x_iload_n (i := 1) (pc := 3) F dX8_isBy_3 rfl rfl ?_
  refine x_iconst (pc := 4) F dX8_isBy_4 ?_
  refine x_V2i (ci := 8) (pc := 5) F dX8_isBy_5 lk_X8_82 rfl (vm_ok rfl) rfl rfl (c_X8_one hE.1 (19 + 10 * i) i 3 (by omega)) rfl rfl rfl ?_
  rintro _ _ ⟨rfl, rfl⟩
  refine x_V2z (ci := 8) (pc := 8) F dX8_isBy_8 lk_X8_101 rfl (vm_ok rfl) rfl rfl (c_X8_lets hE hJ hS hi (by omega)) rfl rfl rfl ?_
  rintro z μ1 hp
  refine tq_retz (pc := 11) F dX8_isBy_11 ?_ rfl rfl rfl
  exact hp
set_option maxRecDepth 20000 in
theorem c_X8_nearest (hE : MEn μ T S) (hJ : TJ T) (hS : SB S) (hi : 0 ≤ i ∧ i < 6) (hg : 0 ≤ g ∧ g < 4) (l : Launch) (E : Ev) (A : Nat → Prop) : Con l E 22 m_X8_nearest A VM ad μ [.ref (ad (30, 0, 0)), .int (I i), .int (I g)] (pi fun z μ' => z = nearT S T i g ∧ FH μ μ') := by
  have hkn := (hJ.1 g hg.1 hg.2).1
  refine con (own := RX8) (by decide +kernel) rfl rfl rfl (fun Γ F => ?_)
  have loop : ∀ (N k : Nat) (μ1 : Me), T (4 * g) - k < N → k ≤ T (4 * g) → FH μ μ1 → XX Γ 8 VM ad (vl ad μ1) 0 0 17 [(0, .ref (ad (30, 0, 0))), (1, .int (I i)), (2, .int (I g)), (3, .int (I (S.1 (vsT T i g)))), (4, .int (I (nearL (fun k => lkT S T i g (T (4 * g + 1 + k))) k).1)), (5, .int (I (nearL (fun k => lkT S T i g (T (4 * g + 1 + k))) k).2)), (6, .int (I k))] [] := by
    intro N
    induction N with
    | zero => intro k μ1 b1; omega
    | succ N ih =>
      intro k μ1 b1 b2 b3
      have hT1 := hE.1.fh b3
      have hn1 := nearL_rg (fun k => lkT S T i g (T (4 * g + 1 + k))) k
      have hn2 := nearL_b (f := fun k => lkT S T i g (T (4 * g + 1 + k))) (B := 20000) (by decide) 3 (fun k a b => lkT_rg hJ hS hi hg) k (by omega)
      have hs : nearL (fun k => lkT S T i g (T (4 * g + 1 + k))) (k + 1) = if (nearL (fun k => lkT S T i g (T (4 * g + 1 + k))) k).1 = -5 ∨ (nearL (fun k => lkT S T i g (T (4 * g + 1 + k))) k).2 < lkT S T i g (T (4 * g + 1 + k)) then ((k : Int), lkT S T i g (T (4 * g + 1 + k))) else nearL (fun k => lkT S T i g (T (4 * g + 1 + k))) k := rfl
      refine x_iload (i := 6) (pc := 17) F dX8_nearest_17 rfl ?_
      refine x_aload_n (i := 0) (pc := 19) F dX8_nearest_19 rfl rfl ?_
      refine x_iload_n (i := 2) (pc := 20) F dX8_nearest_20 rfl rfl ?_
      refine x_V1i (ci := 8) (pc := 21) F dX8_nearest_21 lk_X8_108 rfl (vm_ok rfl) rfl rfl (c_X8_known hT1 g hg) rfl rfl rfl ?_
      rintro _ _ ⟨rfl, rfl⟩
      refine x_icmp_ge (tgt := 71) (pc := 24) F dX8_nearest_24 rfl (by omega) (fun h24 => ?_) (fun h24 => ?_)
      · refine x_iload (i := 4) (pc := 71) F dX8_nearest_71 rfl ?_
        refine tq_reti (pc := 73) F dX8_nearest_73 ?_ rfl rfl rfl
        refine ⟨?_, b3⟩
        unfold nearT
        rw [show (T (4 * g)).toNat = k by omega]
      · have hkr := kI_rg (k := (k : Int)) hJ hg (by omega)
        have hlr := lkT_rg (w := T (4 * g + 1 + k)) hJ hS hi hg
        refine x_aload_n (i := 0) (pc := 27) F dX8_nearest_27 rfl rfl ?_
        refine x_iload_n (i := 1) (pc := 28) F dX8_nearest_28 rfl rfl ?_
        refine x_iload_n (i := 2) (pc := 29) F dX8_nearest_29 rfl rfl ?_
        refine x_aload_n (i := 0) (pc := 30) F dX8_nearest_30 rfl rfl ?_
        refine x_iload_n (i := 2) (pc := 31) F dX8_nearest_31 rfl rfl ?_
        refine x_iload (i := 6) (pc := 32) F dX8_nearest_32 rfl ?_
        refine x_V2i (ci := 8) (pc := 34) F dX8_nearest_34 lk_X8_111 rfl (vm_ok rfl) rfl rfl (c_X8_walkAt hT1 g k (by omega)) rfl rfl rfl ?_
        rintro _ _ ⟨rfl, rfl⟩
        refine x_iload_n (i := 3) (pc := 37) F dX8_nearest_37 rfl rfl ?_
        refine x_V4i (ci := 8) (pc := 38) F dX8_nearest_38 lk_X8_117 rfl (vm_ok rfl) rfl rfl (c_X8_likeTo hT1 hJ hi hg _ _ hkr (hS.1 _)) rfl rfl rfl ?_
        rintro _ _ ⟨rfl, rfl⟩
        rw [show lbT T i g (alk (T (4 * g + 1 + k)) (T (18 + 10 * i)) + S.1 (vsT T i g)) = lkT S T i g (T (4 * g + 1 + k)) from rfl]
        refine x_istore (i := 7) (pc := 41) F dX8_nearest_41 rfl ?_
        refine x_iload (i := 4) (pc := 43) F dX8_nearest_43 rfl ?_
        refine x_bipush (pc := 45) F dX8_nearest_45 (by decide) ?_
        refine x_icmp_eq (tgt := 57) (pc := 47) F dX8_nearest_47 rfl (by omega) (fun h47 => ?_) (fun h47 => ?_)
        · refine x_iload (i := 6) (pc := 57) F dX8_nearest_57 rfl ?_
          refine x_istore (i := 4) (pc := 59) F dX8_nearest_59 rfl ?_
          refine x_iload (i := 7) (pc := 61) F dX8_nearest_61 rfl ?_
          refine x_istore (i := 5) (pc := 63) F dX8_nearest_63 rfl ?_
          refine x_iinc (pc := 65) F dX8_nearest_65 rfl rfl ?_
          refine x_goto (tgt := 17) (pc := 68) F dX8_nearest_68 rfl ?_
          first | (rw [if_pos (by omega)] at hs; exact x_sub (L' := [(0, .ref (ad (30, 0, 0))), (1, .int (I i)), (2, .int (I g)), (3, .int (I (S.1 (vsT T i g)))), (4, .int (I (nearL (fun k => lkT S T i g (T (4 * g + 1 + k))) (k + 1)).1)), (5, .int (I (nearL (fun k => lkT S T i g (T (4 * g + 1 + k))) (k + 1)).2)), (6, .int (I ((k + 1 : Nat) : Int)))]) ⟨rfl, rfl, rfl, rfl, lk_i rfl (by rw [hs]), lk_i rfl (by rw [hs]), rfl, trivial⟩ (ih (k + 1) μ1 (by omega) (by omega) b3)) | (rw [if_neg (by omega)] at hs; exact x_sub (L' := [(0, .ref (ad (30, 0, 0))), (1, .int (I i)), (2, .int (I g)), (3, .int (I (S.1 (vsT T i g)))), (4, .int (I (nearL (fun k => lkT S T i g (T (4 * g + 1 + k))) (k + 1)).1)), (5, .int (I (nearL (fun k => lkT S T i g (T (4 * g + 1 + k))) (k + 1)).2)), (6, .int (I ((k + 1 : Nat) : Int)))]) ⟨rfl, rfl, rfl, rfl, lk_i rfl (by rw [hs]), lk_i rfl (by rw [hs]), rfl, trivial⟩ (ih (k + 1) μ1 (by omega) (by omega) b3))
        · refine x_iload (i := 7) (pc := 50) F dX8_nearest_50 rfl ?_
          refine x_iload (i := 5) (pc := 52) F dX8_nearest_52 rfl ?_
          refine x_icmp_le (tgt := 65) (pc := 54) F dX8_nearest_54 rfl (by omega) (fun h54 => ?_) (fun h54 => ?_)
          · refine x_iinc (pc := 65) F dX8_nearest_65 rfl rfl ?_
            refine x_goto (tgt := 17) (pc := 68) F dX8_nearest_68 rfl ?_
            first | (rw [if_pos (by omega)] at hs; exact x_sub (L' := [(0, .ref (ad (30, 0, 0))), (1, .int (I i)), (2, .int (I g)), (3, .int (I (S.1 (vsT T i g)))), (4, .int (I (nearL (fun k => lkT S T i g (T (4 * g + 1 + k))) (k + 1)).1)), (5, .int (I (nearL (fun k => lkT S T i g (T (4 * g + 1 + k))) (k + 1)).2)), (6, .int (I ((k + 1 : Nat) : Int)))]) ⟨rfl, rfl, rfl, rfl, lk_i rfl (by rw [hs]), lk_i rfl (by rw [hs]), rfl, trivial⟩ (ih (k + 1) μ1 (by omega) (by omega) b3)) | (rw [if_neg (by omega)] at hs; exact x_sub (L' := [(0, .ref (ad (30, 0, 0))), (1, .int (I i)), (2, .int (I g)), (3, .int (I (S.1 (vsT T i g)))), (4, .int (I (nearL (fun k => lkT S T i g (T (4 * g + 1 + k))) (k + 1)).1)), (5, .int (I (nearL (fun k => lkT S T i g (T (4 * g + 1 + k))) (k + 1)).2)), (6, .int (I ((k + 1 : Nat) : Int)))]) ⟨rfl, rfl, rfl, rfl, lk_i rfl (by rw [hs]), lk_i rfl (by rw [hs]), rfl, trivial⟩ (ih (k + 1) μ1 (by omega) (by omega) b3))
          · refine x_iload (i := 6) (pc := 57) F dX8_nearest_57 rfl ?_
            refine x_istore (i := 4) (pc := 59) F dX8_nearest_59 rfl ?_
            refine x_iload (i := 7) (pc := 61) F dX8_nearest_61 rfl ?_
            refine x_istore (i := 5) (pc := 63) F dX8_nearest_63 rfl ?_
            refine x_iinc (pc := 65) F dX8_nearest_65 rfl rfl ?_
            refine x_goto (tgt := 17) (pc := 68) F dX8_nearest_68 rfl ?_
            first | (rw [if_pos (by omega)] at hs; exact x_sub (L' := [(0, .ref (ad (30, 0, 0))), (1, .int (I i)), (2, .int (I g)), (3, .int (I (S.1 (vsT T i g)))), (4, .int (I (nearL (fun k => lkT S T i g (T (4 * g + 1 + k))) (k + 1)).1)), (5, .int (I (nearL (fun k => lkT S T i g (T (4 * g + 1 + k))) (k + 1)).2)), (6, .int (I ((k + 1 : Nat) : Int)))]) ⟨rfl, rfl, rfl, rfl, lk_i rfl (by rw [hs]), lk_i rfl (by rw [hs]), rfl, trivial⟩ (ih (k + 1) μ1 (by omega) (by omega) b3)) | (rw [if_neg (by omega)] at hs; exact x_sub (L' := [(0, .ref (ad (30, 0, 0))), (1, .int (I i)), (2, .int (I g)), (3, .int (I (S.1 (vsT T i g)))), (4, .int (I (nearL (fun k => lkT S T i g (T (4 * g + 1 + k))) (k + 1)).1)), (5, .int (I (nearL (fun k => lkT S T i g (T (4 * g + 1 + k))) (k + 1)).2)), (6, .int (I ((k + 1 : Nat) : Int)))]) ⟨rfl, rfl, rfl, rfl, lk_i rfl (by rw [hs]), lk_i rfl (by rw [hs]), rfl, trivial⟩ (ih (k + 1) μ1 (by omega) (by omega) b3))
  refine x_aload_n (i := 0) (pc := 0) F dX8_nearest_0 rfl rfl ?_
  refine x_iload_n (i := 1) (pc := 1) F dX8_nearest_1 rfl rfl ?_
  refine x_iload_n (i := 2) (pc := 2) F dX8_nearest_2 rfl rfl ?_
  refine x_V2i (ci := 8) (pc := 3) F dX8_nearest_3 lk_X8_114 rfl (vm_ok rfl) rfl rfl (c_X8_helps hE hJ hi hg) rfl rfl rfl ?_
  rintro _ μ1 ⟨rfl, p1, p2, p3⟩
  refine x_istore_n (i := 3) (pc := 6) F dX8_nearest_6 rfl rfl ?_
  refine x_bipush (pc := 7) F dX8_nearest_7 (by decide) ?_
  refine x_istore (i := 4) (pc := 9) F dX8_nearest_9 rfl ?_
  refine x_iconst (pc := 11) F dX8_nearest_11 ?_
  refine x_istore (i := 5) (pc := 12) F dX8_nearest_12 rfl ?_
  refine x_iconst (pc := 14) F dX8_nearest_14 ?_
  refine x_istore (i := 6) (pc := 15) F dX8_nearest_15 rfl ?_
  exact x_sub (L' := [(0, .ref (ad (30, 0, 0))), (1, .int (I i)), (2, .int (I g)), (3, .int (I (S.1 (vsT T i g)))), (4, .int (I (nearL (fun k => lkT S T i g (T (4 * g + 1 + k))) 0).1)), (5, .int (I (nearL (fun k => lkT S T i g (T (4 * g + 1 + k))) 0).2)), (6, .int (I ((0 : Nat) : Int)))]) ⟨rfl, rfl, rfl, rfl, rfl, rfl, rfl, trivial⟩ (loop 5 0 μ1 (by omega) (by omega) p1)
set_option maxRecDepth 20000 in
theorem c_X8_bys (hE : MEn μ T S) (hJ : TJ T) (hS : SB S) (l : Launch) (E : Ev) (A : Nat → Prop) : Con l E 24 m_X8_bys A VM ad μ [.ref (ad (30, 0, 0))] (pi fun z μ' => z = whoT S T ∧ FH μ μ') := by
  have hm := hJ.2.2.1
  refine con (own := RX8) (by decide +kernel) rfl rfl rfl (fun Γ F => ?_)
  have loop : ∀ (N k : Nat) (μ1 : Me), T 76 - k < N → k ≤ T 76 → FH μ μ1 → XX Γ 3 VM ad (vl ad μ1) 0 0 4 [(0, .ref (ad (30, 0, 0))), (1, .int (I (bitsP (LT S T) k))), (2, .int (I k))] [] := by
    intro N
    induction N with
    | zero => intro k μ1 b1; omega
    | succ N ih =>
      intro k μ1 b1 b2 b3
      have h76 := (hE.1.fh b3) 76 (by omega) (by omega)
      have hb := bitsP_rg (LT S T) k
      have hb2 := p2_rg (k := (k : Int)) (by omega)
      have hwo := wo_p2 (x := bitsP (LT S T) k) (n := k) hb
      have hw0 : wo (bitsP (LT S T) k) 0 = bitsP (LT S T) k := by unfold wo; rw [show (0 : Int).toNat = 0 from rfl, Nat.or_zero]; omega
      have hs : bitsP (LT S T) (k + 1) = bitsP (LT S T) k + pI (LT S T k) * p2 k := rfl
      refine x_iload_n (i := 2) (pc := 4) F dX8_bys_4 rfl rfl ?_
      refine x_aload_n (i := 0) (pc := 5) F dX8_bys_5 rfl rfl ?_
      refine gf_X8_9 (pc := 6) F dX8_bys_6 (vm_ok rfl) ?_
      refine x_bipush (pc := 9) F dX8_bys_9 (by decide) ?_
      refine tq_ia (pc := 11) F dX8_bys_11 (vm_ok rfl) rfl (fun _ => rfl) (by omega) ?_
      refine x_icmp_ge (tgt := 39) (pc := 12) F dX8_bys_12 rfl (by omega) (fun h12 => ?_) (fun h12 => ?_)
      · refine x_iload_n (i := 1) (pc := 39) F dX8_bys_39 rfl rfl ?_
        refine tq_reti (pc := 40) F dX8_bys_40 ?_ rfl rfl rfl
        refine ⟨?_, b3⟩
        unfold whoT
        rw [show (T 76).toNat = k by omega]
      · refine x_iload_n (i := 1) (pc := 15) F dX8_bys_15 rfl rfl ?_
        refine x_aload_n (i := 0) (pc := 16) F dX8_bys_16 rfl rfl ?_
        refine x_iload_n (i := 2) (pc := 17) F dX8_bys_17 rfl rfl ?_
        refine x_V1z (ci := 8) (pc := 18) F dX8_bys_18 lk_X8_194 rfl (vm_ok rfl) rfl rfl (c_X8_isBy (hE.fh b3) hJ hS (by omega)) rfl rfl rfl ?_
        rintro z μ2 ⟨hz, p2⟩
        refine x_if_eqB (tgt := 30) (pc := 21) F dX8_bys_21 rfl (fun h21 => ?_) (fun h21 => ?_)
        · try simp only [decide_eq_true_eq, decide_eq_false_iff_not, Bool.and_eq_true, Bool.or_eq_true, Bool.not_eq_true', Bool.not_eq_false', Bool.and_eq_false_iff, Bool.or_eq_false_iff] at h21
          refine x_iconst (pc := 30) F dX8_bys_30 ?_
          refine tq_ior (pc := 31) F dX8_bys_31 (by omega) ?_
          refine x_istore_n (i := 1) (pc := 32) F dX8_bys_32 rfl rfl ?_
          refine x_iinc (pc := 33) F dX8_bys_33 rfl rfl ?_
          refine x_goto (tgt := 4) (pc := 36) F dX8_bys_36 rfl ?_
          first | (refine x_sub (L' := [(0, .ref (ad (30, 0, 0))), (1, .int (I (bitsP (LT S T) (k + 1)))), (2, .int (I ((k + 1 : Nat) : Int)))]) ⟨rfl, lk_i rfl (by rw [hwo, hs, pI_t (hz.mp h21)]; omega), rfl, trivial⟩ (ih (k + 1) μ2 (by omega) (by omega) (b3.trans p2))) | (refine x_sub (L' := [(0, .ref (ad (30, 0, 0))), (1, .int (I (bitsP (LT S T) (k + 1)))), (2, .int (I ((k + 1 : Nat) : Int)))]) ⟨rfl, lk_i rfl (by rw [hw0, hs, pI_f (fun q => by rw [hz.mpr q] at h21; cases h21)]; omega), rfl, trivial⟩ (ih (k + 1) μ2 (by omega) (by omega) (b3.trans p2)))
        · try simp only [decide_eq_true_eq, decide_eq_false_iff_not, Bool.and_eq_true, Bool.or_eq_true, Bool.not_eq_true', Bool.not_eq_false', Bool.and_eq_false_iff, Bool.or_eq_false_iff] at h21
          refine x_iconst (pc := 24) F dX8_bys_24 ?_
          refine x_iload_n (i := 2) (pc := 25) F dX8_bys_25 rfl rfl ?_
          refine tq_ishl (pc := 26) F dX8_bys_26 (by omega) ?_
          refine x_goto (tgt := 31) (pc := 27) F dX8_bys_27 rfl ?_
          refine tq_ior (pc := 31) F dX8_bys_31 (by omega) ?_
          refine x_istore_n (i := 1) (pc := 32) F dX8_bys_32 rfl rfl ?_
          refine x_iinc (pc := 33) F dX8_bys_33 rfl rfl ?_
          refine x_goto (tgt := 4) (pc := 36) F dX8_bys_36 rfl ?_
          first | (refine x_sub (L' := [(0, .ref (ad (30, 0, 0))), (1, .int (I (bitsP (LT S T) (k + 1)))), (2, .int (I ((k + 1 : Nat) : Int)))]) ⟨rfl, lk_i rfl (by rw [hwo, hs, pI_t (hz.mp h21)]; omega), rfl, trivial⟩ (ih (k + 1) μ2 (by omega) (by omega) (b3.trans p2))) | (refine x_sub (L' := [(0, .ref (ad (30, 0, 0))), (1, .int (I (bitsP (LT S T) (k + 1)))), (2, .int (I ((k + 1 : Nat) : Int)))]) ⟨rfl, lk_i rfl (by rw [hw0, hs, pI_f (fun q => by rw [hz.mpr q] at h21; cases h21)]; omega), rfl, trivial⟩ (ih (k + 1) μ2 (by omega) (by omega) (b3.trans p2)))
  refine x_iconst (pc := 0) F dX8_bys_0 ?_
  refine x_istore_n (i := 1) (pc := 1) F dX8_bys_1 rfl rfl ?_
  refine x_iconst (pc := 2) F dX8_bys_2 ?_
  refine x_istore_n (i := 2) (pc := 3) F dX8_bys_3 rfl rfl ?_
  exact x_sub (L' := [(0, .ref (ad (30, 0, 0))), (1, .int (I (bitsP (LT S T) 0))), (2, .int (I ((0 : Nat) : Int)))]) ⟨rfl, rfl, rfl, trivial⟩ (loop 7 0 μ (by omega) (by omega) (FH.refl μ))
set_option maxRecDepth 20000 in
theorem c_X8_passes (hT : TN μ T) (hm : 0 ≤ T 76 ∧ T 76 ≤ 6) (l : Launch) (E : Ev) (A : Nat → Prop) : Con l E 1 m_X8_passes A VM ad μ [.ref (ad (30, 0, 0))] (pi fun z μ' => z = passT T ∧ μ = μ') := by
  have h76 := hT 76 (by omega) (by omega)
  refine con (own := RX8) (by decide +kernel) rfl rfl rfl (fun Γ F => ?_)
  have loop : ∀ (N k : Nat), T 76 - k < N → k ≤ T 76 → XX Γ 3 VM ad (vl ad μ) 0 0 4 [(0, .ref (ad (30, 0, 0))), (1, .int (I (sumP T k))), (2, .int (I k))] [] := by
    intro N
    induction N with
    | zero => intro k b1; omega
    | succ N ih =>
      intro k b1 b2
      have hs : sumP T (k + 1) = sumP T k + T (21 + 10 * (k : Int)) := rfl
      refine x_iload_n (i := 2) (pc := 4) F dX8_passes_4 rfl rfl ?_
      refine x_aload_n (i := 0) (pc := 5) F dX8_passes_5 rfl rfl ?_
      refine gf_X8_9 (pc := 6) F dX8_passes_6 (vm_ok rfl) ?_
      refine x_bipush (pc := 9) F dX8_passes_9 (by decide) ?_
      refine tq_ia (pc := 11) F dX8_passes_11 (vm_ok rfl) rfl (fun _ => rfl) (by omega) ?_
      refine x_icmp_ge (tgt := 30) (pc := 12) F dX8_passes_12 rfl (by omega) (fun h12 => ?_) (fun h12 => ?_)
      · refine x_iload_n (i := 1) (pc := 30) F dX8_passes_30 rfl rfl ?_
        refine tq_reti (pc := 31) F dX8_passes_31 ?_ rfl rfl rfl
        refine ⟨?_, rfl⟩
        unfold passT
        rw [show (T 76).toNat = k by omega]
      · refine x_iload_n (i := 1) (pc := 15) F dX8_passes_15 rfl rfl ?_
        refine x_aload_n (i := 0) (pc := 16) F dX8_passes_16 rfl rfl ?_
        refine x_iload_n (i := 2) (pc := 17) F dX8_passes_17 rfl rfl ?_
        refine x_iconst (pc := 18) F dX8_passes_18 ?_
        refine x_V2i (ci := 8) (pc := 19) F dX8_passes_19 lk_X8_82 rfl (vm_ok rfl) rfl rfl (c_X8_one hT (21 + 10 * (k : Int)) k 5 (by omega)) rfl rfl rfl ?_
        rintro _ _ ⟨rfl, rfl⟩
        refine x_iadd (pc := 22) F dX8_passes_22 ?_
        refine x_istore_n (i := 1) (pc := 23) F dX8_passes_23 rfl rfl ?_
        refine x_iinc (pc := 24) F dX8_passes_24 rfl rfl ?_
        refine x_goto (tgt := 4) (pc := 27) F dX8_passes_27 rfl ?_
        exact x_sub (L' := [(0, .ref (ad (30, 0, 0))), (1, .int (I (sumP T (k + 1)))), (2, .int (I ((k + 1 : Nat) : Int)))]) ⟨rfl, rfl, rfl, trivial⟩ (ih (k + 1) (by omega) (by omega))
  refine x_iconst (pc := 0) F dX8_passes_0 ?_
  refine x_istore_n (i := 1) (pc := 1) F dX8_passes_1 rfl rfl ?_
  refine x_iconst (pc := 2) F dX8_passes_2 ?_
  refine x_istore_n (i := 2) (pc := 3) F dX8_passes_3 rfl rfl ?_
  exact x_sub (L' := [(0, .ref (ad (30, 0, 0))), (1, .int (I (sumP T 0))), (2, .int (I ((0 : Nat) : Int)))]) ⟨rfl, rfl, rfl, trivial⟩ (loop 7 0 (by omega) (by omega))
end MLT
