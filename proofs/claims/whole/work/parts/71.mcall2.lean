/-! ===== the reference: told, mean, ends ===== -/
theorem FX.up43 {μ : Me} {k z : Int} : FX μ (upM μ (43, 0, 0) k z) := ⟨fun j _ => by rw [upM_ne (by simp)], fun o _ _ _ _ _ _ _ h => upM_ne h⟩
theorem MEn.fx {μ μ' : Me} {T X : Tn} {S : Hs} (h : MEn μ T S) (e : FX μ μ') (hX : TN μ' X) (h78 : X 78 = T 78) : MEn μ' X S := by
  obtain ⟨h1, h2, h3⟩ := h
  refine ⟨hX, ?_, ?_⟩
  · rw [h78]
    unfold MH
    rw [e.2 (36, 0, 0) (by simp) (by simp) (by simp) (by simp) (by simp) (by simp) (by simp) (by simp), e.2 (35, 0, 0) (by simp) (by simp) (by simp) (by simp) (by simp) (by simp) (by simp) (by simp)]
    exact h2
  · unfold MS
    rw [e.2 (39, 0, 0) (by simp) (by simp) (by simp) (by simp) (by simp) (by simp) (by simp) (by simp), e.2 (40, 0, 0) (by simp) (by simp) (by simp) (by simp) (by simp) (by simp) (by simp) (by simp)]
    exact h3
section MC2
variable {ad : Ob → Nat} {μ : Me} {T : Tn} {S : Hs} {c g w n k : Int}
set_option maxRecDepth 20000 in
theorem c_X8_master (hE : MEn μ T S) (hJ : TJ T) (hS : SB S) (hg : 0 ≤ g ∧ g < 4) (b : Bool) (l : Launch) (E : Ev) (A : Nat → Prop) : Con l E 22 m_X8_master A VM ad μ [.ref (ad (30, 0, 0)), .int (I g), .int (I (bI b))] (pi fun z μ' => z = (if b = true then (masT S T g).2 else (masT S T g).1) ∧ TN μ' T ∧ FX μ μ') := by
  have hm := hJ.2.2.1
  have hnr := hS.2.1
  have hbr := bI_rg b
  refine con (own := RX8) (by decide +kernel) rfl rfl rfl (fun Γ F => ?_)
  have hmb := fun (n : Nat) (hn : n ≤ 4096) => maxL_b (f := aloN S T g) (B := T 76) 4096 (fun k _ _ => by have := cntP_rg (fun p => S.2.1 ≤ lkT S T p g k) (T 76).toNat; unfold aloN; omega) n hn
  have l45 : ∀ (μ1 : Me), TN μ1 T → FX μ μ1 → (∀ i : Int, 0 ≤ i → i < T 76 → μ1 (43, 0, 0) i = S.1 (vsT T i g)) → ∀ (N w : Nat), 4096 - w < N → w ≤ 4096 → XX Γ 9 VM ad (vl ad μ1) 0 0 45 [(0, .ref (ad (30, 0, 0))), (1, .int (I g)), (2, .int (I (bI b))), (3, .int (I S.2.1)), (4, .int (I (maxL (aloN S T g) w).1)), (5, .int (I (maxL (aloN S T g) w).2)), (6, .int (I w))] [] := by
    intro μ1 hT1 hx1 h43 N
    have h76 := hT1 76 (by omega) (by omega)
    induction N with
    | zero => intro w b1; omega
    | succ N ih =>
      intro w b1 b2
      have hmr := maxL_rg (aloN S T g) w
      have hmw := hmb w b2
      have hs : maxL (aloN S T g) (w + 1) = if (maxL (aloN S T g) w).2 < aloN S T g w then ((w : Int), aloN S T g w) else maxL (aloN S T g) w := rfl
      have har : 0 ≤ aloN S T g w ∧ aloN S T g w ≤ 6 := by have := cntP_rg (fun p => S.2.1 ≤ lkT S T p g w) (T 76).toNat; unfold aloN; omega
      have l59 : w < 4096 → ∀ (M i : Nat), T 76 - i < M → i ≤ T 76 → XX Γ 9 VM ad (vl ad μ1) 0 0 59 [(0, .ref (ad (30, 0, 0))), (1, .int (I g)), (2, .int (I (bI b))), (3, .int (I S.2.1)), (4, .int (I (maxL (aloN S T g) w).1)), (5, .int (I (maxL (aloN S T g) w).2)), (6, .int (I w)), (7, .int (I (cntP (fun p => S.2.1 ≤ lkT S T p g w) i))), (8, .int (I i))] [] := by
        intro hw M
        induction M with
        | zero => intro i d1; omega
        | succ M ihM =>
          intro i d1 d2
          have hcr := cntP_rg (fun p => S.2.1 ≤ lkT S T p g w) i
          have hcs : cntP (fun p => S.2.1 ≤ lkT S T p g w) (i + 1) = cntP (fun p => S.2.1 ≤ lkT S T p g w) i + pI (S.2.1 ≤ lkT S T i g w) := rfl
          refine x_iload (i := 8) (pc := 59) F dX8_master_59 rfl ?_
          refine x_aload_n (i := 0) (pc := 61) F dX8_master_61 rfl rfl ?_
          refine gf_X8_9 (pc := 62) F dX8_master_62 (vm_ok rfl) ?_
          refine x_bipush (pc := 65) F dX8_master_65 (by decide) ?_
          refine tq_ia (pc := 67) F dX8_master_67 (vm_ok rfl) rfl (fun _ => rfl) (by omega) ?_
          refine x_icmp_ge (tgt := 107) (pc := 68) F dX8_master_68 rfl (by omega) (fun h68 => ?_) (fun h68 => ?_)
          · have ea : cntP (fun p => S.2.1 ≤ lkT S T p g w) i = aloN S T g w := by unfold aloN; rw [show (T 76).toNat = i by omega]
            rw [ea]
            refine x_iload (i := 7) (pc := 107) F dX8_master_107 rfl ?_
            refine x_iload (i := 5) (pc := 109) F dX8_master_109 rfl ?_
            refine x_icmp_le (tgt := 119) (pc := 111) F dX8_master_111 rfl (by omega) (fun h111 => ?_) (fun h111 => ?_)
            · refine x_iload (i := 4) (pc := 119) F dX8_master_119 rfl ?_
              refine x_istore (i := 4) (pc := 121) F dX8_master_121 rfl ?_
              refine x_iload (i := 7) (pc := 123) F dX8_master_123 rfl ?_
              refine x_iload (i := 5) (pc := 125) F dX8_master_125 rfl ?_
              refine tq_max (pc := 127) F dX8_master_127 kw_1106 rfl rfl rfl rfl (by omega) ?_
              refine x_istore (i := 5) (pc := 130) F dX8_master_130 rfl ?_
              refine x_iinc (pc := 132) F dX8_master_132 rfl rfl ?_
              refine x_goto (tgt := 45) (pc := 135) F dX8_master_135 rfl ?_
              first | (rw [if_pos (by omega)] at hs; exact x_sub (L' := [(0, .ref (ad (30, 0, 0))), (1, .int (I g)), (2, .int (I (bI b))), (3, .int (I S.2.1)), (4, .int (I (maxL (aloN S T g) (w + 1)).1)), (5, .int (I (maxL (aloN S T g) (w + 1)).2)), (6, .int (I ((w + 1 : Nat) : Int)))]) ⟨rfl, rfl, rfl, rfl, lk_i rfl (by rw [hs]), lk_i rfl (by rw [hs]; simp only; omega), rfl, trivial⟩ (ih (w + 1) (by omega) (by omega))) | (rw [if_neg (by omega)] at hs; exact x_sub (L' := [(0, .ref (ad (30, 0, 0))), (1, .int (I g)), (2, .int (I (bI b))), (3, .int (I S.2.1)), (4, .int (I (maxL (aloN S T g) (w + 1)).1)), (5, .int (I (maxL (aloN S T g) (w + 1)).2)), (6, .int (I ((w + 1 : Nat) : Int)))]) ⟨rfl, rfl, rfl, rfl, lk_i rfl (by rw [hs]), lk_i rfl (by rw [hs]; omega), rfl, trivial⟩ (ih (w + 1) (by omega) (by omega)))
            · refine x_iload (i := 6) (pc := 114) F dX8_master_114 rfl ?_
              refine x_goto (tgt := 121) (pc := 116) F dX8_master_116 rfl ?_
              refine x_istore (i := 4) (pc := 121) F dX8_master_121 rfl ?_
              refine x_iload (i := 7) (pc := 123) F dX8_master_123 rfl ?_
              refine x_iload (i := 5) (pc := 125) F dX8_master_125 rfl ?_
              refine tq_max (pc := 127) F dX8_master_127 kw_1106 rfl rfl rfl rfl (by omega) ?_
              refine x_istore (i := 5) (pc := 130) F dX8_master_130 rfl ?_
              refine x_iinc (pc := 132) F dX8_master_132 rfl rfl ?_
              refine x_goto (tgt := 45) (pc := 135) F dX8_master_135 rfl ?_
              first | (rw [if_pos (by omega)] at hs; exact x_sub (L' := [(0, .ref (ad (30, 0, 0))), (1, .int (I g)), (2, .int (I (bI b))), (3, .int (I S.2.1)), (4, .int (I (maxL (aloN S T g) (w + 1)).1)), (5, .int (I (maxL (aloN S T g) (w + 1)).2)), (6, .int (I ((w + 1 : Nat) : Int)))]) ⟨rfl, rfl, rfl, rfl, lk_i rfl (by rw [hs]), lk_i rfl (by rw [hs]; simp only; omega), rfl, trivial⟩ (ih (w + 1) (by omega) (by omega))) | (rw [if_neg (by omega)] at hs; exact x_sub (L' := [(0, .ref (ad (30, 0, 0))), (1, .int (I g)), (2, .int (I (bI b))), (3, .int (I S.2.1)), (4, .int (I (maxL (aloN S T g) (w + 1)).1)), (5, .int (I (maxL (aloN S T g) (w + 1)).2)), (6, .int (I ((w + 1 : Nat) : Int)))]) ⟨rfl, rfl, rfl, rfl, lk_i rfl (by rw [hs]), lk_i rfl (by rw [hs]; omega), rfl, trivial⟩ (ih (w + 1) (by omega) (by omega)))
          · refine x_iload (i := 7) (pc := 71) F dX8_master_71 rfl ?_
            refine x_aload_n (i := 0) (pc := 73) F dX8_master_73 rfl rfl ?_
            refine x_iload (i := 8) (pc := 74) F dX8_master_74 rfl ?_
            refine x_iload_n (i := 1) (pc := 76) F dX8_master_76 rfl rfl ?_
            refine x_iload (i := 6) (pc := 77) F dX8_master_77 rfl ?_
            refine x_aload_n (i := 0) (pc := 79) F dX8_master_79 rfl rfl ?_
            refine gf_X8_49 (pc := 80) F dX8_master_80 (vm_ok rfl) ?_
            refine x_iload (i := 8) (pc := 83) F dX8_master_83 rfl ?_
            refine tq_ia (pc := 85) F dX8_master_85 (vm_ok rfl) rfl (fun _ => rfl) (by omega) ?_
            rw [h43 i (by omega) (by omega)]
            have hlr := lkT_rg (i := (i : Int)) (w := (w : Int)) hJ hS (by omega) hg
            refine x_V4i (ci := 8) (pc := 86) F dX8_master_86 lk_X8_117 rfl (vm_ok rfl) rfl rfl (c_X8_likeTo hT1 hJ (by omega) hg _ _ (by omega) (hS.1 _)) rfl rfl rfl ?_
            rintro _ _ ⟨rfl, rfl⟩
            rw [show lbT T i g (alk w (T (18 + 10 * i)) + S.1 (vsT T i g)) = lkT S T i g w from rfl]
            refine x_iload_n (i := 3) (pc := 89) F dX8_master_89 rfl rfl ?_
            refine x_icmp_lt (tgt := 97) (pc := 90) F dX8_master_90 rfl (by omega) (fun h90 => ?_) (fun h90 => ?_)
            · refine x_iconst (pc := 97) F dX8_master_97 ?_
              refine x_iadd (pc := 98) F dX8_master_98 ?_
              refine x_istore (i := 7) (pc := 99) F dX8_master_99 rfl ?_
              refine x_iinc (pc := 101) F dX8_master_101 rfl rfl ?_
              refine x_goto (tgt := 59) (pc := 104) F dX8_master_104 rfl ?_
              first | (rw [pI_t (show S.2.1 ≤ lkT S T i g w by omega)] at hcs; exact x_sub (L' := [(0, .ref (ad (30, 0, 0))), (1, .int (I g)), (2, .int (I (bI b))), (3, .int (I S.2.1)), (4, .int (I (maxL (aloN S T g) w).1)), (5, .int (I (maxL (aloN S T g) w).2)), (6, .int (I w)), (7, .int (I (cntP (fun p => S.2.1 ≤ lkT S T p g w) (i + 1)))), (8, .int (I ((i + 1 : Nat) : Int)))]) ⟨rfl, rfl, rfl, rfl, rfl, rfl, rfl, lk_i rfl (by omega), rfl, trivial⟩ (ihM (i + 1) (by omega) (by omega))) | (rw [pI_f (show ¬ S.2.1 ≤ lkT S T i g w by omega)] at hcs; exact x_sub (L' := [(0, .ref (ad (30, 0, 0))), (1, .int (I g)), (2, .int (I (bI b))), (3, .int (I S.2.1)), (4, .int (I (maxL (aloN S T g) w).1)), (5, .int (I (maxL (aloN S T g) w).2)), (6, .int (I w)), (7, .int (I (cntP (fun p => S.2.1 ≤ lkT S T p g w) (i + 1)))), (8, .int (I ((i + 1 : Nat) : Int)))]) ⟨rfl, rfl, rfl, rfl, rfl, rfl, rfl, lk_i rfl (by omega), rfl, trivial⟩ (ihM (i + 1) (by omega) (by omega)))
            · refine x_iconst (pc := 93) F dX8_master_93 ?_
              refine x_goto (tgt := 98) (pc := 94) F dX8_master_94 rfl ?_
              refine x_iadd (pc := 98) F dX8_master_98 ?_
              refine x_istore (i := 7) (pc := 99) F dX8_master_99 rfl ?_
              refine x_iinc (pc := 101) F dX8_master_101 rfl rfl ?_
              refine x_goto (tgt := 59) (pc := 104) F dX8_master_104 rfl ?_
              first | (rw [pI_t (show S.2.1 ≤ lkT S T i g w by omega)] at hcs; exact x_sub (L' := [(0, .ref (ad (30, 0, 0))), (1, .int (I g)), (2, .int (I (bI b))), (3, .int (I S.2.1)), (4, .int (I (maxL (aloN S T g) w).1)), (5, .int (I (maxL (aloN S T g) w).2)), (6, .int (I w)), (7, .int (I (cntP (fun p => S.2.1 ≤ lkT S T p g w) (i + 1)))), (8, .int (I ((i + 1 : Nat) : Int)))]) ⟨rfl, rfl, rfl, rfl, rfl, rfl, rfl, lk_i rfl (by omega), rfl, trivial⟩ (ihM (i + 1) (by omega) (by omega))) | (rw [pI_f (show ¬ S.2.1 ≤ lkT S T i g w by omega)] at hcs; exact x_sub (L' := [(0, .ref (ad (30, 0, 0))), (1, .int (I g)), (2, .int (I (bI b))), (3, .int (I S.2.1)), (4, .int (I (maxL (aloN S T g) w).1)), (5, .int (I (maxL (aloN S T g) w).2)), (6, .int (I w)), (7, .int (I (cntP (fun p => S.2.1 ≤ lkT S T p g w) (i + 1)))), (8, .int (I ((i + 1 : Nat) : Int)))]) ⟨rfl, rfl, rfl, rfl, rfl, rfl, rfl, lk_i rfl (by omega), rfl, trivial⟩ (ihM (i + 1) (by omega) (by omega)))
      refine x_iload (i := 6) (pc := 45) F dX8_master_45 rfl ?_
      refine x_sipush (pc := 47) F dX8_master_47 (by decide) ?_
      refine x_icmp_ge (tgt := 138) (pc := 50) F dX8_master_50 rfl (by omega) (fun h50 => ?_) (fun h50 => ?_)
      · obtain rfl : w = 4096 := by omega
        refine x_iload_n (i := 2) (pc := 138) F dX8_master_138 rfl rfl ?_
        refine x_if_eqB (tgt := 147) (pc := 139) F dX8_master_139 rfl (fun h139 => ?_) (fun h139 => ?_)
        · try simp only [decide_eq_true_eq, decide_eq_false_iff_not, Bool.and_eq_true, Bool.or_eq_true, Bool.not_eq_true', Bool.not_eq_false', Bool.and_eq_false_iff, Bool.or_eq_false_iff] at h139
          refine x_iload (i := 4) (pc := 147) F dX8_master_147 rfl ?_
          refine tq_reti (pc := 149) F dX8_master_149 ?_ rfl rfl rfl
          first | exact ⟨by rw [if_pos h139]; rfl, hT1, hx1⟩ | exact ⟨by rw [if_neg (by rw [h139]; decide)]; rfl, hT1, hx1⟩
        · try simp only [decide_eq_true_eq, decide_eq_false_iff_not, Bool.and_eq_true, Bool.or_eq_true, Bool.not_eq_true', Bool.not_eq_false', Bool.and_eq_false_iff, Bool.or_eq_false_iff] at h139
          refine x_iload (i := 5) (pc := 142) F dX8_master_142 rfl ?_
          refine x_goto (tgt := 149) (pc := 144) F dX8_master_144 rfl ?_
          refine tq_reti (pc := 149) F dX8_master_149 ?_ rfl rfl rfl
          first | exact ⟨by rw [if_pos h139]; rfl, hT1, hx1⟩ | exact ⟨by rw [if_neg (by rw [h139]; decide)]; rfl, hT1, hx1⟩
      · refine x_iconst (pc := 53) F dX8_master_53 ?_
        refine x_istore (i := 7) (pc := 54) F dX8_master_54 rfl ?_
        refine x_iconst (pc := 56) F dX8_master_56 ?_
        refine x_istore (i := 8) (pc := 57) F dX8_master_57 rfl ?_
        exact x_sub (L' := [(0, .ref (ad (30, 0, 0))), (1, .int (I g)), (2, .int (I (bI b))), (3, .int (I S.2.1)), (4, .int (I (maxL (aloN S T g) w).1)), (5, .int (I (maxL (aloN S T g) w).2)), (6, .int (I w)), (7, .int (I (cntP (fun p => S.2.1 ≤ lkT S T p g w) 0))), (8, .int (I ((0 : Nat) : Int)))]) ⟨rfl, rfl, rfl, rfl, rfl, rfl, rfl, rfl, rfl, trivial⟩ (l59 (by omega) 7 0 (by omega) (by omega))
  have l2 : ∀ (N i : Nat) (μ1 : Me), T 76 - i < N → i ≤ T 76 → TN μ1 T → FX μ μ1 → (∀ j : Int, 0 ≤ j → j < i → μ1 (43, 0, 0) j = S.1 (vsT T j g)) → XX Γ 9 VM ad (vl ad μ1) 0 0 2 [(0, .ref (ad (30, 0, 0))), (1, .int (I g)), (2, .int (I (bI b))), (3, .int (I i))] [] := by
    intro N
    induction N with
    | zero => intro i μ1 b1; omega
    | succ N ih =>
      intro i μ1 b1 b2 b3 b4 b5
      have h76 := b3 76 (by omega) (by omega)
      have hE1 : MEn μ1 T S := hE.fx b4 b3 rfl
      refine x_iload_n (i := 3) (pc := 2) F dX8_master_2 rfl rfl ?_
      refine x_aload_n (i := 0) (pc := 3) F dX8_master_3 rfl rfl ?_
      refine gf_X8_9 (pc := 4) F dX8_master_4 (vm_ok rfl) ?_
      refine x_bipush (pc := 7) F dX8_master_7 (by decide) ?_
      refine tq_ia (pc := 9) F dX8_master_9 (vm_ok rfl) rfl (fun _ => rfl) (by omega) ?_
      refine x_icmp_ge (tgt := 31) (pc := 10) F dX8_master_10 rfl (by omega) (fun h10 => ?_) (fun h10 => ?_)
      · refine x_aload_n (i := 0) (pc := 31) F dX8_master_31 rfl rfl ?_
        refine x_V0i (ci := 8) (pc := 32) F dX8_master_32 lk_X8_212 rfl (vm_ok rfl) rfl rfl (c_X8_needNow hE1 hJ) rfl rfl rfl ?_
        rintro _ μ2 ⟨rfl, p1⟩
        refine x_istore_n (i := 3) (pc := 35) F dX8_master_35 rfl rfl ?_
        refine x_iconst (pc := 36) F dX8_master_36 ?_
        refine x_istore (i := 4) (pc := 37) F dX8_master_37 rfl ?_
        refine x_iconst (pc := 39) F dX8_master_39 ?_
        refine x_istore (i := 5) (pc := 40) F dX8_master_40 rfl ?_
        refine x_iconst (pc := 42) F dX8_master_42 ?_
        refine x_istore (i := 6) (pc := 43) F dX8_master_43 rfl ?_
        exact x_sub (L' := [(0, .ref (ad (30, 0, 0))), (1, .int (I g)), (2, .int (I (bI b))), (3, .int (I S.2.1)), (4, .int (I (maxL (aloN S T g) 0).1)), (5, .int (I (maxL (aloN S T g) 0).2)), (6, .int (I ((0 : Nat) : Int)))]) ⟨rfl, rfl, rfl, rfl, rfl, rfl, rfl, trivial⟩ (l45 μ2 (b3.fh p1) (b4.trans (FX.fh p1)) (fun j x y => by rw [p1.2 _ (by simp) (by simp) (by simp)]; exact b5 j x (by omega)) 4097 0 (by omega) (by omega))
      · refine x_aload_n (i := 0) (pc := 13) F dX8_master_13 rfl rfl ?_
        refine gf_X8_49 (pc := 14) F dX8_master_14 (vm_ok rfl) ?_
        refine x_iload_n (i := 3) (pc := 17) F dX8_master_17 rfl rfl ?_
        refine x_aload_n (i := 0) (pc := 18) F dX8_master_18 rfl rfl ?_
        refine x_iload_n (i := 3) (pc := 19) F dX8_master_19 rfl rfl ?_
        refine x_iload_n (i := 1) (pc := 20) F dX8_master_20 rfl rfl ?_
        refine x_V2i (ci := 8) (pc := 21) F dX8_master_21 lk_X8_114 rfl (vm_ok rfl) rfl rfl (c_X8_helps hE1 hJ (by omega) hg) rfl rfl rfl ?_
        rintro _ μ2 ⟨rfl, p1, _, _⟩
        refine tq_ias (pc := 24) F dX8_master_24 (vm_ok rfl) rfl (fun _ => rfl) (by omega) ?_
        refine x_iinc (pc := 25) F dX8_master_25 rfl rfl ?_
        refine x_goto (tgt := 2) (pc := 28) F dX8_master_28 rfl ?_
        exact x_sub (L' := [(0, .ref (ad (30, 0, 0))), (1, .int (I g)), (2, .int (I (bI b))), (3, .int (I ((i + 1 : Nat) : Int)))]) ⟨rfl, rfl, rfl, rfl, trivial⟩ (ih (i + 1) _ (by omega) (by omega) ((b3.fh p1).ne (by simp)) ((b4.trans (FX.fh p1)).trans FX.up43) (fun j x y => by rw [upM_i, p1.2 _ (by simp) (by simp) (by simp)]; by_cases e : j = i; (rw [if_pos e, e]); rw [if_neg e]; exact b5 j x (by omega)))
  refine x_iconst (pc := 0) F dX8_master_0 ?_
  refine x_istore_n (i := 3) (pc := 1) F dX8_master_1 rfl rfl ?_
  exact x_sub (L' := [(0, .ref (ad (30, 0, 0))), (1, .int (I g)), (2, .int (I (bI b))), (3, .int (I ((0 : Nat) : Int)))]) ⟨rfl, rfl, rfl, rfl, trivial⟩ (l2 7 0 μ (by omega) (by omega) hE.1 (FX.refl μ) (fun j x y => by omega))
set_option maxRecDepth 20000 in
theorem c_X8_told (hE : MEn μ T S) (hI : TI T) (hS : SB S) (hd : T 77 ≤ 9999) (hw : -2147483648 ≤ w ∧ w < 2147483648) (l : Launch) (E : Ev) (A : Nat → Prop) : Con l E 25 m_X8_told A VM ad μ [.ref (ad (30, 0, 0)), .int (I w)] (pi fun z μ' => z = toldZ S T w ∧ TN μ' T ∧ FX μ μ') := by
  have hJ := hI.j (by omega)
  have hT := hE.1
  have hI76 := hI.2.2.1
  have h77 := hT 77 (by omega) (by omega)
  refine con (own := RX8) (by decide +kernel) rfl rfl rfl (fun Γ F => ?_)
  refine x_iload_n (i := 1) (pc := 0) F dX8_told_0 rfl rfl ?_
  refine x_tab (ts := [36, 44, 49, 54, 59]) (dt := 64) (pc := 1) F dX8_told_1 rfl rfl (by omega) ⟨fun h1 => ?_, fun h1 => ?_, fun h1 => ?_, fun h1 => ?_, fun h1 => ?_, trivial⟩ (fun h1 => ?_)
  · refine x_aload_n (i := 0) (pc := 36) F dX8_told_36 rfl rfl ?_
    refine gf_X8_9 (pc := 37) F dX8_told_37 (vm_ok rfl) ?_
    refine x_bipush (pc := 40) F dX8_told_40 (by decide) ?_
    refine tq_ia (pc := 42) F dX8_told_42 (vm_ok rfl) rfl (fun _ => rfl) (by omega) ?_
    rw [h77]
    refine tq_reti (pc := 43) F dX8_told_43 ?_ rfl rfl rfl
    exact ⟨by unfold toldZ; rw [if_neg (by omega), if_neg (by omega), if_neg (by omega), if_pos (by omega)], hT, FX.refl μ⟩
  · refine x_aload_n (i := 0) (pc := 44) F dX8_told_44 rfl rfl ?_
    refine x_V0i (ci := 8) (pc := 45) F dX8_told_45 lk_X8_212 rfl (vm_ok rfl) rfl rfl (c_X8_needNow hE hJ) rfl rfl rfl ?_
    rintro _ μ1 ⟨rfl, p1⟩
    refine tq_reti (pc := 48) F dX8_told_48 ?_ rfl rfl rfl
    exact ⟨by unfold toldZ; rw [if_neg (by omega), if_neg (by omega), if_neg (by omega), if_neg (by omega), if_pos (by omega)], hT.fh p1, FX.fh p1⟩
  · refine x_aload_n (i := 0) (pc := 49) F dX8_told_49 rfl rfl ?_
    refine x_V0i (ci := 8) (pc := 50) F dX8_told_50 lk_X8_200 rfl (vm_ok rfl) rfl rfl (c_X8_ageNow hE hJ) rfl rfl rfl ?_
    rintro _ μ1 ⟨rfl, p1⟩
    refine tq_reti (pc := 53) F dX8_told_53 ?_ rfl rfl rfl
    exact ⟨by unfold toldZ; rw [if_neg (by omega), if_neg (by omega), if_neg (by omega), if_neg (by omega), if_neg (by omega), if_pos (by omega)], hT.fh p1, FX.fh p1⟩
  · refine x_aload_n (i := 0) (pc := 54) F dX8_told_54 rfl rfl ?_
    refine x_V0i (ci := 8) (pc := 55) F dX8_told_55 lk_X8_215 rfl (vm_ok rfl) rfl rfl (c_X8_bys hE hJ hS) rfl rfl rfl ?_
    rintro _ μ1 ⟨rfl, p1⟩
    refine tq_reti (pc := 58) F dX8_told_58 ?_ rfl rfl rfl
    exact ⟨by unfold toldZ; rw [if_neg (by omega), if_neg (by omega), if_neg (by omega), if_neg (by omega), if_neg (by omega), if_neg (by omega), if_pos (by omega)], hT.fh p1, FX.fh p1⟩
  · refine x_aload_n (i := 0) (pc := 59) F dX8_told_59 rfl rfl ?_
    refine x_V0i (ci := 8) (pc := 60) F dX8_told_60 lk_X8_218 rfl (vm_ok rfl) rfl rfl (c_X8_passes hT hI76) rfl rfl rfl ?_
    rintro _ _ ⟨rfl, rfl⟩
    refine tq_reti (pc := 63) F dX8_told_63 ?_ rfl rfl rfl
    exact ⟨by unfold toldZ; rw [if_neg (by omega), if_neg (by omega), if_neg (by omega), if_neg (by omega), if_neg (by omega), if_neg (by omega), if_neg (by omega), if_pos (by omega)], hT, FX.refl μ⟩
  · refine x_iload_n (i := 1) (pc := 64) F dX8_told_64 rfl rfl ?_
    refine x_bipush (pc := 65) F dX8_told_65 (by decide) ?_
    refine x_bipush (pc := 67) F dX8_told_67 (by decide) ?_
    refine x_S3z (pc := 69) F dX8_told_69 lk_X8_78 rfl (c_X8_isIn _ _ _ (by omega) _) rfl rfl rfl ?_
    rintro _ _ ⟨rfl, rfl⟩
    refine x_if_eqB (tgt := 110) (pc := 72) F dX8_told_72 rfl (fun h72 => ?_) (fun h72 => ?_)
    · try simp only [decide_eq_true_eq, decide_eq_false_iff_not, Bool.and_eq_true, Bool.or_eq_true, Bool.not_eq_true', Bool.not_eq_false', Bool.and_eq_false_iff, Bool.or_eq_false_iff] at h72
      refine x_iload_n (i := 1) (pc := 110) F dX8_told_110 rfl rfl ?_
      refine x_bipush (pc := 111) F dX8_told_111 (by decide) ?_
      refine x_isub (pc := 113) F dX8_told_113 ?_
      refine x_S1z (pc := 114) F dX8_told_114 lk_X8_86 rfl (c_isGateW _ _ (by omega)) rfl rfl rfl ?_
      rintro _ _ ⟨rfl, rfl⟩
      refine x_if_eqB (tgt := 132) (pc := 117) F dX8_told_117 rfl (fun h117 => ?_) (fun h117 => ?_)
      · try simp only [decide_eq_true_eq, decide_eq_false_iff_not, Bool.and_eq_true, Bool.or_eq_true, Bool.not_eq_true', Bool.not_eq_false', Bool.and_eq_false_iff, Bool.or_eq_false_iff] at h117
        refine x_iload_n (i := 1) (pc := 132) F dX8_told_132 rfl rfl ?_
        refine x_bipush (pc := 133) F dX8_told_133 (by decide) ?_
        refine x_isub (pc := 135) F dX8_told_135 ?_
        refine x_S1z (pc := 136) F dX8_told_136 lk_X8_86 rfl (c_isGateW _ _ (by omega)) rfl rfl rfl ?_
        rintro _ _ ⟨rfl, rfl⟩
        refine x_if_eqB (tgt := 154) (pc := 139) F dX8_told_139 rfl (fun h139 => ?_) (fun h139 => ?_)
        · try simp only [decide_eq_true_eq, decide_eq_false_iff_not, Bool.and_eq_true, Bool.or_eq_true, Bool.not_eq_true', Bool.not_eq_false', Bool.and_eq_false_iff, Bool.or_eq_false_iff] at h139
          refine x_iconst (pc := 154) F dX8_told_154 ?_
          refine tq_reti (pc := 155) F dX8_told_155 ?_ rfl rfl rfl
          first | exact ⟨by unfold toldZ; rw [if_neg (show ¬ false = true by decide), if_neg (by omega), if_pos (by omega)], p1, p2⟩ | exact ⟨by unfold toldZ; rw [if_pos rfl, if_neg (by omega), if_neg (by omega), if_pos (by omega)], p1, p2⟩ | exact ⟨by unfold toldZ; rw [if_neg (by omega), if_neg (by omega), if_neg (by omega), if_neg (by omega), if_neg (by omega), if_neg (by omega), if_neg (by omega), if_neg (by omega)], hT, FX.refl μ⟩
        · try simp only [decide_eq_true_eq, decide_eq_false_iff_not, Bool.and_eq_true, Bool.or_eq_true, Bool.not_eq_true', Bool.not_eq_false', Bool.and_eq_false_iff, Bool.or_eq_false_iff] at h139
          refine x_aload_n (i := 0) (pc := 142) F dX8_told_142 rfl rfl ?_
          refine x_iload_n (i := 1) (pc := 143) F dX8_told_143 rfl rfl ?_
          refine x_bipush (pc := 144) F dX8_told_144 (by decide) ?_
          refine x_isub (pc := 146) F dX8_told_146 ?_
          refine x_iconst (pc := 147) F dX8_told_147 ?_
          refine x_V2i (ci := 8) (pc := 148) F dX8_told_148 lk_X8_221 rfl (vm_ok rfl) rfl rfl (c_X8_master hE hJ hS (by omega) true) rfl rfl rfl ?_
          rintro _ μ1 ⟨rfl, p1, p2⟩
          refine x_goto (tgt := 155) (pc := 151) F dX8_told_151 rfl ?_
          refine tq_reti (pc := 155) F dX8_told_155 ?_ rfl rfl rfl
          first | exact ⟨by unfold toldZ; rw [if_neg (show ¬ false = true by decide), if_neg (by omega), if_pos (by omega)], p1, p2⟩ | exact ⟨by unfold toldZ; rw [if_pos rfl, if_neg (by omega), if_neg (by omega), if_pos (by omega)], p1, p2⟩ | exact ⟨by unfold toldZ; rw [if_neg (by omega), if_neg (by omega), if_neg (by omega), if_neg (by omega), if_neg (by omega), if_neg (by omega), if_neg (by omega), if_neg (by omega)], hT, FX.refl μ⟩
      · try simp only [decide_eq_true_eq, decide_eq_false_iff_not, Bool.and_eq_true, Bool.or_eq_true, Bool.not_eq_true', Bool.not_eq_false', Bool.and_eq_false_iff, Bool.or_eq_false_iff] at h117
        refine x_aload_n (i := 0) (pc := 120) F dX8_told_120 rfl rfl ?_
        refine x_iload_n (i := 1) (pc := 121) F dX8_told_121 rfl rfl ?_
        refine x_bipush (pc := 122) F dX8_told_122 (by decide) ?_
        refine x_isub (pc := 124) F dX8_told_124 ?_
        refine x_iconst (pc := 125) F dX8_told_125 ?_
        refine x_V2i (ci := 8) (pc := 126) F dX8_told_126 lk_X8_221 rfl (vm_ok rfl) rfl rfl (c_X8_master hE hJ hS (by omega) false) rfl rfl rfl ?_
        rintro _ μ1 ⟨rfl, p1, p2⟩
        refine x_goto (tgt := 155) (pc := 129) F dX8_told_129 rfl ?_
        refine tq_reti (pc := 155) F dX8_told_155 ?_ rfl rfl rfl
        first | exact ⟨by unfold toldZ; rw [if_neg (show ¬ false = true by decide), if_neg (by omega), if_pos (by omega)], p1, p2⟩ | exact ⟨by unfold toldZ; rw [if_pos rfl, if_neg (by omega), if_neg (by omega), if_pos (by omega)], p1, p2⟩ | exact ⟨by unfold toldZ; rw [if_neg (by omega), if_neg (by omega), if_neg (by omega), if_neg (by omega), if_neg (by omega), if_neg (by omega), if_neg (by omega), if_neg (by omega)], hT, FX.refl μ⟩
    · try simp only [decide_eq_true_eq, decide_eq_false_iff_not, Bool.and_eq_true, Bool.or_eq_true, Bool.not_eq_true', Bool.not_eq_false', Bool.and_eq_false_iff, Bool.or_eq_false_iff] at h72
      refine x_iload_n (i := 1) (pc := 75) F dX8_told_75 rfl rfl ?_
      refine x_bipush (pc := 76) F dX8_told_76 (by decide) ?_
      refine x_isub (pc := 78) F dX8_told_78 ?_
      refine x_iconst (pc := 79) F dX8_told_79 ?_
      refine tq_idiv (pc := 80) F dX8_told_80 (by omega) ?_
      refine x_istore_n (i := 2) (pc := 81) F dX8_told_81 rfl rfl ?_
      refine x_iload_n (i := 1) (pc := 82) F dX8_told_82 rfl rfl ?_
      refine x_bipush (pc := 83) F dX8_told_83 (by decide) ?_
      refine x_isub (pc := 85) F dX8_told_85 ?_
      refine x_iconst (pc := 86) F dX8_told_86 ?_
      refine tq_irem (pc := 87) F dX8_told_87 (by omega) ?_
      refine x_istore_n (i := 3) (pc := 88) F dX8_told_88 rfl rfl ?_
      have hkn := (hI.1 ((w - 10) / 3) (by omega) (by omega)).1
      refine x_iload_n (i := 3) (pc := 89) F dX8_told_89 rfl rfl ?_
      refine x_aload_n (i := 0) (pc := 90) F dX8_told_90 rfl rfl ?_
      refine x_iload_n (i := 2) (pc := 91) F dX8_told_91 rfl rfl ?_
      refine x_V1i (ci := 8) (pc := 92) F dX8_told_92 lk_X8_108 rfl (vm_ok rfl) rfl rfl (c_X8_known hT ((w - 10) / 3) (by omega)) rfl rfl rfl ?_
      rintro _ _ ⟨rfl, rfl⟩
      refine x_icmp_ge (tgt := 107) (pc := 95) F dX8_told_95 rfl (by omega) (fun h95 => ?_) (fun h95 => ?_)
      · refine x_bipush (pc := 107) F dX8_told_107 (by decide) ?_
        refine tq_reti (pc := 109) F dX8_told_109 ?_ rfl rfl rfl
        first | exact ⟨by unfold toldZ; rw [if_pos (by omega), if_pos (by omega)], hT, FX.refl μ⟩ | exact ⟨by unfold toldZ; rw [if_pos (by omega), if_neg (by omega)], hT, FX.refl μ⟩
      · refine x_aload_n (i := 0) (pc := 98) F dX8_told_98 rfl rfl ?_
        refine x_iload_n (i := 2) (pc := 99) F dX8_told_99 rfl rfl ?_
        refine x_iload_n (i := 3) (pc := 100) F dX8_told_100 rfl rfl ?_
        refine x_V2i (ci := 8) (pc := 101) F dX8_told_101 lk_X8_111 rfl (vm_ok rfl) rfl rfl (c_X8_walkAt hT ((w - 10) / 3) ((w - 10) % 3) (by omega)) rfl rfl rfl ?_
        rintro _ _ ⟨rfl, rfl⟩
        refine x_goto (tgt := 109) (pc := 104) F dX8_told_104 rfl ?_
        refine tq_reti (pc := 109) F dX8_told_109 ?_ rfl rfl rfl
        first | exact ⟨by unfold toldZ; rw [if_pos (by omega), if_pos (by omega)], hT, FX.refl μ⟩ | exact ⟨by unfold toldZ; rw [if_pos (by omega), if_neg (by omega)], hT, FX.refl μ⟩
theorem gcdI_s {x y : Int} (hx : 0 ≤ x) (hy : 0 < y) : gcdI x y = gcdI y (x % y) := by
  obtain ⟨m, rfl⟩ : ∃ m : Nat, x = m := ⟨x.toNat, (toNat_c hx).symm⟩
  obtain ⟨k, rfl⟩ : ∃ k : Nat, y = k := ⟨y.toNat, (toNat_c (by omega)).symm⟩
  rw [← Int.natCast_emod]
  unfold gcdI
  simp only [Int.toNat_natCast]
  rw [Nat.gcd_comm m k, Nat.gcd_rec, Nat.gcd_comm]
theorem gcdI_0 {x : Int} (hx : 0 ≤ x) : gcdI x 0 = x := by
  unfold gcdI
  rw [show (0 : Int).toNat = 0 from rfl, Nat.gcd_zero_right]
  omega
set_option maxRecDepth 20000 in
theorem c_X8_fraction (a b q : Int) (ha : 0 ≤ a ∧ a < 100000000) (hb : 0 < b ∧ b < 100000000) (hq : -2147483648 ≤ q ∧ q < 2147483648) (V : Ob → Prop) (l : Launch) (E : Ev) (A : Nat → Prop) : Con l E 0 m_X8_fraction A V ad μ [.long (J a), .long (J b), .int (I q)] (pl fun z μ' => z = fracZ a b q ∧ μ = μ') := by
  refine con (own := RX8) (by decide +kernel) rfl rfl rfl (fun Γ F => ?_)
  have hgp := gcdI_pos (a := a) hb.1
  have loop : ∀ (N : Nat) (x y : Int), y < N → 0 ≤ x ∧ x < 100000000 → 0 ≤ y ∧ y < 100000000 → 0 < x + y → gcdI x y = gcdI a b → XX Γ 11 V ad (vl ad μ) 0 0 6 [(0, .long (J a)), (2, .long (J b)), (4, .int (I q)), (5, .long (J x)), (7, .long (J y))] [] := by
    intro N
    induction N with
    | zero => intro x y b1; omega
    | succ N ih =>
      intro x y b1 b2 b3 b4 b5
      refine x_lload (i := 7) (pc := 6) F dX8_fraction_6 rfl ?_
      refine x_lconst (pc := 8) F dX8_fraction_8 (z := 0) (by decide) ?_
      refine tq_lcmp (pc := 9) F dX8_fraction_9 ?_
      have hlr := lcS_rg y 0
      refine x_if_eq (tgt := 31) (pc := 10) F dX8_fraction_10 rfl (by omega) (fun h10 => ?_) (fun h10 => ?_)
      · have hy0 : y = 0 := by have := lcS_0.mp h10; rwa [J_eq (by omega)] at this
        rw [hy0, gcdI_0 b2.1] at b5
        refine x_iload (i := 4) (pc := 31) F dX8_fraction_31 rfl ?_
        refine x_if_ne (tgt := 43) (pc := 33) F dX8_fraction_33 rfl (by omega) (fun h33 => ?_) (fun h33 => ?_)
        · refine x_lload_n (i := 2) (pc := 43) F dX8_fraction_43 rfl rfl ?_
          refine x_lload (i := 5) (pc := 44) F dX8_fraction_44 rfl ?_
          refine tq_ldiv (pc := 46) F dX8_fraction_46 (by omega) ?_
          refine tq_retl (pc := 47) F dX8_fraction_47 ?_ rfl rfl rfl
          first | exact ⟨by unfold fracZ; rw [if_pos (by omega), ← b5], rfl⟩ | exact ⟨by unfold fracZ; rw [if_neg (by omega), ← b5], rfl⟩
        · refine x_lload_n (i := 0) (pc := 36) F dX8_fraction_36 rfl rfl ?_
          refine x_lload (i := 5) (pc := 37) F dX8_fraction_37 rfl ?_
          refine tq_ldiv (pc := 39) F dX8_fraction_39 (by omega) ?_
          refine x_goto (tgt := 47) (pc := 40) F dX8_fraction_40 rfl ?_
          refine tq_retl (pc := 47) F dX8_fraction_47 ?_ rfl rfl rfl
          first | exact ⟨by unfold fracZ; rw [if_pos (by omega), ← b5], rfl⟩ | exact ⟨by unfold fracZ; rw [if_neg (by omega), ← b5], rfl⟩
      · have hy0 : y ≠ 0 := fun e => h10 (by rw [lcS_0, e])
        refine x_lload (i := 5) (pc := 13) F dX8_fraction_13 rfl ?_
        refine x_lload (i := 7) (pc := 15) F dX8_fraction_15 rfl ?_
        refine tq_lrem (pc := 17) F dX8_fraction_17 (by omega) ?_
        refine x_lstore (i := 9) (pc := 18) F dX8_fraction_18 rfl ?_
        refine x_lload (i := 7) (pc := 20) F dX8_fraction_20 rfl ?_
        refine x_lstore (i := 5) (pc := 22) F dX8_fraction_22 rfl ?_
        refine x_lload (i := 9) (pc := 24) F dX8_fraction_24 rfl ?_
        refine x_lstore (i := 7) (pc := 26) F dX8_fraction_26 rfl ?_
        refine x_goto (tgt := 6) (pc := 28) F dX8_fraction_28 rfl ?_
        have hm1 := Int.emod_nonneg x (show y ≠ 0 by omega)
        have hm2 := Int.emod_lt_of_pos x (show 0 < y by omega)
        exact x_sub (L' := [(0, .long (J a)), (2, .long (J b)), (4, .int (I q)), (5, .long (J y)), (7, .long (J (x % y)))]) ⟨rfl, rfl, rfl, rfl, rfl, trivial⟩ (ih y (x % y) (by omega) (by omega) (by omega) (by omega) (by rw [← gcdI_s b2.1 (by omega)]; exact b5))
  refine x_lload_n (i := 0) (pc := 0) F dX8_fraction_0 rfl rfl ?_
  refine x_lstore (i := 5) (pc := 1) F dX8_fraction_1 rfl ?_
  refine x_lload_n (i := 2) (pc := 3) F dX8_fraction_3 rfl rfl ?_
  refine x_lstore (i := 7) (pc := 4) F dX8_fraction_4 rfl ?_
  exact x_sub (L' := [(0, .long (J a)), (2, .long (J b)), (4, .int (I q)), (5, .long (J a)), (7, .long (J b))]) ⟨rfl, rfl, rfl, rfl, rfl, trivial⟩ (loop 100000001 a b (by omega) ha (by omega) (by omega) rfl)
set_option maxRecDepth 20000 in
theorem c_X8_mean (hE : MEn μ T S) (hI : TI T) (hS : SB S) (hd : T 77 ≤ 9999) (hn : -2147483648 ≤ n ∧ n < 2147483648) (hw : -2147483648 ≤ w ∧ w < 2147483648) (l : Launch) (E : Ev) (A : Nat → Prop) : Con l E 26 m_X8_mean A VM ad μ [.ref (ad (30, 0, 0)), .int (I n), .int (I w)] (pl fun z μ' => z = meanZ S T n w ∧ TN μ' T ∧ FX μ μ') := by
  have hJ := hI.j (by omega)
  have hT := hE.1
  have hI76 := hI.2.2.1
  have h76 := hT 76 (by omega) (by omega)
  refine con (own := RX8) (by decide +kernel) rfl rfl rfl (fun Γ F => ?_)
  refine x_iload_n (i := 1) (pc := 0) F dX8_mean_0 rfl rfl ?_
  refine x_iconst (pc := 1) F dX8_mean_1 ?_
  refine x_bipush (pc := 2) F dX8_mean_2 (by decide) ?_
  refine x_S3z (pc := 4) F dX8_mean_4 lk_X8_78 rfl (c_X8_isIn _ _ _ (by omega) _) rfl rfl rfl ?_
  rintro _ _ ⟨rfl, rfl⟩
  refine x_if_eqB (tgt := 29) (pc := 7) F dX8_mean_7 rfl (fun h7 => ?_) (fun h7 => ?_)
  · try simp only [decide_eq_true_eq, decide_eq_false_iff_not, Bool.and_eq_true, Bool.or_eq_true, Bool.not_eq_true', Bool.not_eq_false', Bool.and_eq_false_iff, Bool.or_eq_false_iff] at h7
    refine x_ldc2 (z := -9223372036854775808) (pc := 29) F dX8_mean_29 kw_1159 rfl ?_
    refine tq_retl (pc := 32) F dX8_mean_32 ?_ rfl rfl rfl
    exact ⟨by unfold meanZ; rw [if_neg (by omega)], hT, FX.refl μ⟩
  · try simp only [decide_eq_true_eq, decide_eq_false_iff_not, Bool.and_eq_true, Bool.or_eq_true, Bool.not_eq_true', Bool.not_eq_false', Bool.and_eq_false_iff, Bool.or_eq_false_iff] at h7
    refine x_iload_n (i := 2) (pc := 10) F dX8_mean_10 rfl rfl ?_
    refine x_iconst (pc := 11) F dX8_mean_11 ?_
    refine x_iconst (pc := 12) F dX8_mean_12 ?_
    refine x_S3z (pc := 13) F dX8_mean_13 lk_X8_78 rfl (c_X8_isIn _ _ _ (by omega) _) rfl rfl rfl ?_
    rintro _ _ ⟨rfl, rfl⟩
    refine x_if_eqB (tgt := 29) (pc := 16) F dX8_mean_16 rfl (fun h16 => ?_) (fun h16 => ?_)
    · try simp only [decide_eq_true_eq, decide_eq_false_iff_not, Bool.and_eq_true, Bool.or_eq_true, Bool.not_eq_true', Bool.not_eq_false', Bool.and_eq_false_iff, Bool.or_eq_false_iff] at h16
      refine x_ldc2 (z := -9223372036854775808) (pc := 29) F dX8_mean_29 kw_1159 rfl ?_
      refine tq_retl (pc := 32) F dX8_mean_32 ?_ rfl rfl rfl
      exact ⟨by unfold meanZ; rw [if_neg (by omega)], hT, FX.refl μ⟩
    · try simp only [decide_eq_true_eq, decide_eq_false_iff_not, Bool.and_eq_true, Bool.or_eq_true, Bool.not_eq_true', Bool.not_eq_false', Bool.and_eq_false_iff, Bool.or_eq_false_iff] at h16
      refine x_aload_n (i := 0) (pc := 19) F dX8_mean_19 rfl rfl ?_
      refine gf_X8_9 (pc := 20) F dX8_mean_20 (vm_ok rfl) ?_
      refine x_bipush (pc := 23) F dX8_mean_23 (by decide) ?_
      refine tq_ia (pc := 25) F dX8_mean_25 (vm_ok rfl) rfl (fun _ => rfl) (by omega) ?_
      rw [h76]
      refine x_if_ne (tgt := 33) (pc := 26) F dX8_mean_26 rfl (by omega) (fun h26 => ?_) (fun h26 => ?_)
      · refine x_aload_n (i := 0) (pc := 33) F dX8_mean_33 rfl rfl ?_
        refine x_iconst (pc := 34) F dX8_mean_34 ?_
        refine x_V1v (ci := 8) (pc := 35) F dX8_mean_35 lk_X8_206 rfl (vm_ok rfl) rfl rfl (c_X8_keep 0 (by decide)) rfl rfl rfl ?_
        rintro μ1 p1
        have hk1 := K0.kp p1 hT
        have hE1 := hE.kp p1
        refine x_aload_n (i := 0) (pc := 38) F dX8_mean_38 rfl rfl ?_
        refine x_iload_n (i := 1) (pc := 39) F dX8_mean_39 rfl rfl ?_
        refine x_V1v (ci := 8) (pc := 40) F dX8_mean_40 lk_X8_225 rfl (vm_ok rfl) rfl rfl (c_X8_days hE1 hJ hS n (by omega) (by omega)) rfl rfl rfl ?_
        rintro μ2 ⟨q1, q2⟩
        have e76 := daysT_76 (S := S) hJ n.toNat (by omega)
        refine x_aload_n (i := 0) (pc := 43) F dX8_mean_43 rfl rfl ?_
        refine x_V0i (ci := 8) (pc := 44) F dX8_mean_44 lk_X8_218 rfl (vm_ok rfl) rfl rfl (c_X8_passes q1 (by rw [e76]; exact hI76)) rfl rfl rfl ?_
        rintro _ _ ⟨rfl, rfl⟩
        have hpr := sumP_rg (T := daysT S n.toNat T) 20000 (fun p a b => by have h := (daysT_TI (S := S) hI hS.2.2.1 n.toNat).2.1 p a b; have h2 := h.2.2.2.2.2.1; rw [daysT_77] at h2; omega) (daysT S n.toNat T 76).toNat (by omega)
        have hpp : passT (daysT S n.toNat T) = sumP (daysT S n.toNat T) (daysT S n.toNat T 76).toNat := rfl
        refine x_istore_n (i := 3) (pc := 47) F dX8_mean_47 rfl rfl ?_
        refine x_aload_n (i := 0) (pc := 48) F dX8_mean_48 rfl rfl ?_
        refine x_iconst (pc := 49) F dX8_mean_49 ?_
        refine x_V1v (ci := 8) (pc := 50) F dX8_mean_50 lk_X8_209 rfl (vm_ok rfl) rfl rfl (c_X8_lay 0 (by decide)) rfl rfl rfl ?_
        rintro μ3 ⟨r1, r2⟩
        have hT3 : TN μ3 T := fun k a b => by rw [r1 k a b]; exact (hk1.fd q2) k a b
        refine x_iload_n (i := 3) (pc := 53) F dX8_mean_53 rfl rfl ?_
        refine x_i2l (pc := 54) F dX8_mean_54 (by omega) ?_
        refine x_aload_n (i := 0) (pc := 55) F dX8_mean_55 rfl rfl ?_
        refine gf_X8_9 (pc := 56) F dX8_mean_56 (vm_ok rfl) ?_
        refine x_bipush (pc := 59) F dX8_mean_59 (by decide) ?_
        refine tq_ia (pc := 61) F dX8_mean_61 (vm_ok rfl) rfl (fun _ => rfl) (by omega) ?_
        rw [hT3 76 (by omega) (by omega)]
        refine x_i2l (pc := 62) F dX8_mean_62 (by omega) ?_
        refine x_iload_n (i := 2) (pc := 63) F dX8_mean_63 rfl rfl ?_
        refine x_S3l (pc := 64) F dX8_mean_64 lk_X8_251 rfl (c_X8_fraction _ _ _ (by omega) (by omega) (by omega) _) rfl rfl rfl ?_
        rintro _ _ ⟨rfl, rfl⟩
        refine tq_retl (pc := 67) F dX8_mean_67 ?_ rfl rfl rfl
        exact ⟨by unfold meanZ; rw [if_pos (by omega)], hT3, ((FX.kp p1).trans (FX.fd q2)).trans (FX.o31 r2)⟩
      · refine x_ldc2 (z := -9223372036854775808) (pc := 29) F dX8_mean_29 kw_1159 rfl ?_
        refine tq_retl (pc := 32) F dX8_mean_32 ?_ rfl rfl rfl
        exact ⟨by unfold meanZ; rw [if_neg (by omega)], hT, FX.refl μ⟩
end MC2
