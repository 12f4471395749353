/-! ===== the reference: lessons ===== -/
theorem divN_s (row m : Int) : ∀ j : Nat, divN row m (j + 1) = divN (row / m) m j
  | 0 => rfl
  | j + 1 => by
    show divN row m (j + 1) / m = divN (row / m) m j / m
    rw [divN_s row m j]
theorem FX.up30 {μ : Me} {z : Int} : FX μ (upM μ (30, 0, 0) 22 z) := ⟨fun j hj => by rw [upM_i, if_neg hj.2], fun o h _ _ _ _ _ _ _ => upM_ne h⟩
theorem FX.up41 {μ : Me} {k z : Int} : FX μ (upM μ (41, 0, 0) k z) := ⟨fun j _ => by rw [upM_ne (by simp)], fun o _ _ _ _ _ h _ _ => upM_ne h⟩
theorem FX.up42 {μ : Me} {k z : Int} : FX μ (upM μ (42, 0, 0) k z) := ⟨fun j _ => by rw [upM_ne (by simp)], fun o _ _ _ _ _ _ h _ => upM_ne h⟩
/-- the best so far, of the first cnt rows -/
def BST (μ : Me) (S : Hs) (T : Tn) (g : Int) (n cnt : Nat) : Prop := μ (30, 0, 0) 22 = (maxL (lesF S T g n) cnt).2 ∧ (0 ≤ (maxL (lesF S T g n) cnt).2 → ∀ j : Nat, j < n → μ (42, 0, 0) j = divN (maxL (lesF S T g n) cnt).1 (T 76) (n - 1 - j) % T 76)
section MLE
variable {ad : Ob → Nat} {μ : Me} {T : Tn} {S : Hs} {g : Int}
set_option maxRecDepth 20000 in
theorem c_X8_letsAll (hE : MEn μ T S) (hJ : TJ T) (hS : SB S) (hg : 0 ≤ g ∧ g < 4) (l : Launch) (E : Ev) (A : Nat → Prop) : Con l E 23 m_X8_letsAll A VM ad μ [.ref (ad (30, 0, 0)), .int (I g)] (pi fun z μ' => z = cntP (fun p => LTg S T p g) (T 76).toNat ∧ FH μ μ') := by
  have hm := hJ.2.2.1
  refine con (own := RX8) (by decide +kernel) rfl rfl rfl (fun Γ F => ?_)
  have loop : ∀ (N k : Nat) (μ1 : Me), T 76 - k < N → k ≤ T 76 → FH μ μ1 → XX Γ 4 VM ad (vl ad μ1) 0 0 4 [(0, .ref (ad (30, 0, 0))), (1, .int (I g)), (2, .int (I (cntP (fun p => LTg S T p g) k))), (3, .int (I k))] [] := by
    intro N
    induction N with
    | zero => intro k μ1 b1; omega
    | succ N ih =>
      intro k μ1 b1 b2 b3
      have h76 := (hE.1.fh b3) 76 (by omega) (by omega)
      have hs : cntP (fun p => LTg S T p g) (k + 1) = cntP (fun p => LTg S T p g) k + pI (LTg S T k g) := rfl
      refine x_iload_n (i := 3) (pc := 4) F dX8_letsAll_4 rfl rfl ?_
      refine x_aload_n (i := 0) (pc := 5) F dX8_letsAll_5 rfl rfl ?_
      refine gf_X8_9 (pc := 6) F dX8_letsAll_6 (vm_ok rfl) ?_
      refine x_bipush (pc := 9) F dX8_letsAll_9 (by decide) ?_
      refine tq_ia (pc := 11) F dX8_letsAll_11 (vm_ok rfl) rfl (fun _ => rfl) (by omega) ?_
      refine x_icmp_ge (tgt := 38) (pc := 12) F dX8_letsAll_12 rfl (by omega) (fun h12 => ?_) (fun h12 => ?_)
      · refine x_iload_n (i := 2) (pc := 38) F dX8_letsAll_38 rfl rfl ?_
        refine tq_reti (pc := 39) F dX8_letsAll_39 ?_ rfl rfl rfl
        exact ⟨by rw [show (T 76).toNat = k by omega], b3⟩
      · refine x_iload_n (i := 2) (pc := 15) F dX8_letsAll_15 rfl rfl ?_
        refine x_aload_n (i := 0) (pc := 16) F dX8_letsAll_16 rfl rfl ?_
        refine x_iload_n (i := 3) (pc := 17) F dX8_letsAll_17 rfl rfl ?_
        refine x_iload_n (i := 1) (pc := 18) F dX8_letsAll_18 rfl rfl ?_
        refine x_V2z (ci := 8) (pc := 19) F dX8_letsAll_19 lk_X8_101 rfl (vm_ok rfl) rfl rfl (c_X8_lets (hE.fh b3) hJ hS (by omega) hg) rfl rfl rfl ?_
        rintro z μ2 ⟨hz, p2⟩
        refine x_if_eqB (tgt := 29) (pc := 22) F dX8_letsAll_22 rfl (fun h22 => ?_) (fun h22 => ?_)
        · try simp only [decide_eq_true_eq, decide_eq_false_iff_not, Bool.and_eq_true, Bool.or_eq_true, Bool.not_eq_true', Bool.not_eq_false', Bool.and_eq_false_iff, Bool.or_eq_false_iff] at h22
          refine x_iconst (pc := 29) F dX8_letsAll_29 ?_
          refine x_iadd (pc := 30) F dX8_letsAll_30 ?_
          refine x_istore_n (i := 2) (pc := 31) F dX8_letsAll_31 rfl rfl ?_
          refine x_iinc (pc := 32) F dX8_letsAll_32 rfl rfl ?_
          refine x_goto (tgt := 4) (pc := 35) F dX8_letsAll_35 rfl ?_
          first | exact x_sub (L' := [(0, .ref (ad (30, 0, 0))), (1, .int (I g)), (2, .int (I (cntP (fun p => LTg S T p g) (k + 1)))), (3, .int (I ((k + 1 : Nat) : Int)))]) ⟨rfl, rfl, lk_i rfl (by rw [hs, pI_t (hz.mp h22)]), rfl, trivial⟩ (ih (k + 1) μ2 (by omega) (by omega) (b3.trans p2)) | exact x_sub (L' := [(0, .ref (ad (30, 0, 0))), (1, .int (I g)), (2, .int (I (cntP (fun p => LTg S T p g) (k + 1)))), (3, .int (I ((k + 1 : Nat) : Int)))]) ⟨rfl, rfl, lk_i rfl (by rw [hs, pI_f (fun q => by rw [hz.mpr q] at h22; cases h22)]), rfl, trivial⟩ (ih (k + 1) μ2 (by omega) (by omega) (b3.trans p2))
        · try simp only [decide_eq_true_eq, decide_eq_false_iff_not, Bool.and_eq_true, Bool.or_eq_true, Bool.not_eq_true', Bool.not_eq_false', Bool.and_eq_false_iff, Bool.or_eq_false_iff] at h22
          refine x_iconst (pc := 25) F dX8_letsAll_25 ?_
          refine x_goto (tgt := 30) (pc := 26) F dX8_letsAll_26 rfl ?_
          refine x_iadd (pc := 30) F dX8_letsAll_30 ?_
          refine x_istore_n (i := 2) (pc := 31) F dX8_letsAll_31 rfl rfl ?_
          refine x_iinc (pc := 32) F dX8_letsAll_32 rfl rfl ?_
          refine x_goto (tgt := 4) (pc := 35) F dX8_letsAll_35 rfl ?_
          first | exact x_sub (L' := [(0, .ref (ad (30, 0, 0))), (1, .int (I g)), (2, .int (I (cntP (fun p => LTg S T p g) (k + 1)))), (3, .int (I ((k + 1 : Nat) : Int)))]) ⟨rfl, rfl, lk_i rfl (by rw [hs, pI_t (hz.mp h22)]), rfl, trivial⟩ (ih (k + 1) μ2 (by omega) (by omega) (b3.trans p2)) | exact x_sub (L' := [(0, .ref (ad (30, 0, 0))), (1, .int (I g)), (2, .int (I (cntP (fun p => LTg S T p g) (k + 1)))), (3, .int (I ((k + 1 : Nat) : Int)))]) ⟨rfl, rfl, lk_i rfl (by rw [hs, pI_f (fun q => by rw [hz.mpr q] at h22; cases h22)]), rfl, trivial⟩ (ih (k + 1) μ2 (by omega) (by omega) (b3.trans p2))
  refine x_iconst (pc := 0) F dX8_letsAll_0 ?_
  refine x_istore_n (i := 2) (pc := 1) F dX8_letsAll_1 rfl rfl ?_
  refine x_iconst (pc := 2) F dX8_letsAll_2 ?_
  refine x_istore_n (i := 3) (pc := 3) F dX8_letsAll_3 rfl rfl ?_
  exact x_sub (L' := [(0, .ref (ad (30, 0, 0))), (1, .int (I g)), (2, .int (I (cntP (fun p => LTg S T p g) 0))), (3, .int (I ((0 : Nat) : Int)))]) ⟨rfl, rfl, rfl, rfl, trivial⟩ (loop 7 0 μ (by omega) (by omega) (FH.refl μ))
/-- learn, r lessons still to choose -/
def LN (ad : Ob → Nat) (T : Tn) (S : Hs) (g : Int) (n r : Nat) : Prop := ∀ (k pre : Nat) (μ : Me), k + r = n → n ≤ 3 → MEn μ (teL T g (T 76) k pre) S → TI (teL T g (T 76) k pre) → (∀ j : Nat, j < k → μ (41, 0, 0) j = divN pre (T 76) (k - 1 - j) % T 76) → BST μ S T g n (pre * (T 76).toNat ^ r) → ∀ (l : Launch) (E : Ev) (A : Nat → Prop), Con l E (24 + r) m_X8_learn A VM ad μ [.ref (ad (30, 0, 0)), .int (I g), .int (I k), .int (I n)] (pv fun μ' => TN μ' (teL T g (T 76) k pre) ∧ (∀ j : Int, j < k → μ' (41, 0, 0) j = μ (41, 0, 0) j) ∧ BST μ' S T g n ((pre + 1) * (T 76).toNat ^ r) ∧ (∀ j : Int, j < 133 * k → μ' (32, 0, 0) j = μ (32, 0, 0) j) ∧ FX μ μ')
set_option maxRecDepth 20000 in
theorem learn_0 (hI : TI T) (hS : SB S) (hd : T 77 ≤ 9999) (hg : 0 ≤ g ∧ g < 4) (n : Nat) : LN ad T S g n 0 := by
  intro k pre μ hk hn hE hTI hgv hb l E A
  obtain rfl : k = n := by omega
  have e77 : teL T g (T 76) k pre 77 = T 77 := teL_o (by omega) k pre
  have e76 : teL T g (T 76) k pre 76 = T 76 := teL_o (by omega) k pre
  have hJ := hTI.j (by omega)
  have hI76 := hI.2.2.1
  rw [Nat.pow_zero, Nat.mul_one] at hb
  have hmb := maxL_b (f := lesF S T g k) (B := T 76) (pre + 1) (fun j _ _ => lesF_rg g k j hI76.1) pre (by omega)
  have hlr := lesF_rg (S := S) (T := T) g k pre hI76.1
  have hs : maxL (lesF S T g k) (pre + 1) = if (maxL (lesF S T g k) pre).2 < lesF S T g k pre then ((pre : Int), lesF S T g k pre) else maxL (lesF S T g k) pre := rfl
  have hbm := hb.1
  refine con (own := RX8) (by decide +kernel) rfl rfl rfl (fun Γ F => ?_)
  have l30 : (maxL (lesF S T g k) pre).2 < lesF S T g k pre → ∀ (N i : Nat) (μ1 : Me), k - i < N → i ≤ k → μ1 (30, 0, 0) 22 = lesF S T g k pre → (∀ j : Int, 0 ≤ j → j < i → μ1 (42, 0, 0) j = μ (41, 0, 0) j) → μ1 (31, 0, 0) = μ (31, 0, 0) → μ1 (41, 0, 0) = μ (41, 0, 0) → μ1 (32, 0, 0) = μ (32, 0, 0) → FX μ μ1 → XX Γ 6 VM ad (vl ad μ1) 0 0 30 [(0, .ref (ad (30, 0, 0))), (3, .int (I k)), (5, .int (I i))] [] := by
    intro hlt N
    induction N with
    | zero => intro i μ1 b1; omega
    | succ N ih =>
      intro i μ1 b1 b2 b3 b4 b5 b6 b7 b8
      refine x_iload (i := 5) (pc := 30) F dX8_learn_30 rfl ?_
      refine x_iload_n (i := 3) (pc := 32) F dX8_learn_32 rfl rfl ?_
      refine x_icmp_ge (tgt := 56) (pc := 33) F dX8_learn_33 rfl (by omega) (fun h33 => ?_) (fun h33 => ?_)
      · refine tq_retv (pc := 56) F dX8_learn_56 ?_ rfl rfl rfl
        rw [if_pos hlt] at hs
        refine ⟨fun j x y => by rw [b5]; exact hE.1 j x y, fun j _ => by rw [b6], ?_, fun j _ => by rw [b7], b8⟩
        rw [Nat.pow_zero, Nat.mul_one]
        unfold BST
        rw [hs]
        exact ⟨b3, fun _ j hj => by rw [b4 j (by omega) (by omega)]; exact hgv j hj⟩
      · refine x_aload_n (i := 0) (pc := 36) F dX8_learn_36 rfl rfl ?_
        refine gf_X8_46 (pc := 37) F dX8_learn_37 (vm_ok rfl) ?_
        refine x_iload (i := 5) (pc := 40) F dX8_learn_40 rfl ?_
        refine x_aload_n (i := 0) (pc := 42) F dX8_learn_42 rfl rfl ?_
        refine gf_X8_43 (pc := 43) F dX8_learn_43 (vm_ok rfl) ?_
        refine x_iload (i := 5) (pc := 46) F dX8_learn_46 rfl ?_
        refine tq_ia (pc := 48) F dX8_learn_48 (vm_ok rfl) rfl (fun _ => rfl) (by omega) ?_
        refine tq_ias (pc := 49) F dX8_learn_49 (vm_ok rfl) rfl (fun _ => rfl) (by omega) ?_
        refine x_iinc (pc := 50) F dX8_learn_50 rfl rfl ?_
        refine x_goto (tgt := 30) (pc := 53) F dX8_learn_53 rfl ?_
        exact x_sub (L' := [(0, .ref (ad (30, 0, 0))), (3, .int (I k)), (5, .int (I ((i + 1 : Nat) : Int)))]) ⟨rfl, rfl, rfl, trivial⟩ (ih (i + 1) _ (by omega) (by omega) (by rw [upM_ne (by simp)]; exact b3) (fun j x y => by rw [upM_i, b6]; by_cases e : j = i; (rw [if_pos e, e]); rw [if_neg e]; exact b4 j x (by omega)) (by rw [upM_ne (by simp)]; exact b5) (by rw [upM_ne (by simp)]; exact b6) (by rw [upM_ne (by simp)]; exact b7) (b8.trans FX.up42))
  refine x_iload_n (i := 2) (pc := 0) F dX8_learn_0 rfl rfl ?_
  refine x_iload_n (i := 3) (pc := 1) F dX8_learn_1 rfl rfl ?_
  refine x_icmp_ne (tgt := 57) (pc := 2) F dX8_learn_2 rfl (by omega) (fun h2 => ?_) (fun h2 => ?_)
  · exfalso; omega
  · refine x_aload_n (i := 0) (pc := 5) F dX8_learn_5 rfl rfl ?_
    refine x_iload_n (i := 1) (pc := 6) F dX8_learn_6 rfl rfl ?_
    refine x_V1i (ci := 8) (pc := 7) F dX8_learn_7 lk_X8_228 rfl (vm_ok rfl) rfl (Nat.ble_eq_true_of_le (by omega)) (c_X8_letsAll hE hJ hS hg) rfl rfl rfl ?_
    rintro _ μ1 ⟨rfl, p1⟩
    have ea : cntP (fun p => LTg S (teL T g (T 76) k pre) p g) (teL T g (T 76) k pre 76).toNat = lesF S T g k pre := by rw [e76]; rfl
    rw [ea]
    refine x_istore (i := 4) (pc := 10) F dX8_learn_10 rfl ?_
    refine x_iload (i := 4) (pc := 12) F dX8_learn_12 rfl ?_
    refine x_aload_n (i := 0) (pc := 14) F dX8_learn_14 rfl rfl ?_
    refine gf_X8_231 (pc := 15) F dX8_learn_15 (vm_ok rfl) ?_
    rw [p1.1 22 (by decide), hbm]
    refine x_icmp_le (tgt := 56) (pc := 18) F dX8_learn_18 rfl (by omega) (fun h18 => ?_) (fun h18 => ?_)
    · refine tq_retv (pc := 56) F dX8_learn_56 ?_ rfl rfl rfl
      rw [if_neg (by omega)] at hs
      refine ⟨hE.1.fh p1, fun j _ => by rw [p1.2 _ (by simp) (by simp) (by simp)], ?_, fun j _ => by rw [p1.2 _ (by simp) (by simp) (by simp)], FX.fh p1⟩
      rw [Nat.pow_zero, Nat.mul_one]
      unfold BST at hb ⊢
      rw [hs, p1.1 22 (by decide), p1.2 (42, 0, 0) (by simp) (by simp) (by simp)]
      exact hb
    · refine x_aload_n (i := 0) (pc := 21) F dX8_learn_21 rfl rfl ?_
      refine x_iload (i := 4) (pc := 22) F dX8_learn_22 rfl ?_
      refine pf_X8_231 (pc := 24) F dX8_learn_24 (vm_ok rfl) ?_
      refine x_iconst (pc := 27) F dX8_learn_27 ?_
      refine x_istore (i := 5) (pc := 28) F dX8_learn_28 rfl ?_
      exact x_sub (L' := [(0, .ref (ad (30, 0, 0))), (3, .int (I k)), (5, .int (I ((0 : Nat) : Int)))]) ⟨rfl, rfl, rfl, trivial⟩ (l30 (by omega) 4 0 _ (by omega) (by omega) (by rw [upM_i, if_pos rfl]) (fun j x y => by omega) (by rw [upM_ne (by simp), p1.2 _ (by simp) (by simp) (by simp)]) (by rw [upM_ne (by simp), p1.2 _ (by simp) (by simp) (by simp)]) (by rw [upM_ne (by simp), p1.2 _ (by simp) (by simp) (by simp)]) ((FX.fh p1).trans FX.up30))
set_option maxRecDepth 20000 in
theorem learn_s (hI : TI T) (hS : SB S) (hd : T 77 ≤ 9999) (hg : 0 ≤ g ∧ g < 4) (n r : Nat) (hL : LN ad T S g n r) : LN ad T S g n (r + 1) := by
  intro k pre μ hk hn hE hTI hgv hb l E A
  have e76 : teL T g (T 76) k pre 76 = T 76 := teL_o (by omega) k pre
  have hI76 := hI.2.2.1
  refine con (own := RX8) (by decide +kernel) rfl rfl rfl (fun Γ F => ?_)
  have loop : ∀ (N i : Nat) (μ1 : Me), T 76 - i < N → i ≤ T 76 → TN μ1 (teL T g (T 76) k pre) → (∀ j : Int, j < k → μ1 (41, 0, 0) j = μ (41, 0, 0) j) → BST μ1 S T g n ((pre * (T 76).toNat + i) * (T 76).toNat ^ r) → (∀ j : Int, 0 ≤ j → j < 133 → μ1 (32, 0, 0) (133 * k + j) = teL T g (T 76) k pre j) → (∀ j : Int, j < 133 * k → μ1 (32, 0, 0) j = μ (32, 0, 0) j) → FX μ μ1 → XX Γ 6 VM ad (vl ad μ1) 0 0 65 [(0, .ref (ad (30, 0, 0))), (1, .int (I g)), (2, .int (I k)), (3, .int (I n)), (4, .int (I i))] [] := by
    intro N
    induction N with
    | zero => intro i μ1 b1; omega
    | succ N ih =>
      intro i μ1 b1 b2 b3 b4 b5 b6 b7 b8
      have h76 := b3 76 (by omega) (by omega)
      rw [e76] at h76
      refine x_iload (i := 4) (pc := 65) F dX8_learn_65 rfl ?_
      refine x_aload_n (i := 0) (pc := 67) F dX8_learn_67 rfl rfl ?_
      refine gf_X8_9 (pc := 68) F dX8_learn_68 (vm_ok rfl) ?_
      refine x_bipush (pc := 71) F dX8_learn_71 (by decide) ?_
      refine tq_ia (pc := 73) F dX8_learn_73 (vm_ok rfl) rfl (fun _ => rfl) (by omega) ?_
      refine x_icmp_ge (tgt := 118) (pc := 74) F dX8_learn_74 rfl (by omega) (fun h74 => ?_) (fun h74 => ?_)
      · refine tq_retv (pc := 118) F dX8_learn_118 ?_ rfl rfl rfl
        refine ⟨b3, b4, ?_, b7, b8⟩
        have ei : i = (T 76).toNat := by omega
        have ec : (pre + 1) * (T 76).toNat ^ (r + 1) = (pre * (T 76).toNat + i) * (T 76).toNat ^ r := by rw [ei, Nat.pow_succ, Nat.mul_comm ((T 76).toNat ^ r), ← Nat.mul_assoc, Nat.add_mul pre 1, Nat.one_mul]
        rw [ec]; exact b5
      · refine x_aload_n (i := 0) (pc := 77) F dX8_learn_77 rfl rfl ?_
        refine gf_X8_43 (pc := 78) F dX8_learn_78 (vm_ok rfl) ?_
        refine x_iload_n (i := 2) (pc := 81) F dX8_learn_81 rfl rfl ?_
        refine x_iload (i := 4) (pc := 82) F dX8_learn_82 rfl ?_
        refine tq_ias (pc := 84) F dX8_learn_84 (vm_ok rfl) rfl (fun _ => rfl) (by omega) ?_
        refine x_aload_n (i := 0) (pc := 85) F dX8_learn_85 rfl rfl ?_
        refine x_iload_n (i := 1) (pc := 86) F dX8_learn_86 rfl rfl ?_
        refine x_aload_n (i := 0) (pc := 87) F dX8_learn_87 rfl rfl ?_
        refine x_iload (i := 4) (pc := 88) F dX8_learn_88 rfl ?_
        refine x_iconst (pc := 90) F dX8_learn_90 ?_
        have hT1 : TN (upM μ1 (41, 0, 0) k i) (teL T g (T 76) k pre) := b3.ne (by simp)
        refine x_V2i (ci := 8) (pc := 91) F dX8_learn_91 lk_X8_82 rfl (vm_ok rfl) rfl (Nat.ble_eq_true_of_le (by omega)) (c_X8_one hT1 (18 + 10 * (i : Int)) _ _ (by omega)) rfl rfl rfl ?_
        rintro _ _ ⟨rfl, rfl⟩
        have e18 : teL T g (T 76) k pre (18 + 10 * (i : Int)) = T (18 + 10 * (i : Int)) := teL_o (by omega) k pre
        have hwr := (hTI.2.1 i (by omega) (by omega)).2.2.1
        refine x_V2i (ci := 8) (pc := 94) F dX8_learn_94 lk_X8_197 rfl (vm_ok rfl) rfl (Nat.ble_eq_true_of_le (by omega)) (c_X8_taught hT1 (hTI.1 g (by omega) (by omega)) hg hwr) rfl rfl rfl ?_
        rintro _ μ2 ⟨rfl, p1, p2⟩
        refine x_pop (pc := 97) F dX8_learn_97 rfl ?_
        have em : ((T 76).toNat : Int) = T 76 := by omega
        have er1 : ((pre * (T 76).toNat + i : Nat) : Int) / T 76 = pre := by
          rw [Int.natCast_add, Int.natCast_mul, em, Int.add_comm, Int.add_mul_ediv_right _ _ (by omega), Int.ediv_eq_zero_of_lt (by omega) (by omega)]; omega
        have er2 : ((pre * (T 76).toNat + i : Nat) : Int) % T 76 = i := by
          rw [Int.natCast_add, Int.natCast_mul, em, Int.add_comm, Int.add_mul_emod_self_right, Int.emod_eq_of_lt (by omega) (by omega)]
        have et : teL T g (T 76) (k + 1) ((pre * (T 76).toNat + i : Nat) : Int) = tauT (teL T g (T 76) k pre) g (teL T g (T 76) k pre (18 + 10 * (i : Int))) := by
          show tauT (teL T g (T 76) k (((pre * (T 76).toNat + i : Nat) : Int) / T 76)) g (T (18 + 10 * (((pre * (T 76).toNat + i : Nat) : Int) % T 76))) = _
          rw [er1, er2, e18]
        have x2 : FX μ μ2 := (b8.trans FX.up41).trans (FX.o31 p2)
        have hT2 : TN μ2 (teL T g (T 76) (k + 1) ((pre * (T 76).toNat + i : Nat) : Int)) := by rw [et]; exact p1
        have e78 : teL T g (T 76) (k + 1) ((pre * (T 76).toNat + i : Nat) : Int) 78 = teL T g (T 76) k pre 78 := by rw [teL_o (by omega), teL_o (by omega)]
        have hE2 : MEn μ2 (teL T g (T 76) (k + 1) ((pre * (T 76).toNat + i : Nat) : Int)) S := hE.fx x2 hT2 e78
        have hb2 : BST μ2 S T g n ((pre * (T 76).toNat + i) * (T 76).toNat ^ r) := by unfold BST at b5 ⊢; rw [p2 (30, 0, 0) (by simp), p2 (42, 0, 0) (by simp), upM_ne (by simp), upM_ne (by simp)]; exact b5
        have hg2 : ∀ j : Nat, j < k + 1 → μ2 (41, 0, 0) j = divN ((pre * (T 76).toNat + i : Nat) : Int) (T 76) (k + 1 - 1 - j) % T 76 := fun j hj => by
          rw [p2 (41, 0, 0) (by simp), upM_i]
          by_cases e : j = k
          · rw [if_pos (by omega), e, show k + 1 - 1 - k = 0 by omega]; exact er2.symm
          · rw [if_neg (by omega), b4 j (by omega), hgv j (by omega), show k + 1 - 1 - j = (k - 1 - j) + 1 by omega, divN_s, er1]
        refine x_aload_n (i := 0) (pc := 98) F dX8_learn_98 rfl rfl ?_
        refine x_iload_n (i := 1) (pc := 99) F dX8_learn_99 rfl rfl ?_
        refine x_iload_n (i := 2) (pc := 100) F dX8_learn_100 rfl rfl ?_
        refine x_iconst (pc := 101) F dX8_learn_101 ?_
        refine x_iadd (pc := 102) F dX8_learn_102 ?_
        refine x_iload_n (i := 3) (pc := 103) F dX8_learn_103 rfl rfl ?_
        rw [show (k : Int) + 1 = ((k + 1 : Nat) : Int) from rfl]
        refine x_V3v (ci := 8) (pc := 104) F dX8_learn_104 lk_X8_234 rfl (vm_ok rfl) rfl (Nat.ble_eq_true_of_le (by omega)) (hL (k + 1) (pre * (T 76).toNat + i) μ2 (by omega) hn hE2 (teL_TI hI hg (by omega) _ _) hg2 hb2) rfl rfl rfl ?_
        rintro μ3 ⟨q1, q2, q3, q4, q5⟩
        refine x_aload_n (i := 0) (pc := 107) F dX8_learn_107 rfl rfl ?_
        refine x_iload_n (i := 2) (pc := 108) F dX8_learn_108 rfl rfl ?_
        refine x_V1v (ci := 8) (pc := 109) F dX8_learn_109 lk_X8_209 rfl (vm_ok rfl) rfl (Nat.ble_eq_true_of_le (by omega)) (c_X8_lay k (by omega)) rfl rfl rfl ?_
        rintro μ4 ⟨r1, r2⟩
        refine x_iinc (pc := 112) F dX8_learn_112 rfl rfl ?_
        refine x_goto (tgt := 65) (pc := 115) F dX8_learn_115 rfl ?_
        refine x_sub (L' := [(0, .ref (ad (30, 0, 0))), (1, .int (I g)), (2, .int (I k)), (3, .int (I n)), (4, .int (I ((i + 1 : Nat) : Int)))]) ⟨rfl, rfl, rfl, rfl, rfl, trivial⟩ (ih (i + 1) μ4 (by omega) (by omega) (fun j x y => ?_) (fun j hj => ?_) ?_ (fun j x y => ?_) (fun j hj => ?_) ((x2.trans q5).trans (FX.o31 r2)))
        · rw [r1 j x y, q4 _ (by omega), p2 _ (by simp), upM_ne (by simp)]; exact b6 j x y
        · rw [r2 _ (by simp), q2 j (by omega), p2 _ (by simp), upM_i, if_neg (by omega)]; exact b4 j hj
        · unfold BST at q3 ⊢
          rw [r2 (30, 0, 0) (by simp), r2 (42, 0, 0) (by simp), show pre * (T 76).toNat + (i + 1) = pre * (T 76).toNat + i + 1 by omega]; exact q3
        · rw [r2 _ (by simp), q4 _ (by omega), p2 _ (by simp), upM_ne (by simp)]; exact b6 j x y
        · rw [r2 _ (by simp), q4 _ (by omega), p2 _ (by simp), upM_ne (by simp)]; exact b7 j hj
  refine x_iload_n (i := 2) (pc := 0) F dX8_learn_0 rfl rfl ?_
  refine x_iload_n (i := 3) (pc := 1) F dX8_learn_1 rfl rfl ?_
  refine x_icmp_ne (tgt := 57) (pc := 2) F dX8_learn_2 rfl (by omega) (fun h2 => ?_) (fun h2 => ?_)
  · refine x_aload_n (i := 0) (pc := 57) F dX8_learn_57 rfl rfl ?_
    refine x_iload_n (i := 2) (pc := 58) F dX8_learn_58 rfl rfl ?_
    refine x_V1v (ci := 8) (pc := 59) F dX8_learn_59 lk_X8_206 rfl (vm_ok rfl) rfl (Nat.ble_eq_true_of_le (by omega)) (c_X8_keep k (by omega)) rfl rfl rfl ?_
    rintro μ1 p1
    refine x_iconst (pc := 62) F dX8_learn_62 ?_
    refine x_istore (i := 4) (pc := 63) F dX8_learn_63 rfl ?_
    refine x_sub (L' := [(0, .ref (ad (30, 0, 0))), (1, .int (I g)), (2, .int (I k)), (3, .int (I n)), (4, .int (I ((0 : Nat) : Int)))]) ⟨rfl, rfl, rfl, rfl, rfl, trivial⟩ (loop 7 0 μ1 (by omega) (by omega) (hE.kp p1).1 (fun j _ => by rw [p1.2.2 _ (by simp)]) ?_ (fun j x y => by rw [p1.1 j x y]; exact hE.1 j x y) (fun j hj => p1.2.1 j (Or.inl hj)) (FX.kp p1))
    have ec : (pre * (T 76).toNat + 0) * (T 76).toNat ^ r = pre * (T 76).toNat ^ (r + 1) := by rw [Nat.add_zero, Nat.pow_succ, Nat.mul_assoc, Nat.mul_comm ((T 76).toNat ^ r)]
    rw [ec]
    unfold BST at hb ⊢
    rw [p1.2.2 (30, 0, 0) (by simp), p1.2.2 (42, 0, 0) (by simp)]; exact hb
  · exfalso; omega
theorem learn_all (hI : TI T) (hS : SB S) (hd : T 77 ≤ 9999) (hg : 0 ≤ g ∧ g < 4) (n : Nat) : ∀ r : Nat, LN ad T S g n r
  | 0 => learn_0 hI hS hd hg n
  | r + 1 => learn_s hI hS hd hg n r (learn_all hI hS hd hg n r)
set_option maxRecDepth 20000 in
theorem c_X8_lessons (hE : MEn μ T S) (hI : TI T) (hS : SB S) (hd : T 77 ≤ 9999) (n k : Int) (hg : -2147483648 ≤ g ∧ g < 2147483648) (hn : -2147483648 ≤ n ∧ n < 2147483648) (hk : -2147483648 ≤ k ∧ k < 2147483648) (l : Launch) (E : Ev) (A : Nat → Prop) : Con l E 28 m_X8_lessons A VM ad μ [.ref (ad (30, 0, 0)), .int (I g), .int (I n), .int (I k)] (pi fun z μ' => z = lessonsZ S T g n k ∧ TN μ' T ∧ FX μ μ') := by
  have hT := hE.1
  have hI76 := hI.2.2.1
  refine con (own := RX8) (by decide +kernel) rfl rfl rfl (fun Γ F => ?_)
  refine x_iload_n (i := 1) (pc := 0) F dX8_lessons_0 rfl rfl ?_
  refine x_S1z (pc := 1) F dX8_lessons_1 lk_X8_86 rfl (c_isGateW _ _ (by omega)) rfl rfl rfl ?_
  rintro _ _ ⟨rfl, rfl⟩
  refine x_if_eqB (tgt := 16) (pc := 4) F dX8_lessons_4 rfl (fun h4 => ?_) (fun h4 => ?_)
  · try simp only [decide_eq_true_eq, decide_eq_false_iff_not, Bool.and_eq_true, Bool.or_eq_true, Bool.not_eq_true', Bool.not_eq_false', Bool.and_eq_false_iff, Bool.or_eq_false_iff] at h4
    refine x_iconst (pc := 16) F dX8_lessons_16 ?_
    refine tq_reti (pc := 17) F dX8_lessons_17 ?_ rfl rfl rfl
    exact ⟨by unfold lessonsZ; rw [if_neg (by omega)], hT, FX.refl μ⟩
  · try simp only [decide_eq_true_eq, decide_eq_false_iff_not, Bool.and_eq_true, Bool.or_eq_true, Bool.not_eq_true', Bool.not_eq_false', Bool.and_eq_false_iff, Bool.or_eq_false_iff] at h4
    refine x_iload_n (i := 3) (pc := 7) F dX8_lessons_7 rfl rfl ?_
    refine x_iconst (pc := 8) F dX8_lessons_8 ?_
    refine x_iconst (pc := 9) F dX8_lessons_9 ?_
    refine x_S3z (pc := 10) F dX8_lessons_10 lk_X8_78 rfl (c_X8_isIn _ _ _ (by omega) _) rfl rfl rfl ?_
    rintro _ _ ⟨rfl, rfl⟩
    refine x_if_neB (tgt := 18) (pc := 13) F dX8_lessons_13 rfl (fun h13 => ?_) (fun h13 => ?_)
    · try simp only [decide_eq_true_eq, decide_eq_false_iff_not, Bool.and_eq_true, Bool.or_eq_true, Bool.not_eq_true', Bool.not_eq_false', Bool.and_eq_false_iff, Bool.or_eq_false_iff] at h13
      refine x_iload_n (i := 2) (pc := 18) F dX8_lessons_18 rfl rfl ?_
      refine x_iconst (pc := 19) F dX8_lessons_19 ?_
      refine x_iconst (pc := 20) F dX8_lessons_20 ?_
      refine x_S3z (pc := 21) F dX8_lessons_21 lk_X8_78 rfl (c_X8_isIn _ _ _ (by omega) _) rfl rfl rfl ?_
      rintro _ _ ⟨rfl, rfl⟩
      refine x_if_neB (tgt := 30) (pc := 24) F dX8_lessons_24 rfl (fun h24 => ?_) (fun h24 => ?_)
      · try simp only [decide_eq_true_eq, decide_eq_false_iff_not, Bool.and_eq_true, Bool.or_eq_true, Bool.not_eq_true', Bool.not_eq_false', Bool.and_eq_false_iff, Bool.or_eq_false_iff] at h24
        refine x_aload_n (i := 0) (pc := 30) F dX8_lessons_30 rfl rfl ?_
        refine x_iconst (pc := 31) F dX8_lessons_31 ?_
        refine pf_X8_231 (pc := 32) F dX8_lessons_32 (vm_ok rfl) ?_
        refine x_aload_n (i := 0) (pc := 35) F dX8_lessons_35 rfl rfl ?_
        refine x_iload_n (i := 1) (pc := 36) F dX8_lessons_36 rfl rfl ?_
        refine x_iconst (pc := 37) F dX8_lessons_37 ?_
        refine x_iload_n (i := 2) (pc := 38) F dX8_lessons_38 rfl rfl ?_
        obtain ⟨m, rfl⟩ : ∃ m : Nat, n = m := ⟨n.toNat, by omega⟩
        have hE0 : MEn (upM μ (30, 0, 0) 22 (-1)) (teL T g (T 76) 0 ((0 : Nat) : Int)) S := hE.fx FX.up30 (hT.ne (by simp)) rfl
        refine x_V3v (ci := 8) (d2 := 24 + m) (pc := 39) F dX8_lessons_39 lk_X8_234 rfl (vm_ok rfl) rfl (Nat.ble_eq_true_of_le (by omega)) (learn_all hI hS hd (by omega) m m 0 0 _ (by omega) (by omega) hE0 hI (fun j hj ↦ absurd hj (Nat.not_lt_zero j)) ⟨by rw [upM_i, if_pos rfl, Nat.zero_mul]; rfl, fun z ↦ by rw [Nat.zero_mul] at z; exact absurd z (show ¬ (0 : Int) ≤ -1 by decide)⟩) rfl rfl rfl ?_
        rintro μ1 ⟨p1, p2, p3, p4, p5⟩
        rw [Nat.zero_add, Nat.one_mul] at p3
        have hT1 : TN μ1 T := p1
        have hx1 : FX μ μ1 := FX.up30.trans p5
        have hlb : lesB S T g m = maxL (lesF S T g m) ((T 76).toNat ^ m) := rfl
        have hmb := maxL_b (f := lesF S T g m) (B := T 76) ((T 76).toNat ^ m) (fun j _ _ => lesF_rg g m j hI76.1) _ (Nat.le_refl _)
        have hpw : 0 < T 76 → 0 < (T 76).toNat ^ m := fun h => Nat.pow_pos (by omega)
        have hpz : T 76 = 0 → maxL (lesF S T g m) ((T 76).toNat ^ m) = (0, -1) := fun h => by rw [h, show (0 : Int).toNat = 0 from rfl, Nat.zero_pow (by omega)]; rfl
        refine x_iload_n (i := 3) (pc := 42) F dX8_lessons_42 rfl rfl ?_
        refine x_iconst (pc := 43) F dX8_lessons_43 ?_
        refine x_icmp_ne (tgt := 56) (pc := 44) F dX8_lessons_44 rfl (by omega) (fun h44 => ?_) (fun h44 => ?_)
        · refine x_iload_n (i := 3) (pc := 56) F dX8_lessons_56 rfl rfl ?_
          refine x_iload_n (i := 2) (pc := 57) F dX8_lessons_57 rfl rfl ?_
          refine x_icmp_ge (tgt := 80) (pc := 58) F dX8_lessons_58 rfl (by omega) (fun h58 => ?_) (fun h58 => ?_)
          · refine x_bipush (pc := 80) F dX8_lessons_80 (by decide) ?_
            refine tq_reti (pc := 82) F dX8_lessons_82 ?_ rfl rfl rfl
            refine ⟨?_, hT1, hx1⟩
            unfold lessonsZ
            rw [if_pos (by omega), if_pos (by omega)]
            first | (rw [if_neg (show ¬ T 76 = 0 by omega), if_neg (show ¬ k = -1 by omega), if_pos (by omega), show (m : Int).toNat = m from rfl, hlb, show ((m : Int) - 1 - k).toNat = m - 1 - k.toNat by omega]) | (by_cases e : T 76 = 0; (rw [if_pos e, if_neg (by omega)]); (rw [if_neg e, if_neg (show ¬ k = -1 by omega), if_neg (by omega)]))
          · refine x_aload_n (i := 0) (pc := 61) F dX8_lessons_61 rfl rfl ?_
            refine gf_X8_9 (pc := 62) F dX8_lessons_62 (vm_ok rfl) ?_
            refine x_bipush (pc := 65) F dX8_lessons_65 (by decide) ?_
            refine tq_ia (pc := 67) F dX8_lessons_67 (vm_ok rfl) rfl (fun _ => rfl) (by omega) ?_
            rw [hT1 76 (by omega) (by omega)]
            refine x_if_le (tgt := 80) (pc := 68) F dX8_lessons_68 rfl (by omega) (fun h68 => ?_) (fun h68 => ?_)
            · refine x_bipush (pc := 80) F dX8_lessons_80 (by decide) ?_
              refine tq_reti (pc := 82) F dX8_lessons_82 ?_ rfl rfl rfl
              refine ⟨?_, hT1, hx1⟩
              unfold lessonsZ
              rw [if_pos (by omega), if_pos (by omega)]
              first | (rw [if_neg (show ¬ T 76 = 0 by omega), if_neg (show ¬ k = -1 by omega), if_pos (by omega), show (m : Int).toNat = m from rfl, hlb, show ((m : Int) - 1 - k).toNat = m - 1 - k.toNat by omega]) | (by_cases e : T 76 = 0; (rw [if_pos e, if_neg (by omega)]); (rw [if_neg e, if_neg (show ¬ k = -1 by omega), if_neg (by omega)]))
            · refine x_aload_n (i := 0) (pc := 71) F dX8_lessons_71 rfl rfl ?_
              refine gf_X8_46 (pc := 72) F dX8_lessons_72 (vm_ok rfl) ?_
              refine x_iload_n (i := 3) (pc := 75) F dX8_lessons_75 rfl rfl ?_
              refine tq_ia (pc := 76) F dX8_lessons_76 (vm_ok rfl) rfl (fun _ => rfl) (by omega) ?_
              rw [show k = ((k.toNat : Nat) : Int) by omega, p3.2 (hmb.2.2 (hpw (by omega))).1 k.toNat (by omega)]
              refine x_goto (tgt := 82) (pc := 77) F dX8_lessons_77 rfl ?_
              refine tq_reti (pc := 82) F dX8_lessons_82 ?_ rfl rfl rfl
              refine ⟨?_, hT1, hx1⟩
              unfold lessonsZ
              rw [if_pos (by omega), if_pos (by omega)]
              first | (rw [if_neg (show ¬ T 76 = 0 by omega), if_neg (show ¬ k = -1 by omega), if_pos (by omega), show (m : Int).toNat = m from rfl, hlb, show ((m : Int) - 1 - k).toNat = m - 1 - k.toNat by omega]) | (by_cases e : T 76 = 0; (rw [if_pos e, if_neg (by omega)]); (rw [if_neg e, if_neg (show ¬ k = -1 by omega), if_neg (by omega)]))
        · refine x_iconst (pc := 47) F dX8_lessons_47 ?_
          refine x_aload_n (i := 0) (pc := 48) F dX8_lessons_48 rfl rfl ?_
          refine gf_X8_231 (pc := 49) F dX8_lessons_49 (vm_ok rfl) ?_
          rw [p3.1]
          refine tq_max (pc := 52) F dX8_lessons_52 kw_1106 rfl rfl rfl rfl (by omega) ?_
          refine tq_reti (pc := 55) F dX8_lessons_55 ?_ rfl rfl rfl
          refine ⟨?_, hT1, hx1⟩
          unfold lessonsZ
          rw [if_pos (by omega), if_pos (by omega)]
          by_cases e : T 76 = 0
          · rw [if_pos e, if_pos (by omega), hpz e]; rfl
          · have := hmb.2.2 (hpw (by omega)); rw [if_neg e, if_pos (by omega), show (m : Int).toNat = m from rfl, hlb]; omega
      · try simp only [decide_eq_true_eq, decide_eq_false_iff_not, Bool.and_eq_true, Bool.or_eq_true, Bool.not_eq_true', Bool.not_eq_false', Bool.and_eq_false_iff, Bool.or_eq_false_iff] at h24
        refine x_bipush (pc := 27) F dX8_lessons_27 (by decide) ?_
        refine tq_reti (pc := 29) F dX8_lessons_29 ?_ rfl rfl rfl
        exact ⟨by unfold lessonsZ; rw [if_pos (by omega), if_neg (by omega)], hT, FX.refl μ⟩
    · try simp only [decide_eq_true_eq, decide_eq_false_iff_not, Bool.and_eq_true, Bool.or_eq_true, Bool.not_eq_true', Bool.not_eq_false', Bool.and_eq_false_iff, Bool.or_eq_false_iff] at h13
      refine x_iconst (pc := 16) F dX8_lessons_16 ?_
      refine tq_reti (pc := 17) F dX8_lessons_17 ?_ rfl rfl rfl
      exact ⟨by unfold lessonsZ; rw [if_neg (by omega)], hT, FX.refl μ⟩
end MLE
