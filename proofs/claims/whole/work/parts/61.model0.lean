/-! ===== the reference: its row of numbers ===== -/
def TN (μ : Me) (T : Tn) : Prop := ∀ k, 0 ≤ k → k < 133 → μ (31, 0, 0) k = T k
theorem I_shr {a k : Int} (h : 0 ≤ a ∧ a < 4096 ∧ 0 ≤ k ∧ k < 12) : I a >>> (I k &&& 31) = I (a / p2 k) := by
  have h0 : ∀ k : Nat, k < 12 → ∀ x : Nat, x < 64 → ∀ y : Nat, y < 64 → nI (64 * x + y) >>> (nI k &&& 31) = nI ((64 * x + y) / 2 ^ k) := by decide +kernel
  have h1 := h0 k.toNat (by omega) (a.toNat / 64) (by omega) (a.toNat % 64) (by omega)
  rw [show 64 * (a.toNat / 64) + a.toNat % 64 = a.toNat by omega, I_nI, I_nI, I_nI, toNat_c h.1, toNat_c h.2.2.1] at h1
  rw [h1]
  unfold p2
  congr 1
  rw [Int.natCast_ediv, toNat_c h.1]
theorem and_one {a : Int} (h : 0 ≤ a) : wa a 1 = a % 2 := by
  unfold wa
  rw [show (1 : Int).toNat = 1 from rfl, Nat.and_one_is_mod]
  omega
theorem popF_s (a : Int) (k : Nat) (ha : 0 ≤ a) : ((popF (k + 1) a.toNat : Nat) : Int) = (popF k a.toNat : Nat) + a / p2 k % 2 := by
  simp only [popF]
  rw [Nat.shiftRight_eq_div_pow]
  unfold p2
  rw [Int.toNat_natCast]
  have : (a.toNat / 2 ^ k : Nat) = ((a / ((2 ^ k : Nat) : Int))) := by rw [Int.natCast_ediv, toNat_c ha]
  omega
section M0
variable {ad : Ob → Nat} {μ : Me} {T : Tn}
set_option maxRecDepth 20000 in
theorem c_X8_isIn (a b c : Int) (h : (-2147483648 ≤ a ∧ a < 2147483648) ∧ (-2147483648 ≤ b ∧ b < 2147483648) ∧ -2147483648 ≤ c ∧ c < 2147483648) (V : Ob → Prop) (l : Launch) (E : Ev) (A : Nat → Prop) : Con l E 0 m_X8_isIn A V ad μ [.int (I a), .int (I b), .int (I c)] (pz fun z μ' => z = decide (b ≤ a ∧ a ≤ c) ∧ μ = μ') := by
  refine con (own := RX8) (by decide +kernel) rfl rfl rfl (fun Γ F => ?_)
  refine x_iload_n (i := 0) (pc := 0) F dX8_isIn_0 rfl rfl ?_
  refine x_iload_n (i := 1) (pc := 1) F dX8_isIn_1 rfl rfl ?_
  refine x_icmp_lt (tgt := 14) (pc := 2) F dX8_isIn_2 rfl (by omega) (fun h2 => ?_) (fun h2 => ?_)
  · refine x_iconst (pc := 14) F dX8_isIn_14 ?_
    refine tq_retz (b := false) (pc := 15) F dX8_isIn_15 ?_ rfl rfl rfl
    exact ⟨by simp only [Bool.true_eq, Bool.false_eq, decide_eq_true_eq, decide_eq_false_iff_not]; omega, rfl⟩
  · refine x_iload_n (i := 0) (pc := 5) F dX8_isIn_5 rfl rfl ?_
    refine x_iload_n (i := 2) (pc := 6) F dX8_isIn_6 rfl rfl ?_
    refine x_icmp_gt (tgt := 14) (pc := 7) F dX8_isIn_7 rfl (by omega) (fun h7 => ?_) (fun h7 => ?_)
    · refine x_iconst (pc := 14) F dX8_isIn_14 ?_
      refine tq_retz (b := false) (pc := 15) F dX8_isIn_15 ?_ rfl rfl rfl
      exact ⟨by simp only [Bool.true_eq, Bool.false_eq, decide_eq_true_eq, decide_eq_false_iff_not]; omega, rfl⟩
    · refine x_iconst (pc := 10) F dX8_isIn_10 ?_
      refine x_goto (tgt := 15) (pc := 11) F dX8_isIn_11 rfl ?_
      refine tq_retz (b := true) (pc := 15) F dX8_isIn_15 ?_ rfl rfl rfl
      exact ⟨by simp only [Bool.true_eq, Bool.false_eq, decide_eq_true_eq, decide_eq_false_iff_not]; omega, rfl⟩
set_option maxRecDepth 20000 in
theorem c_X8_isGate (g : Int) (h : -2147483648 ≤ g ∧ g < 2147483648) (V : Ob → Prop) (l : Launch) (E : Ev) (A : Nat → Prop) : Con l E 1 m_X8_isGate A V ad μ [.int (I g)] (pz fun z μ' => z = decide (0 ≤ g ∧ g < 4) ∧ μ = μ') := by
  refine con (own := RX8) (by decide +kernel) rfl rfl rfl (fun Γ F => ?_)
  refine x_iload_n (i := 0) (pc := 0) F dX8_isGate_0 rfl rfl ?_
  refine x_iconst (pc := 1) F dX8_isGate_1 ?_
  refine x_iconst (pc := 2) F dX8_isGate_2 ?_
  refine x_S3z (pc := 3) F dX8_isGate_3 lk_X8_78 rfl (c_X8_isIn _ _ _ (by omega) _) rfl rfl rfl ?_
  rintro _ _ ⟨rfl, rfl⟩
  refine tq_retz (pc := 6) F dX8_isGate_6 ?_ rfl rfl rfl
  exact ⟨by rw [decide_eq_decide]; omega, rfl⟩
set_option maxRecDepth 20000 in
theorem c_X8_isTape (g : Int) (h : -2147483648 ≤ g ∧ g < 2147483648) (V : Ob → Prop) (l : Launch) (E : Ev) (A : Nat → Prop) : Con l E 1 m_X8_isTape A V ad μ [.int (I g)] (pz fun z μ' => z = decide (0 ≤ g ∧ g < 6) ∧ μ = μ') := by
  refine con (own := RX8) (by decide +kernel) rfl rfl rfl (fun Γ F => ?_)
  refine x_iload_n (i := 0) (pc := 0) F dX8_isTape_0 rfl rfl ?_
  refine x_iconst (pc := 1) F dX8_isTape_1 ?_
  refine x_iconst (pc := 2) F dX8_isTape_2 ?_
  refine x_S3z (pc := 3) F dX8_isTape_3 lk_X8_78 rfl (c_X8_isIn _ _ _ (by omega) _) rfl rfl rfl ?_
  rintro _ _ ⟨rfl, rfl⟩
  refine tq_retz (pc := 6) F dX8_isTape_6 ?_ rfl rfl rfl
  exact ⟨by rw [decide_eq_decide]; omega, rfl⟩
set_option maxRecDepth 20000 in
theorem c_X8_isComer (hT : TN μ T) (hI : 0 ≤ T 76 ∧ T 76 ≤ 6) (c : Int) (h : -2147483648 ≤ c ∧ c < 2147483648) (l : Launch) (E : Ev) (A : Nat → Prop) : Con l E 1 m_X8_isComer A VM ad μ [.ref (ad (30, 0, 0)), .int (I c)] (pz fun z μ' => z = decide (0 ≤ c ∧ c < T 76) ∧ μ = μ') := by
  have h76 := hT 76 (by omega) (by omega)
  refine con (own := RX8) (by decide +kernel) rfl rfl rfl (fun Γ F => ?_)
  refine x_iload_n (i := 1) (pc := 0) F dX8_isComer_0 rfl rfl ?_
  refine x_iconst (pc := 1) F dX8_isComer_1 ?_
  refine x_aload_n (i := 0) (pc := 2) F dX8_isComer_2 rfl rfl ?_
  refine gf_X8_9 (pc := 3) F dX8_isComer_3 (vm_ok rfl) ?_
  refine x_bipush (pc := 6) F dX8_isComer_6 (by decide) ?_
  refine tq_ia (pc := 8) F dX8_isComer_8 (vm_ok rfl) rfl (fun _ => rfl) (by omega) ?_
  refine x_iconst (pc := 9) F dX8_isComer_9 ?_
  refine x_isub (pc := 10) F dX8_isComer_10 ?_
  refine x_S3z (pc := 11) F dX8_isComer_11 lk_X8_78 rfl (c_X8_isIn _ _ _ (by omega) _) rfl rfl rfl ?_
  rintro _ _ ⟨rfl, rfl⟩
  refine tq_retz (pc := 14) F dX8_isComer_14 ?_ rfl rfl rfl
  exact ⟨by rw [decide_eq_decide]; omega, rfl⟩
set_option maxRecDepth 20000 in
theorem c_X8_one (hT : TN μ T) (k i w : Int) (hk : 16 + 10 * i + w = k ∧ 0 ≤ k ∧ k < 133) (l : Launch) (E : Ev) (A : Nat → Prop) : Con l E 0 m_X8_one A VM ad μ [.ref (ad (30, 0, 0)), .int (I i), .int (I w)] (pi fun z μ' => z = T k ∧ μ = μ') := by
  refine con (own := RX8) (by decide +kernel) rfl rfl rfl (fun Γ F => ?_)
  refine x_aload_n (i := 0) (pc := 0) F dX8_one_0 rfl rfl ?_
  refine gf_X8_9 (pc := 1) F dX8_one_1 (vm_ok rfl) ?_
  refine x_bipush (pc := 4) F dX8_one_4 (by decide) ?_
  refine x_bipush (pc := 6) F dX8_one_6 (by decide) ?_
  refine x_iload_n (i := 1) (pc := 8) F dX8_one_8 rfl rfl ?_
  refine x_imul (pc := 9) F dX8_one_9 ?_
  refine x_iadd (pc := 10) F dX8_one_10 ?_
  refine x_iload_n (i := 2) (pc := 11) F dX8_one_11 rfl rfl ?_
  refine x_iadd (pc := 12) F dX8_one_12 ?_
  refine tq_ia (pc := 13) F dX8_one_13 (vm_ok rfl) rfl (fun _ => rfl) (by omega) ?_
  refine tq_reti (pc := 14) F dX8_one_14 ?_ rfl rfl rfl
  exact ⟨by rw [hk.1, hT k hk.2.1 hk.2.2], rfl⟩
set_option maxRecDepth 20000 in
theorem c_X8_change (hT : TN μ T) (k i w n : Int) (hk : 16 + 10 * i + w = k ∧ 0 ≤ k ∧ k < 133) (l : Launch) (E : Ev) (A : Nat → Prop) : Con l E 1 m_X8_change A VM ad μ [.ref (ad (30, 0, 0)), .int (I i), .int (I w), .int (I n)] (pi fun z μ' => z = T k ∧ upM μ (31, 0, 0) k n = μ') := by
  refine con (own := RX8) (by decide +kernel) rfl rfl rfl (fun Γ F => ?_)
  refine x_aload_n (i := 0) (pc := 0) F dX8_change_0 rfl rfl ?_
  refine x_iload_n (i := 1) (pc := 1) F dX8_change_1 rfl rfl ?_
  refine x_iload_n (i := 2) (pc := 2) F dX8_change_2 rfl rfl ?_
  refine x_V2i (ci := 8) (pc := 3) F dX8_change_3 lk_X8_82 rfl (vm_ok rfl) rfl rfl (c_X8_one hT k i w hk) rfl rfl rfl ?_
  rintro _ _ ⟨rfl, rfl⟩
  refine x_istore (i := 4) (pc := 6) F dX8_change_6 rfl ?_
  refine x_aload_n (i := 0) (pc := 8) F dX8_change_8 rfl rfl ?_
  refine gf_X8_9 (pc := 9) F dX8_change_9 (vm_ok rfl) ?_
  refine x_bipush (pc := 12) F dX8_change_12 (by decide) ?_
  refine x_bipush (pc := 14) F dX8_change_14 (by decide) ?_
  refine x_iload_n (i := 1) (pc := 16) F dX8_change_16 rfl rfl ?_
  refine x_imul (pc := 17) F dX8_change_17 ?_
  refine x_iadd (pc := 18) F dX8_change_18 ?_
  refine x_iload_n (i := 2) (pc := 19) F dX8_change_19 rfl rfl ?_
  refine x_iadd (pc := 20) F dX8_change_20 ?_
  refine x_iload_n (i := 3) (pc := 21) F dX8_change_21 rfl rfl ?_
  refine tq_ias (pc := 22) F dX8_change_22 (vm_ok rfl) rfl (fun _ => rfl) (by omega) ?_
  refine x_iload (i := 4) (pc := 23) F dX8_change_23 rfl ?_
  refine tq_reti (pc := 25) F dX8_change_25 ?_ rfl rfl rfl
  exact ⟨rfl, by rw [hk.1]⟩
set_option maxRecDepth 20000 in
theorem c_X8_known (hT : TN μ T) (g : Int) (hg : 0 ≤ g ∧ g < 4) (l : Launch) (E : Ev) (A : Nat → Prop) : Con l E 0 m_X8_known A VM ad μ [.ref (ad (30, 0, 0)), .int (I g)] (pi fun z μ' => z = T (4 * g) ∧ μ = μ') := by
  refine con (own := RX8) (by decide +kernel) rfl rfl rfl (fun Γ F => ?_)
  refine x_aload_n (i := 0) (pc := 0) F dX8_known_0 rfl rfl ?_
  refine gf_X8_9 (pc := 1) F dX8_known_1 (vm_ok rfl) ?_
  refine x_iconst (pc := 4) F dX8_known_4 ?_
  refine x_iload_n (i := 1) (pc := 5) F dX8_known_5 rfl rfl ?_
  refine x_imul (pc := 6) F dX8_known_6 ?_
  refine tq_ia (pc := 7) F dX8_known_7 (vm_ok rfl) rfl (fun _ => rfl) (by omega) ?_
  refine tq_reti (pc := 8) F dX8_known_8 ?_ rfl rfl rfl
  exact ⟨by rw [hT _ (by omega) (by omega)], rfl⟩
set_option maxRecDepth 20000 in
theorem c_X8_walkAt (hT : TN μ T) (g k : Int) (hg : 0 ≤ g ∧ g < 4 ∧ 0 ≤ k ∧ k < 3) (l : Launch) (E : Ev) (A : Nat → Prop) : Con l E 0 m_X8_walkAt A VM ad μ [.ref (ad (30, 0, 0)), .int (I g), .int (I k)] (pi fun z μ' => z = T (4 * g + 1 + k) ∧ μ = μ') := by
  refine con (own := RX8) (by decide +kernel) rfl rfl rfl (fun Γ F => ?_)
  refine x_aload_n (i := 0) (pc := 0) F dX8_walkAt_0 rfl rfl ?_
  refine gf_X8_9 (pc := 1) F dX8_walkAt_1 (vm_ok rfl) ?_
  refine x_iconst (pc := 4) F dX8_walkAt_4 ?_
  refine x_iload_n (i := 1) (pc := 5) F dX8_walkAt_5 rfl rfl ?_
  refine x_imul (pc := 6) F dX8_walkAt_6 ?_
  refine x_iconst (pc := 7) F dX8_walkAt_7 ?_
  refine x_iadd (pc := 8) F dX8_walkAt_8 ?_
  refine x_iload_n (i := 2) (pc := 9) F dX8_walkAt_9 rfl rfl ?_
  refine x_iadd (pc := 10) F dX8_walkAt_10 ?_
  refine tq_ia (pc := 11) F dX8_walkAt_11 (vm_ok rfl) rfl (fun _ => rfl) (by omega) ?_
  refine tq_reti (pc := 12) F dX8_walkAt_12 ?_ rfl rfl rfl
  exact ⟨by rw [hT _ (by omega) (by omega)], rfl⟩
set_option maxRecDepth 20000 in
theorem c_X8_many (a : Int) (h : 0 ≤ a ∧ a < 4096) (V : Ob → Prop) (l : Launch) (E : Ev) (A : Nat → Prop) : Con l E 0 m_X8_many A V ad μ [.int (I a)] (pi fun z μ' => z = pop a ∧ μ = μ') := by
  refine con (own := RX8) (by decide +kernel) rfl rfl rfl (fun Γ F => ?_)
  have loop : ∀ (N k : Nat), 12 - k < N → k ≤ 12 → XX Γ 3 V ad (vl ad μ) 0 0 4 [(0, .int (I a)), (1, .int (I ((popF k a.toNat : Nat) : Int))), (2, .int (I k))] [] := by
    intro N
    induction N with
    | zero => intro k a1; omega
    | succ N ih =>
      intro k a1 a2
      have hs := popF_s a k h.1
      have hq : 0 ≤ a / p2 k ∧ a / p2 k ≤ a := by
        have hp : 0 < p2 k := by unfold p2; have := Nat.two_pow_pos (k : Int).toNat; omega
        exact ⟨Int.ediv_nonneg h.1 (by omega), Int.ediv_le_self _ h.1⟩
      refine x_iload_n (i := 2) (pc := 4) F dX8_many_4 rfl rfl ?_
      refine x_bipush (pc := 5) F dX8_many_5 (by decide) ?_
      refine x_icmp_ge (tgt := 24) (pc := 7) F dX8_many_7 rfl (by omega) (fun h7 => ?_) (fun h7 => ?_)
      · refine x_iload_n (i := 1) (pc := 24) F dX8_many_24 rfl rfl ?_
        refine tq_reti (pc := 25) F dX8_many_25 ?_ rfl rfl rfl
        obtain rfl : k = 12 := by omega
        exact ⟨rfl, rfl⟩
      · refine x_iload_n (i := 1) (pc := 10) F dX8_many_10 rfl rfl ?_
        refine x_iload_n (i := 0) (pc := 11) F dX8_many_11 rfl rfl ?_
        refine x_iload_n (i := 2) (pc := 12) F dX8_many_12 rfl rfl ?_
        refine r_ishr (z := I (a / p2 k)) (pc := 13) F dX8_many_13 (I_shr (by omega)) ?_
        refine x_iconst (pc := 14) F dX8_many_14 ?_
        refine tq_iand (pc := 15) F dX8_many_15 (by omega) ?_
        rw [and_one hq.1]
        refine x_iadd (pc := 16) F dX8_many_16 ?_
        refine x_istore_n (i := 1) (pc := 17) F dX8_many_17 rfl rfl ?_
        refine x_iinc (pc := 18) F dX8_many_18 rfl rfl ?_
        refine x_goto (tgt := 4) (pc := 21) F dX8_many_21 rfl ?_
        exact x_sub (L' := [(0, .int (I a)), (1, .int (I ((popF (k + 1) a.toNat : Nat) : Int))), (2, .int (I ((k + 1 : Nat) : Int)))]) ⟨rfl, lk_i rfl hs.symm, rfl, trivial⟩ (ih (k + 1) (by omega) (by omega))
  refine x_iconst (pc := 0) F dX8_many_0 ?_
  refine x_istore_n (i := 1) (pc := 1) F dX8_many_1 rfl rfl ?_
  refine x_iconst (pc := 2) F dX8_many_2 ?_
  refine x_istore_n (i := 2) (pc := 3) F dX8_many_3 rfl rfl ?_
  exact x_sub (L' := [(0, .int (I a)), (1, .int (I ((popF 0 a.toNat : Nat) : Int))), (2, .int (I ((0 : Nat) : Int)))]) ⟨rfl, rfl, rfl, trivial⟩ (loop 13 0 (by omega) (by omega))
def KP (μ μ' : Me) (dp : Int) : Prop := (∀ k, 0 ≤ k → k < 133 → μ' (32, 0, 0) (133 * dp + k) = μ (31, 0, 0) k) ∧ (∀ j, j < 133 * dp ∨ 133 * dp + 133 ≤ j → μ' (32, 0, 0) j = μ (32, 0, 0) j) ∧ ∀ o, o ≠ (32, 0, 0) → μ' o = μ o
set_option maxRecDepth 20000 in
theorem c_X8_keep (dp : Int) (hd : 0 ≤ dp ∧ dp < 4) (l : Launch) (E : Ev) (A : Nat → Prop) : Con l E 0 m_X8_keep A VM ad μ [.ref (ad (30, 0, 0)), .int (I dp)] (pv fun μ' => KP μ μ' dp) := by
  refine con (own := RX8) (by decide +kernel) rfl rfl rfl (fun Γ F => ?_)
  have loop : ∀ (N k : Nat) (μ1 : Me), 133 - k < N → k ≤ 133 → (∀ i : Int, 0 ≤ i → i < k → μ1 (32, 0, 0) (133 * dp + i) = μ (31, 0, 0) i) → (∀ j, j < 133 * dp ∨ 133 * dp + k ≤ j → μ1 (32, 0, 0) j = μ (32, 0, 0) j) → (∀ o, o ≠ (32, 0, 0) → μ1 o = μ o) → XX Γ 3 VM ad (vl ad μ1) 0 0 2 [(0, .ref (ad (30, 0, 0))), (1, .int (I dp)), (2, .int (I k))] [] := by
    intro N
    induction N with
    | zero => intro k μ1 a1; omega
    | succ N ih =>
      intro k μ1 a1 a2 a3 a4 a5
      refine x_iload_n (i := 2) (pc := 2) F dX8_keep_2 rfl rfl ?_
      refine x_sipush (pc := 3) F dX8_keep_3 (by decide) ?_
      refine x_icmp_ge (tgt := 33) (pc := 6) F dX8_keep_6 rfl (by omega) (fun h6 => ?_) (fun h6 => ?_)
      · refine tq_retv (pc := 33) F dX8_keep_33 ?_ rfl rfl rfl
        obtain rfl : k = 133 := by omega
        exact ⟨a3, a4, a5⟩
      · refine x_aload_n (i := 0) (pc := 9) F dX8_keep_9 rfl rfl ?_
        refine gf_X8_15 (pc := 10) F dX8_keep_10 (vm_ok rfl) ?_
        refine x_sipush (pc := 13) F dX8_keep_13 (by decide) ?_
        refine x_iload_n (i := 1) (pc := 16) F dX8_keep_16 rfl rfl ?_
        refine x_imul (pc := 17) F dX8_keep_17 ?_
        refine x_iload_n (i := 2) (pc := 18) F dX8_keep_18 rfl rfl ?_
        refine x_iadd (pc := 19) F dX8_keep_19 ?_
        refine x_aload_n (i := 0) (pc := 20) F dX8_keep_20 rfl rfl ?_
        refine gf_X8_9 (pc := 21) F dX8_keep_21 (vm_ok rfl) ?_
        refine x_iload_n (i := 2) (pc := 24) F dX8_keep_24 rfl rfl ?_
        refine tq_ia (pc := 25) F dX8_keep_25 (vm_ok rfl) rfl (fun _ => rfl) (by omega) ?_
        refine tq_ias (pc := 26) F dX8_keep_26 (vm_ok rfl) rfl (fun _ => rfl) (by omega) ?_
        refine x_iinc (pc := 27) F dX8_keep_27 rfl rfl ?_
        refine x_goto (tgt := 2) (pc := 30) F dX8_keep_30 rfl ?_
        exact x_sub (L' := [(0, .ref (ad (30, 0, 0))), (1, .int (I dp)), (2, .int (I ((k + 1 : Nat) : Int)))]) ⟨rfl, rfl, rfl, trivial⟩ (ih (k + 1) _ (by omega) (by omega) (fun i b1 b2 => by rw [upM_i, a5 _ (by simp)]; by_cases e : i = k; (rw [e, if_pos rfl]); rw [if_neg (by omega)]; exact a3 i b1 (by omega)) (fun j hj => by rw [upM_i, if_neg (by omega)]; exact a4 j (by omega)) (fun o ho => by rw [upM_ne ho]; exact a5 o ho))
  refine x_iconst (pc := 0) F dX8_keep_0 ?_
  refine x_istore_n (i := 2) (pc := 1) F dX8_keep_1 rfl rfl ?_
  exact x_sub (L' := [(0, .ref (ad (30, 0, 0))), (1, .int (I dp)), (2, .int (I ((0 : Nat) : Int)))]) ⟨rfl, rfl, rfl, trivial⟩ (loop 134 0 μ (by omega) (by omega) (fun i b1 b2 => by omega) (fun _ _ => rfl) (fun _ _ => rfl))
set_option maxRecDepth 20000 in
theorem c_X8_lay (dp : Int) (hd : 0 ≤ dp ∧ dp < 4) (l : Launch) (E : Ev) (A : Nat → Prop) : Con l E 0 m_X8_lay A VM ad μ [.ref (ad (30, 0, 0)), .int (I dp)] (pv fun μ' => (∀ k, 0 ≤ k → k < 133 → μ' (31, 0, 0) k = μ (32, 0, 0) (133 * dp + k)) ∧ ∀ o, o ≠ (31, 0, 0) → μ' o = μ o) := by
  refine con (own := RX8) (by decide +kernel) rfl rfl rfl (fun Γ F => ?_)
  have loop : ∀ (N k : Nat) (μ1 : Me), 133 - k < N → k ≤ 133 → (∀ i : Int, 0 ≤ i → i < k → μ1 (31, 0, 0) i = μ (32, 0, 0) (133 * dp + i)) → (∀ o, o ≠ (31, 0, 0) → μ1 o = μ o) → XX Γ 3 VM ad (vl ad μ1) 0 0 2 [(0, .ref (ad (30, 0, 0))), (1, .int (I dp)), (2, .int (I k))] [] := by
    intro N
    induction N with
    | zero => intro k μ1 a1; omega
    | succ N ih =>
      intro k μ1 a1 a2 a3 a5
      refine x_iload_n (i := 2) (pc := 2) F dX8_lay_2 rfl rfl ?_
      refine x_sipush (pc := 3) F dX8_lay_3 (by decide) ?_
      refine x_icmp_ge (tgt := 33) (pc := 6) F dX8_lay_6 rfl (by omega) (fun h6 => ?_) (fun h6 => ?_)
      · refine tq_retv (pc := 33) F dX8_lay_33 ?_ rfl rfl rfl
        obtain rfl : k = 133 := by omega
        exact ⟨a3, a5⟩
      · refine x_aload_n (i := 0) (pc := 9) F dX8_lay_9 rfl rfl ?_
        refine gf_X8_9 (pc := 10) F dX8_lay_10 (vm_ok rfl) ?_
        refine x_iload_n (i := 2) (pc := 13) F dX8_lay_13 rfl rfl ?_
        refine x_aload_n (i := 0) (pc := 14) F dX8_lay_14 rfl rfl ?_
        refine gf_X8_15 (pc := 15) F dX8_lay_15 (vm_ok rfl) ?_
        refine x_sipush (pc := 18) F dX8_lay_18 (by decide) ?_
        refine x_iload_n (i := 1) (pc := 21) F dX8_lay_21 rfl rfl ?_
        refine x_imul (pc := 22) F dX8_lay_22 ?_
        refine x_iload_n (i := 2) (pc := 23) F dX8_lay_23 rfl rfl ?_
        refine x_iadd (pc := 24) F dX8_lay_24 ?_
        refine tq_ia (pc := 25) F dX8_lay_25 (vm_ok rfl) rfl (fun _ => rfl) (by omega) ?_
        refine tq_ias (pc := 26) F dX8_lay_26 (vm_ok rfl) rfl (fun _ => rfl) (by omega) ?_
        refine x_iinc (pc := 27) F dX8_lay_27 rfl rfl ?_
        refine x_goto (tgt := 2) (pc := 30) F dX8_lay_30 rfl ?_
        exact x_sub (L' := [(0, .ref (ad (30, 0, 0))), (1, .int (I dp)), (2, .int (I ((k + 1 : Nat) : Int)))]) ⟨rfl, rfl, rfl, trivial⟩ (ih (k + 1) _ (by omega) (by omega) (fun i b1 b2 => by rw [upM_i, a5 _ (by simp)]; by_cases e : i = k; (rw [e, if_pos rfl]); rw [if_neg (by omega)]; exact a3 i b1 (by omega)) (fun o ho => by rw [upM_ne ho]; exact a5 o ho))
  refine x_iconst (pc := 0) F dX8_lay_0 ?_
  refine x_istore_n (i := 2) (pc := 1) F dX8_lay_1 rfl rfl ?_
  exact x_sub (L' := [(0, .ref (ad (30, 0, 0))), (1, .int (I dp)), (2, .int (I ((0 : Nat) : Int)))]) ⟨rfl, rfl, rfl, trivial⟩ (loop 134 0 μ (by omega) (by omega) (fun i b1 b2 => by omega) (fun _ _ => rfl))
end M0
