/-! ===== the reference: comer of set like forget row teach pass on image undo ===== -/
def FX (μ μ' : Me) : Prop := (∀ k, (k < 10 ∨ 16 < k) ∧ k ≠ 22 → μ' (30, 0, 0) k = μ (30, 0, 0) k) ∧ ∀ o, o ≠ (30, 0, 0) → o ≠ (31, 0, 0) → o ≠ (32, 0, 0) → o ≠ (37, 0, 0) → o ≠ (38, 0, 0) → o ≠ (41, 0, 0) → o ≠ (42, 0, 0) → o ≠ (43, 0, 0) → μ' o = μ o
theorem FX.trans {μ μ1 μ2 : Me} (h : FX μ μ1) (h2 : FX μ1 μ2) : FX μ μ2 := ⟨fun k hk => by rw [h2.1 k hk, h.1 k hk], fun o a1 a2 a3 a4 a5 a6 a7 a8 => by rw [h2.2 o a1 a2 a3 a4 a5 a6 a7 a8, h.2 o a1 a2 a3 a4 a5 a6 a7 a8]⟩
theorem FX.refl (μ : Me) : FX μ μ := ⟨fun _ _ => rfl, fun _ _ _ _ _ _ _ _ _ => rfl⟩
theorem FX.fd {μ μ' : Me} (h : FD μ μ') : FX μ μ' := ⟨fun k hk => h.1 k hk.1, fun o a1 a2 a3 a4 a5 _ _ _ => h.2 o a1 a4 a5 a2⟩
theorem FX.fh {μ μ' : Me} (h : FH μ μ') : FX μ μ' := FX.fd (FD.fh h)
theorem FX.kp {μ μ' : Me} {d : Int} (h : KP μ μ' d) : FX μ μ' := ⟨fun k _ => by rw [h.2.2 _ (by simp)], fun o _ _ a3 _ _ _ _ _ => h.2.2 o a3⟩
theorem FX.o31 {μ μ' : Me} (h : ∀ o, o ≠ (31, 0, 0) → μ' o = μ o) : FX μ μ' := FX.fd (FD.o31 h)
theorem FX.up {μ : Me} {k z : Int} : FX μ (upM μ (31, 0, 0) k z) := FX.fd FD.up
/-- kept at 0 -/
def K0 (μ : Me) (T : Tn) : Prop := ∀ k, 0 ≤ k → k < 133 → μ (32, 0, 0) (133 * 0 + k) = T k
theorem K0.fd {μ μ' : Me} {T : Tn} (h : K0 μ T) (e : FD μ μ') : K0 μ' T := by
  unfold K0
  rw [e.2 (32, 0, 0) (by simp) (by simp) (by simp) (by simp)]
  exact h
theorem K0.kp {μ μ' : Me} {T : Tn} (h : KP μ μ' 0) (hT : TN μ T) : K0 μ' T := fun k a b => by rw [h.1 k a b, hT k a b]
theorem MEn.kp {μ μ' : Me} {T : Tn} {S : Hs} {d : Int} (h : MEn μ T S) (e : KP μ μ' d) : MEn μ' T S := by
  unfold MEn TN MH MS
  rw [e.2.2 (31, 0, 0) (by simp), e.2.2 (36, 0, 0) (by simp), e.2.2 (35, 0, 0) (by simp), e.2.2 (39, 0, 0) (by simp), e.2.2 (40, 0, 0) (by simp)]
  exact h
theorem daysT_78 {S : Hs} {T : Tn} (hJ : TJ T) : ∀ n : Nat, T 77 + n ≤ 20000 → daysT S n T 78 = T 78
  | 0, _ => rfl
  | n + 1, h => by
    show dayT S (daysT S n T) 78 = _
    rw [dayT_o (by decide) (by omega) (daysT_TJ (S := S) hJ n (by omega)).2.2.1.2]
    exact daysT_78 hJ n (by omega)
theorem daysT_76 {S : Hs} {T : Tn} (hJ : TJ T) : ∀ n : Nat, T 77 + n ≤ 20000 → daysT S n T 76 = T 76
  | 0, _ => rfl
  | n + 1, h => by
    show dayT S (daysT S n T) 76 = _
    rw [dayT_o (by decide) (by omega) (daysT_TJ (S := S) hJ n (by omega)).2.2.1.2]
    exact daysT_76 hJ n (by omega)
section MC1
variable {ad : Ob → Nat} {μ : Me} {T : Tn} {S : Hs} {c g w n k : Int}
theorem c_isGateW (a : Int) (V : Ob → Prop) (h : -2147483748 ≤ a ∧ a < 2147483648) (l : Launch) (E : Ev) (A : Nat → Prop) : Con l E 1 m_X8_isGate A V ad μ [.int (I a)] (pz fun z μ' => z = decide (0 ≤ a ∧ a < 4) ∧ μ = μ') := by
  by_cases h1 : -2147483648 ≤ a
  · exact c_X8_isGate a (by omega) V l E A
  · have h2 := c_X8_isGate (ad := ad) (μ := μ) (a + 4294967296) (by omega) V l E A
    rw [← I_wrap] at h2
    refine h2.to ?_
    rintro v μ' ⟨z, hv, rfl, hm⟩
    refine ⟨_, hv, ?_, hm⟩
    rw [decide_eq_decide]
    omega
theorem c_isComerW (hT : TN μ T) (hI : 0 ≤ T 76 ∧ T 76 ≤ 6) (a : Int) (h : -2147483748 ≤ a ∧ a < 2147483648) (l : Launch) (E : Ev) (A : Nat → Prop) : Con l E 1 m_X8_isComer A VM ad μ [.ref (ad (30, 0, 0)), .int (I a)] (pz fun z μ' => z = decide (0 ≤ a ∧ a < T 76) ∧ μ = μ') := by
  by_cases h1 : -2147483648 ≤ a
  · exact c_X8_isComer hT hI a (by omega) l E A
  · have h2 := c_X8_isComer (ad := ad) hT hI (a + 4294967296) (by omega) l E A
    rw [← I_wrap] at h2
    refine h2.to ?_
    rintro v μ' ⟨z, hv, rfl, hm⟩
    refine ⟨_, hv, ?_, hm⟩
    rw [decide_eq_decide]
    omega
set_option maxRecDepth 20000 in
theorem c_X8_out (hE : MEn μ T S) (hI : TI T) (hS : SB S) (hd : T 77 ≤ 9999) (hc : 0 ≤ c ∧ c < 6) (l : Launch) (E : Ev) (A : Nat → Prop) : Con l E 25 m_X8_out A VM ad μ [.ref (ad (30, 0, 0)), .int (I c)] (pi fun z μ' => z = outT S T c ∧ TN μ' T ∧ FX μ μ') := by
  have hJ := hI.j (by omega)
  refine con (own := RX8) (by decide +kernel) rfl rfl rfl (fun Γ F => ?_)
  have l47 : ∀ (μ1 : Me) (q : Int), K0 μ1 T → FX μ μ1 → q = outT S T c → XX Γ 4 VM ad (vl ad μ1) 0 0 47 [(0, .ref (ad (30, 0, 0))), (2, .int (I q))] [] := by
    intro μ1 q b1 b2 b3
    refine x_aload_n (i := 0) (pc := 47) F dX8_out_47 rfl rfl ?_
    refine x_iconst (pc := 48) F dX8_out_48 ?_
    refine x_V1v (ci := 8) (pc := 49) F dX8_out_49 lk_X8_209 rfl (vm_ok rfl) rfl rfl (c_X8_lay 0 (by decide)) rfl rfl rfl ?_
    rintro μ2 ⟨p1, p2⟩
    refine x_iload_n (i := 2) (pc := 52) F dX8_out_52 rfl rfl ?_
    refine tq_reti (pc := 53) F dX8_out_53 ?_ rfl rfl rfl
    exact ⟨b3, fun k a b => by rw [p1 k a b]; exact b1 k a b, b2.trans (FX.o31 p2)⟩
  have lf : ∀ (μ1 : Me) (q n : Int), K0 μ1 T → FX μ μ1 → q = outT S T c → (0 ≤ q ∧ q < 100) → 0 ≤ n ∧ n ≤ 100 → XX Γ 4 VM ad (vl ad μ1) 0 0 10 [(0, .ref (ad (30, 0, 0))), (1, .int (I c)), (2, .int (I q)), (3, .int (I n))] [] := by
    intro μ1 q n b1 b2 b3 b4 b5
    refine x_iload_n (i := 3) (pc := 10) F dX8_out_10 rfl rfl ?_
    refine x_bipush (pc := 11) F dX8_out_11 (by decide) ?_
    refine x_icmp_gt (tgt := 47) (pc := 13) F dX8_out_13 rfl (by omega) (fun h13 => ?_) (fun h13 => ?_)
    · exact x_sub (L' := [(0, .ref (ad (30, 0, 0))), (2, .int (I q))]) ⟨rfl, rfl, trivial⟩ (l47 μ1 q b1 b2 b3)
    · refine x_iload_n (i := 2) (pc := 16) F dX8_out_16 rfl rfl ?_
      refine x_bipush (pc := 17) F dX8_out_17 (by decide) ?_
      refine x_icmp_ne (tgt := 47) (pc := 19) F dX8_out_19 rfl (by omega) (fun h19 => ?_) (fun h19 => ?_)
      · exact x_sub (L' := [(0, .ref (ad (30, 0, 0))), (2, .int (I q))]) ⟨rfl, rfl, trivial⟩ (l47 μ1 q b1 b2 b3)
      · exfalso; omega
  have loop : ∀ (N n : Nat) (μ1 : Me), 61 - n < N → n ≤ 61 → TN μ1 (daysT S n T) → MEn μ1 (daysT S n T) S → K0 μ1 T → FX μ μ1 → outT S T c = firstF (fun n => ¬ LT S (daysT S n T) c) (61 - n) n → XX Γ 4 VM ad (vl ad μ1) 0 0 10 [(0, .ref (ad (30, 0, 0))), (1, .int (I c)), (2, .int (I (-5))), (3, .int (I n))] [] := by
    intro N
    induction N with
    | zero => intro n μ1 b1; omega
    | succ N ih =>
      intro n μ1 b1 b2 b3 b4 b5 b6 b7
      refine x_iload_n (i := 3) (pc := 10) F dX8_out_10 rfl rfl ?_
      refine x_bipush (pc := 11) F dX8_out_11 (by decide) ?_
      refine x_icmp_gt (tgt := 47) (pc := 13) F dX8_out_13 rfl (by omega) (fun h13 => ?_) (fun h13 => ?_)
      · obtain rfl : n = 61 := by omega
        exact x_sub (L' := [(0, .ref (ad (30, 0, 0))), (2, .int (I (-5)))]) ⟨rfl, rfl, trivial⟩ (l47 μ1 (-5) b5 b6 (by rw [b7]; rfl))
      · refine x_iload_n (i := 2) (pc := 16) F dX8_out_16 rfl rfl ?_
        refine x_bipush (pc := 17) F dX8_out_17 (by decide) ?_
        refine x_icmp_ne (tgt := 47) (pc := 19) F dX8_out_19 rfl (by omega) (fun h19 => ?_) (fun h19 => ?_)
        · exfalso; omega
        · have hJ1 := daysT_TJ (S := S) hJ n (by omega)
          have h77 : daysT S n T 77 = T 77 + n := daysT_77 n
          obtain ⟨f, hf⟩ : ∃ f, 61 - n = f + 1 := ⟨60 - n, by omega⟩
          rw [hf] at b7
          refine x_aload_n (i := 0) (pc := 22) F dX8_out_22 rfl rfl ?_
          refine x_iload_n (i := 1) (pc := 23) F dX8_out_23 rfl rfl ?_
          refine x_V1z (ci := 8) (pc := 24) F dX8_out_24 lk_X8_194 rfl (vm_ok rfl) rfl rfl (c_X8_isBy b4 hJ1 hS hc) rfl rfl rfl ?_
          rintro z μ2 ⟨hz, p2⟩
          refine x_if_eqB (tgt := 35) (pc := 27) F dX8_out_27 rfl (fun h27 => ?_) (fun h27 => ?_)
          · try simp only [decide_eq_true_eq, decide_eq_false_iff_not, Bool.and_eq_true, Bool.or_eq_true, Bool.not_eq_true', Bool.not_eq_false', Bool.and_eq_false_iff, Bool.or_eq_false_iff] at h27
            refine x_iload_n (i := 3) (pc := 35) F dX8_out_35 rfl rfl ?_
            refine x_istore_n (i := 2) (pc := 36) F dX8_out_36 rfl rfl ?_
            have hE2 := b4.fh p2
            refine x_aload_n (i := 0) (pc := 37) F dX8_out_37 rfl rfl ?_
            refine x_V0v (ci := 8) (pc := 38) F dX8_out_38 lk_X8_203 rfl (vm_ok rfl) rfl rfl (c_X8_day hE2 hJ1 hS (by omega)) rfl rfl rfl ?_
            rintro μ3 ⟨q1, q2⟩
            have h78 : daysT S (n + 1) T 78 = daysT S n T 78 := by rw [daysT_78 hJ (n + 1) (by omega), daysT_78 hJ n (by omega)]
            have hE3 : MEn μ3 (daysT S (n + 1) T) S := hE2.fd q2 q1 h78
            refine x_iinc (pc := 41) F dX8_out_41 rfl rfl ?_
            refine x_goto (tgt := 10) (pc := 44) F dX8_out_44 rfl ?_
            first | exact x_sub (L' := [(0, .ref (ad (30, 0, 0))), (1, .int (I c)), (2, .int (I (-5))), (3, .int (I ((n + 1 : Nat) : Int)))]) ⟨rfl, rfl, rfl, rfl, trivial⟩ (ih (n + 1) μ3 (by omega) (by omega) q1 hE3 ((b5.fd (FD.fh p2)).fd q2) ((b6.trans (FX.fh p2)).trans (FX.fd q2)) (by rw [b7, firstF_f (fun q => q (hz.mp h27)), show 61 - (n + 1) = f by omega])) | exact x_sub (L' := [(0, .ref (ad (30, 0, 0))), (1, .int (I c)), (2, .int (I n)), (3, .int (I ((n + 1 : Nat) : Int)))]) ⟨rfl, rfl, rfl, rfl, trivial⟩ (lf μ3 n ((n + 1 : Nat) : Int) ((b5.fd (FD.fh p2)).fd q2) ((b6.trans (FX.fh p2)).trans (FX.fd q2)) (by rw [b7, firstF_t (fun q => by rw [hz.mpr q] at h27; cases h27)]) (by omega) (by omega))
          · try simp only [decide_eq_true_eq, decide_eq_false_iff_not, Bool.and_eq_true, Bool.or_eq_true, Bool.not_eq_true', Bool.not_eq_false', Bool.and_eq_false_iff, Bool.or_eq_false_iff] at h27
            refine x_bipush (pc := 30) F dX8_out_30 (by decide) ?_
            refine x_goto (tgt := 36) (pc := 32) F dX8_out_32 rfl ?_
            refine x_istore_n (i := 2) (pc := 36) F dX8_out_36 rfl rfl ?_
            have hE2 := b4.fh p2
            refine x_aload_n (i := 0) (pc := 37) F dX8_out_37 rfl rfl ?_
            refine x_V0v (ci := 8) (pc := 38) F dX8_out_38 lk_X8_203 rfl (vm_ok rfl) rfl rfl (c_X8_day hE2 hJ1 hS (by omega)) rfl rfl rfl ?_
            rintro μ3 ⟨q1, q2⟩
            have h78 : daysT S (n + 1) T 78 = daysT S n T 78 := by rw [daysT_78 hJ (n + 1) (by omega), daysT_78 hJ n (by omega)]
            have hE3 : MEn μ3 (daysT S (n + 1) T) S := hE2.fd q2 q1 h78
            refine x_iinc (pc := 41) F dX8_out_41 rfl rfl ?_
            refine x_goto (tgt := 10) (pc := 44) F dX8_out_44 rfl ?_
            first | exact x_sub (L' := [(0, .ref (ad (30, 0, 0))), (1, .int (I c)), (2, .int (I (-5))), (3, .int (I ((n + 1 : Nat) : Int)))]) ⟨rfl, rfl, rfl, rfl, trivial⟩ (ih (n + 1) μ3 (by omega) (by omega) q1 hE3 ((b5.fd (FD.fh p2)).fd q2) ((b6.trans (FX.fh p2)).trans (FX.fd q2)) (by rw [b7, firstF_f (fun q => q (hz.mp h27)), show 61 - (n + 1) = f by omega])) | exact x_sub (L' := [(0, .ref (ad (30, 0, 0))), (1, .int (I c)), (2, .int (I n)), (3, .int (I ((n + 1 : Nat) : Int)))]) ⟨rfl, rfl, rfl, rfl, trivial⟩ (lf μ3 n ((n + 1 : Nat) : Int) ((b5.fd (FD.fh p2)).fd q2) ((b6.trans (FX.fh p2)).trans (FX.fd q2)) (by rw [b7, firstF_t (fun q => by rw [hz.mpr q] at h27; cases h27)]) (by omega) (by omega))
  refine x_aload_n (i := 0) (pc := 0) F dX8_out_0 rfl rfl ?_
  refine x_iconst (pc := 1) F dX8_out_1 ?_
  refine x_V1v (ci := 8) (pc := 2) F dX8_out_2 lk_X8_206 rfl (vm_ok rfl) rfl rfl (c_X8_keep 0 (by decide)) rfl rfl rfl ?_
  rintro μ1 p1
  refine x_bipush (pc := 5) F dX8_out_5 (by decide) ?_
  refine x_istore_n (i := 2) (pc := 7) F dX8_out_7 rfl rfl ?_
  refine x_iconst (pc := 8) F dX8_out_8 ?_
  refine x_istore_n (i := 3) (pc := 9) F dX8_out_9 rfl rfl ?_
  exact x_sub (L' := [(0, .ref (ad (30, 0, 0))), (1, .int (I c)), (2, .int (I (-5))), (3, .int (I ((0 : Nat) : Int)))]) ⟨rfl, rfl, rfl, rfl, trivial⟩ (loop 62 0 μ1 (by omega) (by omega) (hE.kp p1).1 (hE.kp p1) (K0.kp p1 hE.1) (FX.kp p1) rfl)
set_option maxRecDepth 20000 in
theorem c_X8_of (hE : MEn μ T S) (hI : TI T) (hS : SB S) (hd : T 77 ≤ 9999) (hc : -2147483648 ≤ c ∧ c < 2147483648) (hw : -2147483648 ≤ w ∧ w < 2147483648) (l : Launch) (E : Ev) (A : Nat → Prop) : Con l E 26 m_X8_of A VM ad μ [.ref (ad (30, 0, 0)), .int (I c), .int (I w)] (pi fun z μ' => z = ofZ S T c w ∧ TN μ' T ∧ FX μ μ') := by
  have hJ := hI.j (by omega)
  have hT := hE.1
  have hI76 := hI.2.2.1
  refine con (own := RX8) (by decide +kernel) rfl rfl rfl (fun Γ F => ?_)
  refine x_aload_n (i := 0) (pc := 0) F dX8_of_0 rfl rfl ?_
  refine x_iload_n (i := 1) (pc := 1) F dX8_of_1 rfl rfl ?_
  refine x_V1z (ci := 8) (pc := 2) F dX8_of_2 lk_X8_94 rfl (vm_ok rfl) rfl rfl (c_isComerW hT hI76 _ (by omega)) rfl rfl rfl ?_
  rintro _ _ ⟨rfl, rfl⟩
  refine x_if_neB (tgt := 10) (pc := 5) F dX8_of_5 rfl (fun h5 => ?_) (fun h5 => ?_)
  · try simp only [decide_eq_true_eq, decide_eq_false_iff_not, Bool.and_eq_true, Bool.or_eq_true, Bool.not_eq_true', Bool.not_eq_false', Bool.and_eq_false_iff, Bool.or_eq_false_iff] at h5
    refine x_iload_n (i := 2) (pc := 10) F dX8_of_10 rfl rfl ?_
    refine x_iconst (pc := 11) F dX8_of_11 ?_
    refine x_iconst (pc := 12) F dX8_of_12 ?_
    refine x_S3z (pc := 13) F dX8_of_13 lk_X8_78 rfl (c_X8_isIn _ _ _ (by omega) _) rfl rfl rfl ?_
    rintro _ _ ⟨rfl, rfl⟩
    refine x_if_eqB (tgt := 26) (pc := 16) F dX8_of_16 rfl (fun h16 => ?_) (fun h16 => ?_)
    · try simp only [decide_eq_true_eq, decide_eq_false_iff_not, Bool.and_eq_true, Bool.or_eq_true, Bool.not_eq_true', Bool.not_eq_false', Bool.and_eq_false_iff, Bool.or_eq_false_iff] at h16
      refine x_iload_n (i := 2) (pc := 26) F dX8_of_26 rfl rfl ?_
      refine x_bipush (pc := 27) F dX8_of_27 (by decide) ?_
      refine x_icmp_ne (tgt := 38) (pc := 29) F dX8_of_29 rfl (by omega) (fun h29 => ?_) (fun h29 => ?_)
      · refine x_iload_n (i := 2) (pc := 38) F dX8_of_38 rfl rfl ?_
        refine x_bipush (pc := 39) F dX8_of_39 (by decide) ?_
        refine x_isub (pc := 41) F dX8_of_41 ?_
        refine x_S1z (pc := 42) F dX8_of_42 lk_X8_86 rfl (c_isGateW _ _ (by omega)) rfl rfl rfl ?_
        rintro _ _ ⟨rfl, rfl⟩
        refine x_if_eqB (tgt := 68) (pc := 45) F dX8_of_45 rfl (fun h45 => ?_) (fun h45 => ?_)
        · try simp only [decide_eq_true_eq, decide_eq_false_iff_not, Bool.and_eq_true, Bool.or_eq_true, Bool.not_eq_true', Bool.not_eq_false', Bool.and_eq_false_iff, Bool.or_eq_false_iff] at h45
          refine x_iload_n (i := 2) (pc := 68) F dX8_of_68 rfl rfl ?_
          refine x_bipush (pc := 69) F dX8_of_69 (by decide) ?_
          refine x_isub (pc := 71) F dX8_of_71 ?_
          refine x_S1z (pc := 72) F dX8_of_72 lk_X8_86 rfl (c_isGateW _ _ (by omega)) rfl rfl rfl ?_
          rintro _ _ ⟨rfl, rfl⟩
          refine x_if_eqB (tgt := 90) (pc := 75) F dX8_of_75 rfl (fun h75 => ?_) (fun h75 => ?_)
          · try simp only [decide_eq_true_eq, decide_eq_false_iff_not, Bool.and_eq_true, Bool.or_eq_true, Bool.not_eq_true', Bool.not_eq_false', Bool.and_eq_false_iff, Bool.or_eq_false_iff] at h75
            refine x_iconst (pc := 90) F dX8_of_90 ?_
            refine tq_reti (pc := 91) F dX8_of_91 ?_ rfl rfl rfl
            first | exact ⟨by unfold ofZ; rw [if_pos h5, if_pos (by omega), pI_t (hz.mp h57)], hT.fh p2, FX.fh p2⟩ | exact ⟨by unfold ofZ; rw [if_pos h5, if_pos (by omega), pI_f (fun q => by rw [hz.mpr q] at h57; cases h57)], hT.fh p2, FX.fh p2⟩ | exact ⟨by unfold ofZ; rw [if_pos h5, if_neg (by omega), if_pos (by omega)], hT.fh p2, FX.fh p2⟩ | exact ⟨by unfold ofZ; rw [if_pos h5, if_neg (by omega), if_neg (by omega), if_neg (by omega), if_neg (by omega)], hT, FX.refl μ⟩
          · try simp only [decide_eq_true_eq, decide_eq_false_iff_not, Bool.and_eq_true, Bool.or_eq_true, Bool.not_eq_true', Bool.not_eq_false', Bool.and_eq_false_iff, Bool.or_eq_false_iff] at h75
            refine x_aload_n (i := 0) (pc := 78) F dX8_of_78 rfl rfl ?_
            refine x_iload_n (i := 1) (pc := 79) F dX8_of_79 rfl rfl ?_
            refine x_iload_n (i := 2) (pc := 80) F dX8_of_80 rfl rfl ?_
            refine x_bipush (pc := 81) F dX8_of_81 (by decide) ?_
            refine x_isub (pc := 83) F dX8_of_83 ?_
            refine x_V2i (ci := 8) (pc := 84) F dX8_of_84 lk_X8_105 rfl (vm_ok rfl) rfl rfl (c_X8_nearest hE hJ hS (by omega) (by omega)) rfl rfl rfl ?_
            rintro _ μ1 ⟨rfl, p2⟩
            refine x_goto (tgt := 91) (pc := 87) F dX8_of_87 rfl ?_
            refine tq_reti (pc := 91) F dX8_of_91 ?_ rfl rfl rfl
            first | exact ⟨by unfold ofZ; rw [if_pos h5, if_pos (by omega), pI_t (hz.mp h57)], hT.fh p2, FX.fh p2⟩ | exact ⟨by unfold ofZ; rw [if_pos h5, if_pos (by omega), pI_f (fun q => by rw [hz.mpr q] at h57; cases h57)], hT.fh p2, FX.fh p2⟩ | exact ⟨by unfold ofZ; rw [if_pos h5, if_neg (by omega), if_pos (by omega)], hT.fh p2, FX.fh p2⟩ | exact ⟨by unfold ofZ; rw [if_pos h5, if_neg (by omega), if_neg (by omega), if_neg (by omega), if_neg (by omega)], hT, FX.refl μ⟩
        · try simp only [decide_eq_true_eq, decide_eq_false_iff_not, Bool.and_eq_true, Bool.or_eq_true, Bool.not_eq_true', Bool.not_eq_false', Bool.and_eq_false_iff, Bool.or_eq_false_iff] at h45
          refine x_aload_n (i := 0) (pc := 48) F dX8_of_48 rfl rfl ?_
          refine x_iload_n (i := 1) (pc := 49) F dX8_of_49 rfl rfl ?_
          refine x_iload_n (i := 2) (pc := 50) F dX8_of_50 rfl rfl ?_
          refine x_bipush (pc := 51) F dX8_of_51 (by decide) ?_
          refine x_isub (pc := 53) F dX8_of_53 ?_
          refine x_V2z (ci := 8) (pc := 54) F dX8_of_54 lk_X8_101 rfl (vm_ok rfl) rfl rfl (c_X8_lets hE hJ hS (by omega) (by omega)) rfl rfl rfl ?_
          rintro z μ1 ⟨hz, p2⟩
          refine x_if_eqB (tgt := 64) (pc := 57) F dX8_of_57 rfl (fun h57 => ?_) (fun h57 => ?_)
          · try simp only [decide_eq_true_eq, decide_eq_false_iff_not, Bool.and_eq_true, Bool.or_eq_true, Bool.not_eq_true', Bool.not_eq_false', Bool.and_eq_false_iff, Bool.or_eq_false_iff] at h57
            refine x_iconst (pc := 64) F dX8_of_64 ?_
            refine x_goto (tgt := 91) (pc := 65) F dX8_of_65 rfl ?_
            refine tq_reti (pc := 91) F dX8_of_91 ?_ rfl rfl rfl
            first | exact ⟨by unfold ofZ; rw [if_pos h5, if_pos (by omega), pI_t (hz.mp h57)], hT.fh p2, FX.fh p2⟩ | exact ⟨by unfold ofZ; rw [if_pos h5, if_pos (by omega), pI_f (fun q => by rw [hz.mpr q] at h57; cases h57)], hT.fh p2, FX.fh p2⟩ | exact ⟨by unfold ofZ; rw [if_pos h5, if_neg (by omega), if_pos (by omega)], hT.fh p2, FX.fh p2⟩ | exact ⟨by unfold ofZ; rw [if_pos h5, if_neg (by omega), if_neg (by omega), if_neg (by omega), if_neg (by omega)], hT, FX.refl μ⟩
          · try simp only [decide_eq_true_eq, decide_eq_false_iff_not, Bool.and_eq_true, Bool.or_eq_true, Bool.not_eq_true', Bool.not_eq_false', Bool.and_eq_false_iff, Bool.or_eq_false_iff] at h57
            refine x_iconst (pc := 60) F dX8_of_60 ?_
            refine x_goto (tgt := 91) (pc := 61) F dX8_of_61 rfl ?_
            refine tq_reti (pc := 91) F dX8_of_91 ?_ rfl rfl rfl
            first | exact ⟨by unfold ofZ; rw [if_pos h5, if_pos (by omega), pI_t (hz.mp h57)], hT.fh p2, FX.fh p2⟩ | exact ⟨by unfold ofZ; rw [if_pos h5, if_pos (by omega), pI_f (fun q => by rw [hz.mpr q] at h57; cases h57)], hT.fh p2, FX.fh p2⟩ | exact ⟨by unfold ofZ; rw [if_pos h5, if_neg (by omega), if_pos (by omega)], hT.fh p2, FX.fh p2⟩ | exact ⟨by unfold ofZ; rw [if_pos h5, if_neg (by omega), if_neg (by omega), if_neg (by omega), if_neg (by omega)], hT, FX.refl μ⟩
      · refine x_aload_n (i := 0) (pc := 32) F dX8_of_32 rfl rfl ?_
        refine x_iload_n (i := 1) (pc := 33) F dX8_of_33 rfl rfl ?_
        refine x_V1i (ci := 8) (pc := 34) F dX8_of_34 lk_X8_97 rfl (vm_ok rfl) rfl rfl (c_X8_out hE hI hS hd (by omega)) rfl rfl rfl ?_
        rintro _ μ1 ⟨rfl, p1, p2⟩
        refine tq_reti (pc := 37) F dX8_of_37 ?_ rfl rfl rfl
        exact ⟨by unfold ofZ; rw [if_pos h5, if_neg (by omega), if_neg (by omega), if_neg (by omega), if_pos (by omega)], p1, p2⟩
    · try simp only [decide_eq_true_eq, decide_eq_false_iff_not, Bool.and_eq_true, Bool.or_eq_true, Bool.not_eq_true', Bool.not_eq_false', Bool.and_eq_false_iff, Bool.or_eq_false_iff] at h16
      refine x_aload_n (i := 0) (pc := 19) F dX8_of_19 rfl rfl ?_
      refine x_iload_n (i := 1) (pc := 20) F dX8_of_20 rfl rfl ?_
      refine x_iload_n (i := 2) (pc := 21) F dX8_of_21 rfl rfl ?_
      refine x_V2i (ci := 8) (pc := 22) F dX8_of_22 lk_X8_82 rfl (vm_ok rfl) rfl rfl (c_X8_one hT (16 + 10 * c + w) c w (by omega)) rfl rfl rfl ?_
      rintro _ _ ⟨rfl, rfl⟩
      refine tq_reti (pc := 25) F dX8_of_25 ?_ rfl rfl rfl
      exact ⟨by unfold ofZ; rw [if_pos h5, if_neg (by omega), if_neg (by omega), if_pos (by omega)], hT, FX.refl μ⟩
  · try simp only [decide_eq_true_eq, decide_eq_false_iff_not, Bool.and_eq_true, Bool.or_eq_true, Bool.not_eq_true', Bool.not_eq_false', Bool.and_eq_false_iff, Bool.or_eq_false_iff] at h5
    refine x_iconst (pc := 8) F dX8_of_8 ?_
    refine tq_reti (pc := 9) F dX8_of_9 ?_ rfl rfl rfl
    exact ⟨by unfold ofZ; rw [if_neg h5], hT, FX.refl μ⟩
set_option maxRecDepth 20000 in
theorem c_X8_comer (kd v : Int) (hk : -2147483648 ≤ kd ∧ kd < 2147483648) (hv : -2147483648 ≤ v ∧ v < 2147483648) (hw : -2147483648 ≤ w ∧ w < 2147483648) (hg : -2147483648 ≤ g ∧ g < 2147483648) (hT : TN μ T) (hI : TI T) (l : Launch) (E : Ev) (A : Nat → Prop) : Con l E 2 m_X8_comer A VM ad μ [.ref (ad (30, 0, 0)), .int (I kd), .int (I v), .int (I w), .int (I g)] (pi fun z μ' => z = comerZ T kd v w g ∧ TN μ' (comerT T kd v w g) ∧ FX μ μ') := by
  have hI76 := hI.2.2.1
  have h76 := hT 76 (by omega) (by omega)
  refine con (own := RX8) (by decide +kernel) rfl rfl rfl (fun Γ F => ?_)
  have loop : ((0 ≤ kd ∧ kd < 7) ∧ 0 ≤ g ∧ g < 4) → ((0 ≤ v ∧ v < 10) ∧ 0 ≤ w ∧ w < 4096) → T 76 < 6 → ∀ (N k : Nat) (μ1 : Me), 10 - k < N → k ≤ 10 → TN μ1 (fun j => if 16 + 10 * T 76 ≤ j ∧ j < 16 + 10 * T 76 + k then 0 else T j) → FX μ μ1 → XX Γ 7 VM ad (vl ad μ1) 0 0 66 [(0, .ref (ad (30, 0, 0))), (1, .int (I kd)), (2, .int (I v)), (3, .int (I w)), (4, .int (I g)), (5, .int (I (T 76))), (6, .int (I k))] [] := by
    intro g1 g2 g3 N
    induction N with
    | zero => intro k μ1 b1; omega
    | succ N ih =>
      intro k μ1 b1 b2 b3 b4
      refine x_iload (i := 6) (pc := 66) F dX8_comer_66 rfl ?_
      refine x_bipush (pc := 68) F dX8_comer_68 (by decide) ?_
      refine x_icmp_ge (tgt := 89) (pc := 70) F dX8_comer_70 rfl (by omega) (fun h70 => ?_) (fun h70 => ?_)
      · obtain rfl : k = 10 := by omega
        refine x_aload_n (i := 0) (pc := 89) F dX8_comer_89 rfl rfl ?_
        refine x_iload (i := 5) (pc := 90) F dX8_comer_90 rfl ?_
        refine x_iconst (pc := 92) F dX8_comer_92 ?_
        refine x_iload_n (i := 1) (pc := 93) F dX8_comer_93 rfl rfl ?_
        refine x_V3i (ci := 8) (pc := 94) F dX8_comer_94 lk_X8_90 rfl (vm_ok rfl) rfl rfl (c_X8_change b3 (16 + 10 * T 76) _ _ _ (by omega)) rfl rfl rfl ?_
        rintro _ _ ⟨rfl, rfl⟩
        refine x_pop (pc := 97) F dX8_comer_97 rfl ?_
        refine x_aload_n (i := 0) (pc := 98) F dX8_comer_98 rfl rfl ?_
        refine x_iload (i := 5) (pc := 99) F dX8_comer_99 rfl ?_
        refine x_iconst (pc := 101) F dX8_comer_101 ?_
        refine x_iload_n (i := 2) (pc := 102) F dX8_comer_102 rfl rfl ?_
        refine x_V3i (ci := 8) (pc := 103) F dX8_comer_103 lk_X8_90 rfl (vm_ok rfl) rfl rfl (c_X8_change b3.up (17 + 10 * T 76) _ _ _ (by omega)) rfl rfl rfl ?_
        rintro _ _ ⟨rfl, rfl⟩
        refine x_pop (pc := 106) F dX8_comer_106 rfl ?_
        refine x_aload_n (i := 0) (pc := 107) F dX8_comer_107 rfl rfl ?_
        refine x_iload (i := 5) (pc := 108) F dX8_comer_108 rfl ?_
        refine x_iconst (pc := 110) F dX8_comer_110 ?_
        refine x_iload_n (i := 3) (pc := 111) F dX8_comer_111 rfl rfl ?_
        refine x_V3i (ci := 8) (pc := 112) F dX8_comer_112 lk_X8_90 rfl (vm_ok rfl) rfl rfl (c_X8_change b3.up.up (18 + 10 * T 76) _ _ _ (by omega)) rfl rfl rfl ?_
        rintro _ _ ⟨rfl, rfl⟩
        refine x_pop (pc := 115) F dX8_comer_115 rfl ?_
        refine x_aload_n (i := 0) (pc := 116) F dX8_comer_116 rfl rfl ?_
        refine x_iload (i := 5) (pc := 117) F dX8_comer_117 rfl ?_
        refine x_iconst (pc := 119) F dX8_comer_119 ?_
        refine x_iload (i := 4) (pc := 120) F dX8_comer_120 rfl ?_
        refine x_V3i (ci := 8) (pc := 122) F dX8_comer_122 lk_X8_90 rfl (vm_ok rfl) rfl rfl (c_X8_change b3.up.up.up (19 + 10 * T 76) _ _ _ (by omega)) rfl rfl rfl ?_
        rintro _ _ ⟨rfl, rfl⟩
        refine x_pop (pc := 125) F dX8_comer_125 rfl ?_
        refine x_aload_n (i := 0) (pc := 126) F dX8_comer_126 rfl rfl ?_
        refine gf_X8_9 (pc := 127) F dX8_comer_127 (vm_ok rfl) ?_
        refine x_bipush (pc := 130) F dX8_comer_130 (by decide) ?_
        refine x_dup2 (pc := 132) F dX8_comer_132 rfl rfl ?_
        refine tq_ia (pc := 133) F dX8_comer_133 (vm_ok rfl) rfl (fun _ => rfl) (by omega) ?_
        rw [upM_i, if_neg (by omega), upM_i, if_neg (by omega), upM_i, if_neg (by omega), upM_i, if_neg (by omega), b3 76 (by omega) (by omega)]
        dsimp only
        rw [if_neg (by omega)]
        refine x_iconst (pc := 134) F dX8_comer_134 ?_
        refine x_iadd (pc := 135) F dX8_comer_135 ?_
        refine tq_ias (pc := 136) F dX8_comer_136 (vm_ok rfl) rfl (fun _ => rfl) (by omega) ?_
        refine x_iload (i := 5) (pc := 137) F dX8_comer_137 rfl ?_
        refine tq_reti (pc := 139) F dX8_comer_139 ?_ rfl rfl rfl
        have hz : comerZ T kd v w g = T 76 := by unfold comerZ; rw [if_pos g1, if_pos g2, if_pos g3]
        refine ⟨hz.symm, b3.up.up.up.up.up.c (fun j _ _ => ?_), ((((b4.trans FX.up).trans FX.up).trans FX.up).trans FX.up).trans FX.up⟩
        unfold comerT
        rw [if_pos (by omega)]
        unfold comerN upT
        by_cases e0 : j = 76
        · rw [if_pos e0, if_pos e0]
        rw [if_neg e0, if_neg e0]
        by_cases e1 : j = 19 + 10 * T 76
        · rw [if_pos e1, if_neg (by omega), if_neg (by omega), if_neg (by omega), if_pos e1]
        rw [if_neg e1]
        by_cases e2 : j = 18 + 10 * T 76
        · rw [if_pos e2, if_neg (by omega), if_neg (by omega), if_pos e2]
        rw [if_neg e2]
        by_cases e3 : j = 17 + 10 * T 76
        · rw [if_pos e3, if_neg (by omega), if_pos e3]
        rw [if_neg e3]
        by_cases e4 : j = 16 + 10 * T 76
        · rw [if_pos e4, if_pos e4]
        rw [if_neg e4, if_neg e4, if_neg e3, if_neg e2, if_neg e1]
        dsimp only
        by_cases e5 : 20 + 10 * T 76 ≤ j ∧ j < 26 + 10 * T 76
        · rw [if_pos (by omega), if_pos e5]
        · rw [if_neg (by omega), if_neg e5]
      · refine x_aload_n (i := 0) (pc := 73) F dX8_comer_73 rfl rfl ?_
        refine x_iload (i := 5) (pc := 74) F dX8_comer_74 rfl ?_
        refine x_iload (i := 6) (pc := 76) F dX8_comer_76 rfl ?_
        refine x_iconst (pc := 78) F dX8_comer_78 ?_
        refine x_V3i (ci := 8) (pc := 79) F dX8_comer_79 lk_X8_90 rfl (vm_ok rfl) rfl rfl (c_X8_change b3 (16 + 10 * T 76 + k) _ _ _ (by omega)) rfl rfl rfl ?_
        rintro _ _ ⟨rfl, rfl⟩
        refine x_pop (pc := 82) F dX8_comer_82 rfl ?_
        refine x_iinc (pc := 83) F dX8_comer_83 rfl rfl ?_
        refine x_goto (tgt := 66) (pc := 86) F dX8_comer_86 rfl ?_
        exact x_sub (L' := [(0, .ref (ad (30, 0, 0))), (1, .int (I kd)), (2, .int (I v)), (3, .int (I w)), (4, .int (I g)), (5, .int (I (T 76))), (6, .int (I ((k + 1 : Nat) : Int)))]) ⟨rfl, rfl, rfl, rfl, rfl, rfl, rfl, trivial⟩ (ih (k + 1) _ (by omega) (by omega) (b3.up.c (fun j _ _ => by unfold upT; by_cases e : j = 16 + 10 * T 76 + k; (rw [if_pos e, if_pos (by omega)]); rw [if_neg e]; dsimp only; by_cases e2 : 16 + 10 * T 76 ≤ j ∧ j < 16 + 10 * T 76 + k; (rw [if_pos e2, if_pos (by omega)]); rw [if_neg e2, if_neg (by omega)])) (b4.trans FX.up))
  refine x_iload_n (i := 1) (pc := 0) F dX8_comer_0 rfl rfl ?_
  refine x_iconst (pc := 1) F dX8_comer_1 ?_
  refine x_bipush (pc := 2) F dX8_comer_2 (by decide) ?_
  refine x_S3z (pc := 4) F dX8_comer_4 lk_X8_78 rfl (c_X8_isIn _ _ _ (by omega) _) rfl rfl rfl ?_
  rintro _ _ ⟨rfl, rfl⟩
  refine x_if_eqB (tgt := 18) (pc := 7) F dX8_comer_7 rfl (fun h7 => ?_) (fun h7 => ?_)
  · try simp only [decide_eq_true_eq, decide_eq_false_iff_not, Bool.and_eq_true, Bool.or_eq_true, Bool.not_eq_true', Bool.not_eq_false', Bool.and_eq_false_iff, Bool.or_eq_false_iff] at h7
    refine x_iconst (pc := 18) F dX8_comer_18 ?_
    refine tq_reti (pc := 19) F dX8_comer_19 ?_ rfl rfl rfl
    have hz : comerZ T kd v w g = -1 := by unfold comerZ; rw [if_neg (by omega)]
    exact ⟨hz.symm, by unfold comerT; rw [if_neg (by omega)]; exact hT, FX.refl μ⟩
  · try simp only [decide_eq_true_eq, decide_eq_false_iff_not, Bool.and_eq_true, Bool.or_eq_true, Bool.not_eq_true', Bool.not_eq_false', Bool.and_eq_false_iff, Bool.or_eq_false_iff] at h7
    refine x_iload (i := 4) (pc := 10) F dX8_comer_10 rfl ?_
    refine x_S1z (pc := 12) F dX8_comer_12 lk_X8_86 rfl (c_isGateW _ _ (by omega)) rfl rfl rfl ?_
    rintro _ _ ⟨rfl, rfl⟩
    refine x_if_neB (tgt := 20) (pc := 15) F dX8_comer_15 rfl (fun h15 => ?_) (fun h15 => ?_)
    · try simp only [decide_eq_true_eq, decide_eq_false_iff_not, Bool.and_eq_true, Bool.or_eq_true, Bool.not_eq_true', Bool.not_eq_false', Bool.and_eq_false_iff, Bool.or_eq_false_iff] at h15
      refine x_iload_n (i := 2) (pc := 20) F dX8_comer_20 rfl rfl ?_
      refine x_iconst (pc := 21) F dX8_comer_21 ?_
      refine x_bipush (pc := 22) F dX8_comer_22 (by decide) ?_
      refine x_S3z (pc := 24) F dX8_comer_24 lk_X8_78 rfl (c_X8_isIn _ _ _ (by omega) _) rfl rfl rfl ?_
      rintro _ _ ⟨rfl, rfl⟩
      refine x_if_eqB (tgt := 41) (pc := 27) F dX8_comer_27 rfl (fun h27 => ?_) (fun h27 => ?_)
      · try simp only [decide_eq_true_eq, decide_eq_false_iff_not, Bool.and_eq_true, Bool.or_eq_true, Bool.not_eq_true', Bool.not_eq_false', Bool.and_eq_false_iff, Bool.or_eq_false_iff] at h27
        refine x_bipush (pc := 41) F dX8_comer_41 (by decide) ?_
        refine tq_reti (pc := 43) F dX8_comer_43 ?_ rfl rfl rfl
        have hz : comerZ T kd v w g = -2 := by unfold comerZ; rw [if_pos (by omega), if_neg (by omega)]
        exact ⟨hz.symm, by unfold comerT; rw [if_neg (by omega)]; exact hT, FX.refl μ⟩
      · try simp only [decide_eq_true_eq, decide_eq_false_iff_not, Bool.and_eq_true, Bool.or_eq_true, Bool.not_eq_true', Bool.not_eq_false', Bool.and_eq_false_iff, Bool.or_eq_false_iff] at h27
        refine x_iload_n (i := 3) (pc := 30) F dX8_comer_30 rfl rfl ?_
        refine x_iconst (pc := 31) F dX8_comer_31 ?_
        refine x_sipush (pc := 32) F dX8_comer_32 (by decide) ?_
        refine x_S3z (pc := 35) F dX8_comer_35 lk_X8_78 rfl (c_X8_isIn _ _ _ (by omega) _) rfl rfl rfl ?_
        rintro _ _ ⟨rfl, rfl⟩
        refine x_if_neB (tgt := 44) (pc := 38) F dX8_comer_38 rfl (fun h38 => ?_) (fun h38 => ?_)
        · try simp only [decide_eq_true_eq, decide_eq_false_iff_not, Bool.and_eq_true, Bool.or_eq_true, Bool.not_eq_true', Bool.not_eq_false', Bool.and_eq_false_iff, Bool.or_eq_false_iff] at h38
          refine x_aload_n (i := 0) (pc := 44) F dX8_comer_44 rfl rfl ?_
          refine gf_X8_9 (pc := 45) F dX8_comer_45 (vm_ok rfl) ?_
          refine x_bipush (pc := 48) F dX8_comer_48 (by decide) ?_
          refine tq_ia (pc := 50) F dX8_comer_50 (vm_ok rfl) rfl (fun _ => rfl) (by omega) ?_
          rw [h76]
          refine x_istore (i := 5) (pc := 51) F dX8_comer_51 rfl ?_
          refine x_iload (i := 5) (pc := 53) F dX8_comer_53 rfl ?_
          refine x_bipush (pc := 55) F dX8_comer_55 (by decide) ?_
          refine x_icmp_ne (tgt := 63) (pc := 57) F dX8_comer_57 rfl (by omega) (fun h57 => ?_) (fun h57 => ?_)
          · refine x_iconst (pc := 63) F dX8_comer_63 ?_
            refine x_istore (i := 6) (pc := 64) F dX8_comer_64 rfl ?_
            exact x_sub (L' := [(0, .ref (ad (30, 0, 0))), (1, .int (I kd)), (2, .int (I v)), (3, .int (I w)), (4, .int (I g)), (5, .int (I (T 76))), (6, .int (I ((0 : Nat) : Int)))]) ⟨rfl, rfl, rfl, rfl, rfl, rfl, rfl, trivial⟩ (loop (by omega) (by omega) (by omega) 11 0 μ (by omega) (by omega) (hT.c (fun j _ _ => by rw [if_neg (by omega)])) (FX.refl μ))
          · refine x_bipush (pc := 60) F dX8_comer_60 (by decide) ?_
            refine tq_reti (pc := 62) F dX8_comer_62 ?_ rfl rfl rfl
            have hz : comerZ T kd v w g = -4 := by unfold comerZ; rw [if_pos (by omega), if_pos (by omega), if_neg (by omega)]
            exact ⟨hz.symm, by unfold comerT; rw [if_neg (by omega)]; exact hT, FX.refl μ⟩
        · try simp only [decide_eq_true_eq, decide_eq_false_iff_not, Bool.and_eq_true, Bool.or_eq_true, Bool.not_eq_true', Bool.not_eq_false', Bool.and_eq_false_iff, Bool.or_eq_false_iff] at h38
          refine x_bipush (pc := 41) F dX8_comer_41 (by decide) ?_
          refine tq_reti (pc := 43) F dX8_comer_43 ?_ rfl rfl rfl
          have hz : comerZ T kd v w g = -2 := by unfold comerZ; rw [if_pos (by omega), if_neg (by omega)]
          exact ⟨hz.symm, by unfold comerT; rw [if_neg (by omega)]; exact hT, FX.refl μ⟩
    · try simp only [decide_eq_true_eq, decide_eq_false_iff_not, Bool.and_eq_true, Bool.or_eq_true, Bool.not_eq_true', Bool.not_eq_false', Bool.and_eq_false_iff, Bool.or_eq_false_iff] at h15
      refine x_iconst (pc := 18) F dX8_comer_18 ?_
      refine tq_reti (pc := 19) F dX8_comer_19 ?_ rfl rfl rfl
      have hz : comerZ T kd v w g = -1 := by unfold comerZ; rw [if_neg (by omega)]
      exact ⟨hz.symm, by unfold comerT; rw [if_neg (by omega)]; exact hT, FX.refl μ⟩
set_option maxRecDepth 20000 in
theorem c_X8_set (hT : TN μ T) (hI : TI T) (hc : -2147483648 ≤ c ∧ c < 2147483648) (hw : -2147483648 ≤ w ∧ w < 2147483648) (hn : -2147483648 ≤ n ∧ n < 2147483648) (l : Launch) (E : Ev) (A : Nat → Prop) : Con l E 2 m_X8_set A VM ad μ [.ref (ad (30, 0, 0)), .int (I c), .int (I w), .int (I n)] (pi fun z μ' => z = setZ T c w n ∧ TN μ' (setT T c w n) ∧ FX μ μ') := by
  have hI76 := hI.2.2.1
  refine con (own := RX8) (by decide +kernel) rfl rfl rfl (fun Γ F => ?_)
  have hl : setLim w = if w = 0 then 4096 else if w = 1 then 4 else 10 := rfl
  refine x_aload_n (i := 0) (pc := 0) F dX8_set_0 rfl rfl ?_
  refine x_iload_n (i := 1) (pc := 1) F dX8_set_1 rfl rfl ?_
  refine x_V1z (ci := 8) (pc := 2) F dX8_set_2 lk_X8_94 rfl (vm_ok rfl) rfl rfl (c_isComerW hT hI76 _ (by omega)) rfl rfl rfl ?_
  rintro _ _ ⟨rfl, rfl⟩
  refine x_if_eqB (tgt := 17) (pc := 5) F dX8_set_5 rfl (fun h5 => ?_) (fun h5 => ?_)
  · try simp only [decide_eq_true_eq, decide_eq_false_iff_not, Bool.and_eq_true, Bool.or_eq_true, Bool.not_eq_true', Bool.not_eq_false', Bool.and_eq_false_iff, Bool.or_eq_false_iff] at h5
    refine x_iconst (pc := 17) F dX8_set_17 ?_
    refine tq_reti (pc := 18) F dX8_set_18 ?_ rfl rfl rfl
    exact ⟨by unfold setZ; rw [if_neg (by omega)], by unfold setT; rw [if_neg (by omega)]; exact hT, FX.refl μ⟩
  · try simp only [decide_eq_true_eq, decide_eq_false_iff_not, Bool.and_eq_true, Bool.or_eq_true, Bool.not_eq_true', Bool.not_eq_false', Bool.and_eq_false_iff, Bool.or_eq_false_iff] at h5
    refine x_iload_n (i := 2) (pc := 8) F dX8_set_8 rfl rfl ?_
    refine x_iconst (pc := 9) F dX8_set_9 ?_
    refine x_iconst (pc := 10) F dX8_set_10 ?_
    refine x_S3z (pc := 11) F dX8_set_11 lk_X8_78 rfl (c_X8_isIn _ _ _ (by omega) _) rfl rfl rfl ?_
    rintro _ _ ⟨rfl, rfl⟩
    refine x_if_neB (tgt := 19) (pc := 14) F dX8_set_14 rfl (fun h14 => ?_) (fun h14 => ?_)
    · try simp only [decide_eq_true_eq, decide_eq_false_iff_not, Bool.and_eq_true, Bool.or_eq_true, Bool.not_eq_true', Bool.not_eq_false', Bool.and_eq_false_iff, Bool.or_eq_false_iff] at h14
      refine x_iload_n (i := 3) (pc := 19) F dX8_set_19 rfl rfl ?_
      refine x_iconst (pc := 20) F dX8_set_20 ?_
      refine x_iload_n (i := 2) (pc := 21) F dX8_set_21 rfl rfl ?_
      refine x_if_ne (tgt := 31) (pc := 22) F dX8_set_22 rfl (by omega) (fun h22 => ?_) (fun h22 => ?_)
      · refine x_iload_n (i := 2) (pc := 31) F dX8_set_31 rfl rfl ?_
        refine x_iconst (pc := 32) F dX8_set_32 ?_
        refine x_icmp_ne (tgt := 40) (pc := 33) F dX8_set_33 rfl (by omega) (fun h33 => ?_) (fun h33 => ?_)
        · refine x_bipush (pc := 40) F dX8_set_40 (by decide) ?_
          refine x_S3z (pc := 42) F dX8_set_42 lk_X8_78 rfl (c_X8_isIn _ _ _ (by omega) _) rfl rfl rfl ?_
          rintro _ _ ⟨rfl, rfl⟩
          refine x_if_eqB (tgt := 60) (pc := 45) F dX8_set_45 rfl (fun h45 => ?_) (fun h45 => ?_)
          · try simp only [decide_eq_true_eq, decide_eq_false_iff_not, Bool.and_eq_true, Bool.or_eq_true, Bool.not_eq_true', Bool.not_eq_false', Bool.and_eq_false_iff, Bool.or_eq_false_iff] at h45
            refine x_bipush (pc := 60) F dX8_set_60 (by decide) ?_
            refine tq_reti (pc := 62) F dX8_set_62 ?_ rfl rfl rfl
            have hl2 : setLim w = 4096 ∧ w = 0 ∨ setLim w = 4 ∧ w = 1 ∨ setLim w = 10 ∧ w ≠ 0 ∧ w ≠ 1 := by (repeat' split at hl) <;> omega
            first | exact ⟨by unfold setZ; rw [if_pos (by omega), if_pos (by omega)], by unfold setT; rw [if_pos (by omega)]; exact hT.up, FX.up⟩ | exact ⟨by unfold setZ; rw [if_pos (by omega), if_neg (by omega)], by unfold setT; rw [if_neg (by omega)]; exact hT, FX.refl μ⟩
          · try simp only [decide_eq_true_eq, decide_eq_false_iff_not, Bool.and_eq_true, Bool.or_eq_true, Bool.not_eq_true', Bool.not_eq_false', Bool.and_eq_false_iff, Bool.or_eq_false_iff] at h45
            refine x_aload_n (i := 0) (pc := 48) F dX8_set_48 rfl rfl ?_
            refine x_iload_n (i := 1) (pc := 49) F dX8_set_49 rfl rfl ?_
            refine x_iconst (pc := 50) F dX8_set_50 ?_
            refine x_iload_n (i := 2) (pc := 51) F dX8_set_51 rfl rfl ?_
            refine x_iadd (pc := 52) F dX8_set_52 ?_
            refine x_iload_n (i := 3) (pc := 53) F dX8_set_53 rfl rfl ?_
            refine x_V3i (ci := 8) (pc := 54) F dX8_set_54 lk_X8_90 rfl (vm_ok rfl) rfl rfl (c_X8_change hT (18 + 10 * c + w) _ _ _ (by omega)) rfl rfl rfl ?_
            rintro _ _ ⟨rfl, rfl⟩
            refine x_goto (tgt := 62) (pc := 57) F dX8_set_57 rfl ?_
            refine tq_reti (pc := 62) F dX8_set_62 ?_ rfl rfl rfl
            have hl2 : setLim w = 4096 ∧ w = 0 ∨ setLim w = 4 ∧ w = 1 ∨ setLim w = 10 ∧ w ≠ 0 ∧ w ≠ 1 := by (repeat' split at hl) <;> omega
            first | exact ⟨by unfold setZ; rw [if_pos (by omega), if_pos (by omega)], by unfold setT; rw [if_pos (by omega)]; exact hT.up, FX.up⟩ | exact ⟨by unfold setZ; rw [if_pos (by omega), if_neg (by omega)], by unfold setT; rw [if_neg (by omega)]; exact hT, FX.refl μ⟩
        · refine x_iconst (pc := 36) F dX8_set_36 ?_
          refine x_goto (tgt := 42) (pc := 37) F dX8_set_37 rfl ?_
          refine x_S3z (pc := 42) F dX8_set_42 lk_X8_78 rfl (c_X8_isIn _ _ _ (by omega) _) rfl rfl rfl ?_
          rintro _ _ ⟨rfl, rfl⟩
          refine x_if_eqB (tgt := 60) (pc := 45) F dX8_set_45 rfl (fun h45 => ?_) (fun h45 => ?_)
          · try simp only [decide_eq_true_eq, decide_eq_false_iff_not, Bool.and_eq_true, Bool.or_eq_true, Bool.not_eq_true', Bool.not_eq_false', Bool.and_eq_false_iff, Bool.or_eq_false_iff] at h45
            refine x_bipush (pc := 60) F dX8_set_60 (by decide) ?_
            refine tq_reti (pc := 62) F dX8_set_62 ?_ rfl rfl rfl
            have hl2 : setLim w = 4096 ∧ w = 0 ∨ setLim w = 4 ∧ w = 1 ∨ setLim w = 10 ∧ w ≠ 0 ∧ w ≠ 1 := by (repeat' split at hl) <;> omega
            first | exact ⟨by unfold setZ; rw [if_pos (by omega), if_pos (by omega)], by unfold setT; rw [if_pos (by omega)]; exact hT.up, FX.up⟩ | exact ⟨by unfold setZ; rw [if_pos (by omega), if_neg (by omega)], by unfold setT; rw [if_neg (by omega)]; exact hT, FX.refl μ⟩
          · try simp only [decide_eq_true_eq, decide_eq_false_iff_not, Bool.and_eq_true, Bool.or_eq_true, Bool.not_eq_true', Bool.not_eq_false', Bool.and_eq_false_iff, Bool.or_eq_false_iff] at h45
            refine x_aload_n (i := 0) (pc := 48) F dX8_set_48 rfl rfl ?_
            refine x_iload_n (i := 1) (pc := 49) F dX8_set_49 rfl rfl ?_
            refine x_iconst (pc := 50) F dX8_set_50 ?_
            refine x_iload_n (i := 2) (pc := 51) F dX8_set_51 rfl rfl ?_
            refine x_iadd (pc := 52) F dX8_set_52 ?_
            refine x_iload_n (i := 3) (pc := 53) F dX8_set_53 rfl rfl ?_
            refine x_V3i (ci := 8) (pc := 54) F dX8_set_54 lk_X8_90 rfl (vm_ok rfl) rfl rfl (c_X8_change hT (18 + 10 * c + w) _ _ _ (by omega)) rfl rfl rfl ?_
            rintro _ _ ⟨rfl, rfl⟩
            refine x_goto (tgt := 62) (pc := 57) F dX8_set_57 rfl ?_
            refine tq_reti (pc := 62) F dX8_set_62 ?_ rfl rfl rfl
            have hl2 : setLim w = 4096 ∧ w = 0 ∨ setLim w = 4 ∧ w = 1 ∨ setLim w = 10 ∧ w ≠ 0 ∧ w ≠ 1 := by (repeat' split at hl) <;> omega
            first | exact ⟨by unfold setZ; rw [if_pos (by omega), if_pos (by omega)], by unfold setT; rw [if_pos (by omega)]; exact hT.up, FX.up⟩ | exact ⟨by unfold setZ; rw [if_pos (by omega), if_neg (by omega)], by unfold setT; rw [if_neg (by omega)]; exact hT, FX.refl μ⟩
      · refine x_sipush (pc := 25) F dX8_set_25 (by decide) ?_
        refine x_goto (tgt := 42) (pc := 28) F dX8_set_28 rfl ?_
        refine x_S3z (pc := 42) F dX8_set_42 lk_X8_78 rfl (c_X8_isIn _ _ _ (by omega) _) rfl rfl rfl ?_
        rintro _ _ ⟨rfl, rfl⟩
        refine x_if_eqB (tgt := 60) (pc := 45) F dX8_set_45 rfl (fun h45 => ?_) (fun h45 => ?_)
        · try simp only [decide_eq_true_eq, decide_eq_false_iff_not, Bool.and_eq_true, Bool.or_eq_true, Bool.not_eq_true', Bool.not_eq_false', Bool.and_eq_false_iff, Bool.or_eq_false_iff] at h45
          refine x_bipush (pc := 60) F dX8_set_60 (by decide) ?_
          refine tq_reti (pc := 62) F dX8_set_62 ?_ rfl rfl rfl
          have hl2 : setLim w = 4096 ∧ w = 0 ∨ setLim w = 4 ∧ w = 1 ∨ setLim w = 10 ∧ w ≠ 0 ∧ w ≠ 1 := by (repeat' split at hl) <;> omega
          first | exact ⟨by unfold setZ; rw [if_pos (by omega), if_pos (by omega)], by unfold setT; rw [if_pos (by omega)]; exact hT.up, FX.up⟩ | exact ⟨by unfold setZ; rw [if_pos (by omega), if_neg (by omega)], by unfold setT; rw [if_neg (by omega)]; exact hT, FX.refl μ⟩
        · try simp only [decide_eq_true_eq, decide_eq_false_iff_not, Bool.and_eq_true, Bool.or_eq_true, Bool.not_eq_true', Bool.not_eq_false', Bool.and_eq_false_iff, Bool.or_eq_false_iff] at h45
          refine x_aload_n (i := 0) (pc := 48) F dX8_set_48 rfl rfl ?_
          refine x_iload_n (i := 1) (pc := 49) F dX8_set_49 rfl rfl ?_
          refine x_iconst (pc := 50) F dX8_set_50 ?_
          refine x_iload_n (i := 2) (pc := 51) F dX8_set_51 rfl rfl ?_
          refine x_iadd (pc := 52) F dX8_set_52 ?_
          refine x_iload_n (i := 3) (pc := 53) F dX8_set_53 rfl rfl ?_
          refine x_V3i (ci := 8) (pc := 54) F dX8_set_54 lk_X8_90 rfl (vm_ok rfl) rfl rfl (c_X8_change hT (18 + 10 * c + w) _ _ _ (by omega)) rfl rfl rfl ?_
          rintro _ _ ⟨rfl, rfl⟩
          refine x_goto (tgt := 62) (pc := 57) F dX8_set_57 rfl ?_
          refine tq_reti (pc := 62) F dX8_set_62 ?_ rfl rfl rfl
          have hl2 : setLim w = 4096 ∧ w = 0 ∨ setLim w = 4 ∧ w = 1 ∨ setLim w = 10 ∧ w ≠ 0 ∧ w ≠ 1 := by (repeat' split at hl) <;> omega
          first | exact ⟨by unfold setZ; rw [if_pos (by omega), if_pos (by omega)], by unfold setT; rw [if_pos (by omega)]; exact hT.up, FX.up⟩ | exact ⟨by unfold setZ; rw [if_pos (by omega), if_neg (by omega)], by unfold setT; rw [if_neg (by omega)]; exact hT, FX.refl μ⟩
    · try simp only [decide_eq_true_eq, decide_eq_false_iff_not, Bool.and_eq_true, Bool.or_eq_true, Bool.not_eq_true', Bool.not_eq_false', Bool.and_eq_false_iff, Bool.or_eq_false_iff] at h14
      refine x_iconst (pc := 17) F dX8_set_17 ?_
      refine tq_reti (pc := 18) F dX8_set_18 ?_ rfl rfl rfl
      exact ⟨by unfold setZ; rw [if_neg (by omega)], by unfold setT; rw [if_neg (by omega)]; exact hT, FX.refl μ⟩
set_option maxRecDepth 20000 in
theorem c_X8_like (hE : MEn μ T S) (hI : TI T) (hS : SB S) (hd : T 77 ≤ 9999) (hc : -2147483648 ≤ c ∧ c < 2147483648) (hg : -2147483648 ≤ g ∧ g < 2147483648) (hk : -2147483648 ≤ k ∧ k < 2147483648) (l : Launch) (E : Ev) (A : Nat → Prop) : Con l E 22 m_X8_like A VM ad μ [.ref (ad (30, 0, 0)), .int (I c), .int (I g), .int (I k)] (pi fun z μ' => z = likeZ S T c g k ∧ TN μ' T ∧ FX μ μ') := by
  have hJ := hI.j (by omega)
  have hT := hE.1
  have hI76 := hI.2.2.1
  refine con (own := RX8) (by decide +kernel) rfl rfl rfl (fun Γ F => ?_)
  refine x_aload_n (i := 0) (pc := 0) F dX8_like_0 rfl rfl ?_
  refine x_iload_n (i := 1) (pc := 1) F dX8_like_1 rfl rfl ?_
  refine x_V1z (ci := 8) (pc := 2) F dX8_like_2 lk_X8_94 rfl (vm_ok rfl) rfl rfl (c_isComerW hT hI76 _ (by omega)) rfl rfl rfl ?_
  rintro _ _ ⟨rfl, rfl⟩
  refine x_if_eqB (tgt := 30) (pc := 5) F dX8_like_5 rfl (fun h5 => ?_) (fun h5 => ?_)
  · try simp only [decide_eq_true_eq, decide_eq_false_iff_not, Bool.and_eq_true, Bool.or_eq_true, Bool.not_eq_true', Bool.not_eq_false', Bool.and_eq_false_iff, Bool.or_eq_false_iff] at h5
    refine x_sipush (pc := 30) F dX8_like_30 (by decide) ?_
    refine tq_reti (pc := 33) F dX8_like_33 ?_ rfl rfl rfl
    exact ⟨by unfold likeZ; rw [if_neg (by omega)], hT, FX.refl μ⟩
  · try simp only [decide_eq_true_eq, decide_eq_false_iff_not, Bool.and_eq_true, Bool.or_eq_true, Bool.not_eq_true', Bool.not_eq_false', Bool.and_eq_false_iff, Bool.or_eq_false_iff] at h5
    refine x_iload_n (i := 2) (pc := 8) F dX8_like_8 rfl rfl ?_
    refine x_S1z (pc := 9) F dX8_like_9 lk_X8_86 rfl (c_isGateW _ _ (by omega)) rfl rfl rfl ?_
    rintro _ _ ⟨rfl, rfl⟩
    refine x_if_eqB (tgt := 30) (pc := 12) F dX8_like_12 rfl (fun h12 => ?_) (fun h12 => ?_)
    · try simp only [decide_eq_true_eq, decide_eq_false_iff_not, Bool.and_eq_true, Bool.or_eq_true, Bool.not_eq_true', Bool.not_eq_false', Bool.and_eq_false_iff, Bool.or_eq_false_iff] at h12
      refine x_sipush (pc := 30) F dX8_like_30 (by decide) ?_
      refine tq_reti (pc := 33) F dX8_like_33 ?_ rfl rfl rfl
      exact ⟨by unfold likeZ; rw [if_neg (by omega)], hT, FX.refl μ⟩
    · try simp only [decide_eq_true_eq, decide_eq_false_iff_not, Bool.and_eq_true, Bool.or_eq_true, Bool.not_eq_true', Bool.not_eq_false', Bool.and_eq_false_iff, Bool.or_eq_false_iff] at h12
      have hkn := (hI.1 g (by omega) (by omega)).1
      refine x_iload_n (i := 3) (pc := 15) F dX8_like_15 rfl rfl ?_
      refine x_iconst (pc := 16) F dX8_like_16 ?_
      refine x_aload_n (i := 0) (pc := 17) F dX8_like_17 rfl rfl ?_
      refine x_iload_n (i := 2) (pc := 18) F dX8_like_18 rfl rfl ?_
      refine x_V1i (ci := 8) (pc := 19) F dX8_like_19 lk_X8_108 rfl (vm_ok rfl) rfl rfl (c_X8_known hT g (by omega)) rfl rfl rfl ?_
      rintro _ _ ⟨rfl, rfl⟩
      refine x_iconst (pc := 22) F dX8_like_22 ?_
      refine x_isub (pc := 23) F dX8_like_23 ?_
      refine x_S3z (pc := 24) F dX8_like_24 lk_X8_78 rfl (c_X8_isIn _ _ _ (by omega) _) rfl rfl rfl ?_
      rintro _ _ ⟨rfl, rfl⟩
      refine x_if_neB (tgt := 34) (pc := 27) F dX8_like_27 rfl (fun h27 => ?_) (fun h27 => ?_)
      · try simp only [decide_eq_true_eq, decide_eq_false_iff_not, Bool.and_eq_true, Bool.or_eq_true, Bool.not_eq_true', Bool.not_eq_false', Bool.and_eq_false_iff, Bool.or_eq_false_iff] at h27
        refine x_aload_n (i := 0) (pc := 34) F dX8_like_34 rfl rfl ?_
        refine x_iload_n (i := 1) (pc := 35) F dX8_like_35 rfl rfl ?_
        refine x_iload_n (i := 2) (pc := 36) F dX8_like_36 rfl rfl ?_
        refine x_aload_n (i := 0) (pc := 37) F dX8_like_37 rfl rfl ?_
        refine x_iload_n (i := 2) (pc := 38) F dX8_like_38 rfl rfl ?_
        refine x_iload_n (i := 3) (pc := 39) F dX8_like_39 rfl rfl ?_
        refine x_V2i (ci := 8) (pc := 40) F dX8_like_40 lk_X8_111 rfl (vm_ok rfl) rfl rfl (c_X8_walkAt hT g k (by omega)) rfl rfl rfl ?_
        rintro _ _ ⟨rfl, rfl⟩
        refine x_aload_n (i := 0) (pc := 43) F dX8_like_43 rfl rfl ?_
        refine x_iload_n (i := 1) (pc := 44) F dX8_like_44 rfl rfl ?_
        refine x_iload_n (i := 2) (pc := 45) F dX8_like_45 rfl rfl ?_
        refine x_V2i (ci := 8) (pc := 46) F dX8_like_46 lk_X8_114 rfl (vm_ok rfl) rfl rfl (c_X8_helps hE hJ (by omega) (by omega)) rfl rfl rfl ?_
        rintro _ μ1 ⟨rfl, p1, p2, p3⟩
        refine x_V4i (ci := 8) (pc := 49) F dX8_like_49 lk_X8_117 rfl (vm_ok rfl) rfl rfl (c_X8_likeTo (hT.fh p1) hJ (by omega) (by omega) _ _ (kI_rg hJ (by omega) (by omega)) (hS.1 _)) rfl rfl rfl ?_
        rintro _ _ ⟨rfl, rfl⟩
        refine tq_reti (pc := 52) F dX8_like_52 ?_ rfl rfl rfl
        exact ⟨by unfold likeZ; rw [if_pos (by omega)]; rfl, hT.fh p1, FX.fh p1⟩
      · try simp only [decide_eq_true_eq, decide_eq_false_iff_not, Bool.and_eq_true, Bool.or_eq_true, Bool.not_eq_true', Bool.not_eq_false', Bool.and_eq_false_iff, Bool.or_eq_false_iff] at h27
        refine x_sipush (pc := 30) F dX8_like_30 (by decide) ?_
        refine tq_reti (pc := 33) F dX8_like_33 ?_ rfl rfl rfl
        exact ⟨by unfold likeZ; rw [if_neg (by omega)], hT, FX.refl μ⟩
set_option maxRecDepth 20000 in
theorem c_X8_forget (hT : TN μ T) (hg : -2147483648 ≤ g ∧ g < 2147483648) (l : Launch) (E : Ev) (A : Nat → Prop) : Con l E 2 m_X8_forget A VM ad μ [.ref (ad (30, 0, 0)), .int (I g)] (pi fun z μ' => z = forgetZ T g ∧ TN μ' (forgetT T g) ∧ FX μ μ') := by
  refine con (own := RX8) (by decide +kernel) rfl rfl rfl (fun Γ F => ?_)
  refine x_iload_n (i := 1) (pc := 0) F dX8_forget_0 rfl rfl ?_
  refine x_S1z (pc := 1) F dX8_forget_1 lk_X8_86 rfl (c_isGateW _ _ (by omega)) rfl rfl rfl ?_
  rintro _ _ ⟨rfl, rfl⟩
  refine x_if_neB (tgt := 9) (pc := 4) F dX8_forget_4 rfl (fun h4 => ?_) (fun h4 => ?_)
  · try simp only [decide_eq_true_eq, decide_eq_false_iff_not, Bool.and_eq_true, Bool.or_eq_true, Bool.not_eq_true', Bool.not_eq_false', Bool.and_eq_false_iff, Bool.or_eq_false_iff] at h4
    refine x_aload_n (i := 0) (pc := 9) F dX8_forget_9 rfl rfl ?_
    refine x_iload_n (i := 1) (pc := 10) F dX8_forget_10 rfl rfl ?_
    refine x_V1i (ci := 8) (pc := 11) F dX8_forget_11 lk_X8_108 rfl (vm_ok rfl) rfl rfl (c_X8_known hT g (by omega)) rfl rfl rfl ?_
    rintro _ _ ⟨rfl, rfl⟩
    refine x_istore_n (i := 2) (pc := 14) F dX8_forget_14 rfl rfl ?_
    refine x_aload_n (i := 0) (pc := 15) F dX8_forget_15 rfl rfl ?_
    refine gf_X8_9 (pc := 16) F dX8_forget_16 (vm_ok rfl) ?_
    refine x_iconst (pc := 19) F dX8_forget_19 ?_
    refine x_iload_n (i := 1) (pc := 20) F dX8_forget_20 rfl rfl ?_
    refine x_imul (pc := 21) F dX8_forget_21 ?_
    refine x_iconst (pc := 22) F dX8_forget_22 ?_
    refine tq_ias (pc := 23) F dX8_forget_23 (vm_ok rfl) rfl (fun _ => rfl) (by omega) ?_
    refine x_iload_n (i := 2) (pc := 24) F dX8_forget_24 rfl rfl ?_
    refine tq_reti (pc := 25) F dX8_forget_25 ?_ rfl rfl rfl
    exact ⟨by unfold forgetZ; rw [if_pos (by omega)], by unfold forgetT; rw [if_pos (by omega)]; exact hT.up, FX.up⟩
  · try simp only [decide_eq_true_eq, decide_eq_false_iff_not, Bool.and_eq_true, Bool.or_eq_true, Bool.not_eq_true', Bool.not_eq_false', Bool.and_eq_false_iff, Bool.or_eq_false_iff] at h4
    refine x_iconst (pc := 7) F dX8_forget_7 ?_
    refine tq_reti (pc := 8) F dX8_forget_8 ?_ rfl rfl rfl
    exact ⟨by unfold forgetZ; rw [if_neg (by omega)], by unfold forgetT; rw [if_neg (by omega)]; exact hT, FX.refl μ⟩
set_option maxRecDepth 20000 in
theorem c_X8_row (hT : TN μ T) (hI : TI T) (hc : -2147483648 ≤ c ∧ c < 2147483648) (hw : -2147483648 ≤ w ∧ w < 2147483648) (hn : -2147483648 ≤ n ∧ n < 2147483648) (l : Launch) (E : Ev) (A : Nat → Prop) : Con l E 2 m_X8_row A VM ad μ [.ref (ad (30, 0, 0)), .int (I c), .int (I w), .int (I n)] (pi fun z μ' => z = rowZ T c w n ∧ TN μ' (rowT T c w n) ∧ FX μ μ') := by
  have hI76 := hI.2.2.1
  refine con (own := RX8) (by decide +kernel) rfl rfl rfl (fun Γ F => ?_)
  refine x_aload_n (i := 0) (pc := 0) F dX8_row_0 rfl rfl ?_
  refine x_iload_n (i := 1) (pc := 1) F dX8_row_1 rfl rfl ?_
  refine x_V1z (ci := 8) (pc := 2) F dX8_row_2 lk_X8_94 rfl (vm_ok rfl) rfl rfl (c_isComerW hT hI76 _ (by omega)) rfl rfl rfl ?_
  rintro _ _ ⟨rfl, rfl⟩
  refine x_if_eqB (tgt := 17) (pc := 5) F dX8_row_5 rfl (fun h5 => ?_) (fun h5 => ?_)
  · try simp only [decide_eq_true_eq, decide_eq_false_iff_not, Bool.and_eq_true, Bool.or_eq_true, Bool.not_eq_true', Bool.not_eq_false', Bool.and_eq_false_iff, Bool.or_eq_false_iff] at h5
    refine x_iconst (pc := 17) F dX8_row_17 ?_
    refine tq_reti (pc := 18) F dX8_row_18 ?_ rfl rfl rfl
    exact ⟨by unfold rowZ; rw [if_neg (by omega)], by unfold rowT; rw [if_neg (by omega)]; exact hT, FX.refl μ⟩
  · try simp only [decide_eq_true_eq, decide_eq_false_iff_not, Bool.and_eq_true, Bool.or_eq_true, Bool.not_eq_true', Bool.not_eq_false', Bool.and_eq_false_iff, Bool.or_eq_false_iff] at h5
    refine x_iload_n (i := 2) (pc := 8) F dX8_row_8 rfl rfl ?_
    refine x_iconst (pc := 9) F dX8_row_9 ?_
    refine x_iconst (pc := 10) F dX8_row_10 ?_
    refine x_S3z (pc := 11) F dX8_row_11 lk_X8_78 rfl (c_X8_isIn _ _ _ (by omega) _) rfl rfl rfl ?_
    rintro _ _ ⟨rfl, rfl⟩
    refine x_if_neB (tgt := 19) (pc := 14) F dX8_row_14 rfl (fun h14 => ?_) (fun h14 => ?_)
    · try simp only [decide_eq_true_eq, decide_eq_false_iff_not, Bool.and_eq_true, Bool.or_eq_true, Bool.not_eq_true', Bool.not_eq_false', Bool.and_eq_false_iff, Bool.or_eq_false_iff] at h14
      refine x_iload_n (i := 3) (pc := 19) F dX8_row_19 rfl rfl ?_
      refine x_iconst (pc := 20) F dX8_row_20 ?_
      refine x_bipush (pc := 21) F dX8_row_21 (by decide) ?_
      refine x_S3z (pc := 23) F dX8_row_23 lk_X8_78 rfl (c_X8_isIn _ _ _ (by omega) _) rfl rfl rfl ?_
      rintro _ _ ⟨rfl, rfl⟩
      refine x_if_neB (tgt := 32) (pc := 26) F dX8_row_26 rfl (fun h26 => ?_) (fun h26 => ?_)
      · try simp only [decide_eq_true_eq, decide_eq_false_iff_not, Bool.and_eq_true, Bool.or_eq_true, Bool.not_eq_true', Bool.not_eq_false', Bool.and_eq_false_iff, Bool.or_eq_false_iff] at h26
        have hci := (hI.2.1 c (by omega) (by omega)).1
        refine x_aload_n (i := 0) (pc := 32) F dX8_row_32 rfl rfl ?_
        refine x_iload_n (i := 1) (pc := 33) F dX8_row_33 rfl rfl ?_
        refine x_iconst (pc := 34) F dX8_row_34 ?_
        refine x_V2i (ci := 8) (pc := 35) F dX8_row_35 lk_X8_82 rfl (vm_ok rfl) rfl rfl (c_X8_one hT (16 + 10 * c) _ _ (by omega)) rfl rfl rfl ?_
        rintro _ _ ⟨rfl, rfl⟩
        refine x_bipush (pc := 38) F dX8_row_38 (by decide) ?_
        refine x_icmp_ne (tgt := 56) (pc := 40) F dX8_row_40 rfl (by omega) (fun h40 => ?_) (fun h40 => ?_)
        · refine x_bipush (pc := 56) F dX8_row_56 (by decide) ?_
          refine tq_reti (pc := 58) F dX8_row_58 ?_ rfl rfl rfl
          first | exact ⟨by unfold rowZ; rw [if_pos (by omega), if_pos (by omega), if_pos (by omega)], by unfold rowT; rw [if_pos (by omega)]; exact hT.up, FX.up⟩ | exact ⟨by unfold rowZ; rw [if_pos (by omega), if_pos (by omega), if_neg (by omega)], by unfold rowT; rw [if_neg (by omega)]; exact hT, FX.refl μ⟩
        · refine x_aload_n (i := 0) (pc := 43) F dX8_row_43 rfl rfl ?_
          refine x_iload_n (i := 1) (pc := 44) F dX8_row_44 rfl rfl ?_
          refine x_bipush (pc := 45) F dX8_row_45 (by decide) ?_
          refine x_iload_n (i := 2) (pc := 47) F dX8_row_47 rfl rfl ?_
          refine x_iadd (pc := 48) F dX8_row_48 ?_
          refine x_iload_n (i := 3) (pc := 49) F dX8_row_49 rfl rfl ?_
          refine x_V3i (ci := 8) (pc := 50) F dX8_row_50 lk_X8_90 rfl (vm_ok rfl) rfl rfl (c_X8_change hT (22 + 10 * c + w) _ _ _ (by omega)) rfl rfl rfl ?_
          rintro _ _ ⟨rfl, rfl⟩
          refine x_goto (tgt := 58) (pc := 53) F dX8_row_53 rfl ?_
          refine tq_reti (pc := 58) F dX8_row_58 ?_ rfl rfl rfl
          first | exact ⟨by unfold rowZ; rw [if_pos (by omega), if_pos (by omega), if_pos (by omega)], by unfold rowT; rw [if_pos (by omega)]; exact hT.up, FX.up⟩ | exact ⟨by unfold rowZ; rw [if_pos (by omega), if_pos (by omega), if_neg (by omega)], by unfold rowT; rw [if_neg (by omega)]; exact hT, FX.refl μ⟩
      · try simp only [decide_eq_true_eq, decide_eq_false_iff_not, Bool.and_eq_true, Bool.or_eq_true, Bool.not_eq_true', Bool.not_eq_false', Bool.and_eq_false_iff, Bool.or_eq_false_iff] at h26
        refine x_bipush (pc := 29) F dX8_row_29 (by decide) ?_
        refine tq_reti (pc := 31) F dX8_row_31 ?_ rfl rfl rfl
        exact ⟨by unfold rowZ; rw [if_pos (by omega), if_neg (by omega)], by unfold rowT; rw [if_neg (by omega)]; exact hT, FX.refl μ⟩
    · try simp only [decide_eq_true_eq, decide_eq_false_iff_not, Bool.and_eq_true, Bool.or_eq_true, Bool.not_eq_true', Bool.not_eq_false', Bool.and_eq_false_iff, Bool.or_eq_false_iff] at h14
      refine x_iconst (pc := 17) F dX8_row_17 ?_
      refine tq_reti (pc := 18) F dX8_row_18 ?_ rfl rfl rfl
      exact ⟨by unfold rowZ; rw [if_neg (by omega)], by unfold rowT; rw [if_neg (by omega)]; exact hT, FX.refl μ⟩
set_option maxRecDepth 20000 in
theorem c_X8_teach (hT : TN μ T) (hI : TI T) (hc : -2147483648 ≤ c ∧ c < 2147483648) (hg : -2147483648 ≤ g ∧ g < 2147483648) (l : Launch) (E : Ev) (A : Nat → Prop) : Con l E 2 m_X8_teach A VM ad μ [.ref (ad (30, 0, 0)), .int (I g), .int (I c)] (pi fun z μ' => z = teachZ T g c ∧ TN μ' (teachT T g c) ∧ FX μ μ') := by
  have hI76 := hI.2.2.1
  refine con (own := RX8) (by decide +kernel) rfl rfl rfl (fun Γ F => ?_)
  refine x_iload_n (i := 1) (pc := 0) F dX8_teach_0 rfl rfl ?_
  refine x_S1z (pc := 1) F dX8_teach_1 lk_X8_86 rfl (c_isGateW _ _ (by omega)) rfl rfl rfl ?_
  rintro _ _ ⟨rfl, rfl⟩
  refine x_if_eqB (tgt := 29) (pc := 4) F dX8_teach_4 rfl (fun h4 => ?_) (fun h4 => ?_)
  · try simp only [decide_eq_true_eq, decide_eq_false_iff_not, Bool.and_eq_true, Bool.or_eq_true, Bool.not_eq_true', Bool.not_eq_false', Bool.and_eq_false_iff, Bool.or_eq_false_iff] at h4
    refine x_iconst (pc := 29) F dX8_teach_29 ?_
    refine tq_reti (pc := 30) F dX8_teach_30 ?_ rfl rfl rfl
    first | exact ⟨by unfold teachZ; rw [if_pos (by omega)], by unfold teachT; rw [if_pos (by omega)]; exact p1, FX.o31 p2⟩ | exact ⟨by unfold teachZ; rw [if_neg (by omega)], by unfold teachT; rw [if_neg (by omega)]; exact hT, FX.refl μ⟩
  · try simp only [decide_eq_true_eq, decide_eq_false_iff_not, Bool.and_eq_true, Bool.or_eq_true, Bool.not_eq_true', Bool.not_eq_false', Bool.and_eq_false_iff, Bool.or_eq_false_iff] at h4
    refine x_aload_n (i := 0) (pc := 7) F dX8_teach_7 rfl rfl ?_
    refine x_iload_n (i := 2) (pc := 8) F dX8_teach_8 rfl rfl ?_
    refine x_V1z (ci := 8) (pc := 9) F dX8_teach_9 lk_X8_94 rfl (vm_ok rfl) rfl rfl (c_isComerW hT hI76 _ (by omega)) rfl rfl rfl ?_
    rintro _ _ ⟨rfl, rfl⟩
    refine x_if_eqB (tgt := 29) (pc := 12) F dX8_teach_12 rfl (fun h12 => ?_) (fun h12 => ?_)
    · try simp only [decide_eq_true_eq, decide_eq_false_iff_not, Bool.and_eq_true, Bool.or_eq_true, Bool.not_eq_true', Bool.not_eq_false', Bool.and_eq_false_iff, Bool.or_eq_false_iff] at h12
      refine x_iconst (pc := 29) F dX8_teach_29 ?_
      refine tq_reti (pc := 30) F dX8_teach_30 ?_ rfl rfl rfl
      first | exact ⟨by unfold teachZ; rw [if_pos (by omega)], by unfold teachT; rw [if_pos (by omega)]; exact p1, FX.o31 p2⟩ | exact ⟨by unfold teachZ; rw [if_neg (by omega)], by unfold teachT; rw [if_neg (by omega)]; exact hT, FX.refl μ⟩
    · try simp only [decide_eq_true_eq, decide_eq_false_iff_not, Bool.and_eq_true, Bool.or_eq_true, Bool.not_eq_true', Bool.not_eq_false', Bool.and_eq_false_iff, Bool.or_eq_false_iff] at h12
      refine x_aload_n (i := 0) (pc := 15) F dX8_teach_15 rfl rfl ?_
      refine x_iload_n (i := 1) (pc := 16) F dX8_teach_16 rfl rfl ?_
      refine x_aload_n (i := 0) (pc := 17) F dX8_teach_17 rfl rfl ?_
      refine x_iload_n (i := 2) (pc := 18) F dX8_teach_18 rfl rfl ?_
      refine x_iconst (pc := 19) F dX8_teach_19 ?_
      refine x_V2i (ci := 8) (pc := 20) F dX8_teach_20 lk_X8_82 rfl (vm_ok rfl) rfl rfl (c_X8_one hT (18 + 10 * c) _ _ (by omega)) rfl rfl rfl ?_
      rintro _ _ ⟨rfl, rfl⟩
      have hw := (hI.2.1 c (by omega) (by omega)).2.2.1
      refine x_V2i (ci := 8) (pc := 23) F dX8_teach_23 lk_X8_197 rfl (vm_ok rfl) rfl rfl (c_X8_taught hT (hI.1 g (by omega) (by omega)) (by omega) hw) rfl rfl rfl ?_
      rintro _ μ1 ⟨rfl, p1, p2⟩
      refine x_goto (tgt := 30) (pc := 26) F dX8_teach_26 rfl ?_
      refine tq_reti (pc := 30) F dX8_teach_30 ?_ rfl rfl rfl
      first | exact ⟨by unfold teachZ; rw [if_pos (by omega)], by unfold teachT; rw [if_pos (by omega)]; exact p1, FX.o31 p2⟩ | exact ⟨by unfold teachZ; rw [if_neg (by omega)], by unfold teachT; rw [if_neg (by omega)]; exact hT, FX.refl μ⟩
set_option maxRecDepth 20000 in
theorem c_X8_pass (hE : MEn μ T S) (hI : TI T) (hS : SB S) (hd : T 77 ≤ 9999) (hn : -2147483648 ≤ n ∧ n < 2147483648) (l : Launch) (E : Ev) (A : Nat → Prop) : Con l E 26 m_X8_pass A VM ad μ [.ref (ad (30, 0, 0)), .int (I n)] (pi fun z μ' => z = passZ S T n ∧ TN μ' (passN S T n) ∧ FX μ μ') := by
  have hJ := hI.j (by omega)
  have hT := hE.1
  have h77 := hI.2.2.2.1
  have hm77 := hT 77 (by omega) (by omega)
  refine con (own := RX8) (by decide +kernel) rfl rfl rfl (fun Γ F => ?_)
  refine x_iload_n (i := 1) (pc := 0) F dX8_pass_0 rfl rfl ?_
  refine x_iconst (pc := 1) F dX8_pass_1 ?_
  refine x_bipush (pc := 2) F dX8_pass_2 (by decide) ?_
  refine x_S3z (pc := 4) F dX8_pass_4 lk_X8_78 rfl (c_X8_isIn _ _ _ (by omega) _) rfl rfl rfl ?_
  rintro _ _ ⟨rfl, rfl⟩
  refine x_if_neB (tgt := 13) (pc := 7) F dX8_pass_7 rfl (fun h7 => ?_) (fun h7 => ?_)
  · try simp only [decide_eq_true_eq, decide_eq_false_iff_not, Bool.and_eq_true, Bool.or_eq_true, Bool.not_eq_true', Bool.not_eq_false', Bool.and_eq_false_iff, Bool.or_eq_false_iff] at h7
    refine x_aload_n (i := 0) (pc := 13) F dX8_pass_13 rfl rfl ?_
    refine gf_X8_9 (pc := 14) F dX8_pass_14 (vm_ok rfl) ?_
    refine x_bipush (pc := 17) F dX8_pass_17 (by decide) ?_
    refine tq_ia (pc := 19) F dX8_pass_19 (vm_ok rfl) rfl (fun _ => rfl) (by omega) ?_
    rw [hm77]
    refine x_iload_n (i := 1) (pc := 20) F dX8_pass_20 rfl rfl ?_
    refine x_iadd (pc := 21) F dX8_pass_21 ?_
    refine x_sipush (pc := 22) F dX8_pass_22 (by decide) ?_
    refine x_icmp_le (tgt := 31) (pc := 25) F dX8_pass_25 rfl (by omega) (fun h25 => ?_) (fun h25 => ?_)
    · refine x_aload_n (i := 0) (pc := 31) F dX8_pass_31 rfl rfl ?_
      refine x_iload_n (i := 1) (pc := 32) F dX8_pass_32 rfl rfl ?_
      refine x_V1v (ci := 8) (pc := 33) F dX8_pass_33 lk_X8_225 rfl (vm_ok rfl) rfl rfl (c_X8_days hE hJ hS n (by omega) (by omega)) rfl rfl rfl ?_
      rintro μ1 ⟨p1, p2⟩
      refine x_aload_n (i := 0) (pc := 36) F dX8_pass_36 rfl rfl ?_
      refine gf_X8_9 (pc := 37) F dX8_pass_37 (vm_ok rfl) ?_
      refine x_bipush (pc := 40) F dX8_pass_40 (by decide) ?_
      refine tq_ia (pc := 42) F dX8_pass_42 (vm_ok rfl) rfl (fun _ => rfl) (by omega) ?_
      rw [p1 77 (by omega) (by omega), daysT_77, show T 77 + (n.toNat : Int) = T 77 + n by omega]
      refine tq_reti (pc := 43) F dX8_pass_43 ?_ rfl rfl rfl
      exact ⟨by unfold passZ; rw [if_pos (by omega), if_pos (by omega)], by unfold passN; rw [if_pos (by omega)]; exact p1, FX.fd p2⟩
    · refine x_bipush (pc := 28) F dX8_pass_28 (by decide) ?_
      refine tq_reti (pc := 30) F dX8_pass_30 ?_ rfl rfl rfl
      exact ⟨by unfold passZ; rw [if_pos (by omega), if_neg (by omega)], by unfold passN; rw [if_neg (by omega)]; exact hT, FX.refl μ⟩
  · try simp only [decide_eq_true_eq, decide_eq_false_iff_not, Bool.and_eq_true, Bool.or_eq_true, Bool.not_eq_true', Bool.not_eq_false', Bool.and_eq_false_iff, Bool.or_eq_false_iff] at h7
    refine x_bipush (pc := 10) F dX8_pass_10 (by decide) ?_
    refine tq_reti (pc := 12) F dX8_pass_12 ?_ rfl rfl rfl
    exact ⟨by unfold passZ; rw [if_neg (by omega)], by unfold passN; rw [if_neg (by omega)]; exact hT, FX.refl μ⟩
set_option maxRecDepth 20000 in
theorem c_X8_on (hE : MEn μ T S) (hI : TI T) (hS : SB S) (hd : T 77 ≤ 9999) (hn : -2147483648 ≤ n ∧ n < 2147483648) (hw : -2147483648 ≤ w ∧ w < 2147483648) (l : Launch) (E : Ev) (A : Nat → Prop) : Con l E 26 m_X8_on A VM ad μ [.ref (ad (30, 0, 0)), .int (I n), .int (I w)] (pi fun z μ' => z = onZ S T n w ∧ TN μ' T ∧ FX μ μ') := by
  have hJ := hI.j (by omega)
  have hT := hE.1
  have hI76 := hI.2.2.1
  refine con (own := RX8) (by decide +kernel) rfl rfl rfl (fun Γ F => ?_)
  have l89 : ∀ (μ1 : Me) (q : Int), K0 μ1 T → FX μ μ1 → q = onZ S T n w → XX Γ 4 VM ad (vl ad μ1) 0 0 89 [(0, .ref (ad (30, 0, 0)))] [.int (I q)] := by
    intro μ1 q b1 b2 b3
    refine x_istore_n (i := 3) (pc := 89) F dX8_on_89 rfl rfl ?_
    refine x_aload_n (i := 0) (pc := 90) F dX8_on_90 rfl rfl ?_
    refine x_iconst (pc := 91) F dX8_on_91 ?_
    refine x_V1v (ci := 8) (pc := 92) F dX8_on_92 lk_X8_209 rfl (vm_ok rfl) rfl rfl (c_X8_lay 0 (by decide)) rfl rfl rfl ?_
    rintro μ2 ⟨p1, p2⟩
    refine x_iload_n (i := 3) (pc := 95) F dX8_on_95 rfl rfl ?_
    refine tq_reti (pc := 96) F dX8_on_96 ?_ rfl rfl rfl
    exact ⟨b3, fun k a b => by rw [p1 k a b]; exact b1 k a b, b2.trans (FX.o31 p2)⟩
  have l28 : (w = 0 ∨ (0 ≤ w - 10 ∧ w - 10 < T 76) ∨ 0 ≤ w - 20 ∧ w - 20 < T 76) → XX Γ 4 VM ad (vl ad μ) 0 0 28 [(0, .ref (ad (30, 0, 0))), (1, .int (I n)), (2, .int (I w))] [] := by
    intro hw1
    refine x_iload_n (i := 1) (pc := 28) F dX8_on_28 rfl rfl ?_
    refine x_iconst (pc := 29) F dX8_on_29 ?_
    refine x_bipush (pc := 30) F dX8_on_30 (by decide) ?_
    refine x_S3z (pc := 32) F dX8_on_32 lk_X8_78 rfl (c_X8_isIn _ _ _ (by omega) _) rfl rfl rfl ?_
    rintro _ _ ⟨rfl, rfl⟩
    refine x_if_neB (tgt := 41) (pc := 35) F dX8_on_35 rfl (fun h35 => ?_) (fun h35 => ?_)
    · try simp only [decide_eq_true_eq, decide_eq_false_iff_not, Bool.and_eq_true, Bool.or_eq_true, Bool.not_eq_true', Bool.not_eq_false', Bool.and_eq_false_iff, Bool.or_eq_false_iff] at h35
      refine x_aload_n (i := 0) (pc := 41) F dX8_on_41 rfl rfl ?_
      refine x_iconst (pc := 42) F dX8_on_42 ?_
      refine x_V1v (ci := 8) (pc := 43) F dX8_on_43 lk_X8_206 rfl (vm_ok rfl) rfl rfl (c_X8_keep 0 (by decide)) rfl rfl rfl ?_
      rintro μ1 p1
      have hk1 := K0.kp p1 hT
      have hE1 := hE.kp p1
      refine x_aload_n (i := 0) (pc := 46) F dX8_on_46 rfl rfl ?_
      refine x_iload_n (i := 1) (pc := 47) F dX8_on_47 rfl rfl ?_
      refine x_V1v (ci := 8) (pc := 48) F dX8_on_48 lk_X8_225 rfl (vm_ok rfl) rfl rfl (c_X8_days hE1 hJ hS n (by omega) (by omega)) rfl rfl rfl ?_
      rintro μ2 ⟨q1, q2⟩
      have hJ2 := daysT_TJ (S := S) hJ n.toNat (by omega)
      have hE2 : MEn μ2 (daysT S n.toNat T) S := hE1.fd q2 q1 (daysT_78 hJ n.toNat (by omega))
      have hk2 := hk1.fd q2
      have hx2 := (FX.kp p1).trans (FX.fd q2)
      refine x_iload_n (i := 2) (pc := 51) F dX8_on_51 rfl rfl ?_
      refine x_if_ne (tgt := 62) (pc := 52) F dX8_on_52 rfl (by omega) (fun h52 => ?_) (fun h52 => ?_)
      · refine x_iload_n (i := 2) (pc := 62) F dX8_on_62 rfl rfl ?_
        refine x_bipush (pc := 63) F dX8_on_63 (by decide) ?_
        refine x_icmp_ge (tgt := 80) (pc := 65) F dX8_on_65 rfl (by omega) (fun h65 => ?_) (fun h65 => ?_)
        · refine x_aload_n (i := 0) (pc := 80) F dX8_on_80 rfl rfl ?_
          refine x_iload_n (i := 2) (pc := 81) F dX8_on_81 rfl rfl ?_
          refine x_bipush (pc := 82) F dX8_on_82 (by decide) ?_
          refine x_isub (pc := 84) F dX8_on_84 ?_
          refine x_iconst (pc := 85) F dX8_on_85 ?_
          refine x_V2i (ci := 8) (pc := 86) F dX8_on_86 lk_X8_82 rfl (vm_ok rfl) rfl rfl (c_X8_one q1 (18 + 10 * (w - 20)) _ _ (by omega)) rfl rfl rfl ?_
          rintro _ _ ⟨rfl, rfl⟩
          first | exact x_sub (L' := [(0, .ref (ad (30, 0, 0)))]) ⟨rfl, trivial⟩ (l89 μ3 _ (hk2.fd (FD.fh r1)) (hx2.trans (FX.fh r1)) (by unfold onZ; rw [if_pos hw1, if_pos (by omega), if_pos (by omega)])) | exact x_sub (L' := [(0, .ref (ad (30, 0, 0)))]) ⟨rfl, trivial⟩ (l89 μ2 _ hk2 hx2 (by unfold onZ; rw [if_pos hw1, if_pos (by omega), if_neg (by omega), if_pos (by omega)])) | exact x_sub (L' := [(0, .ref (ad (30, 0, 0)))]) ⟨rfl, trivial⟩ (l89 μ2 _ hk2 hx2 (by unfold onZ; rw [if_pos hw1, if_pos (by omega), if_neg (by omega), if_neg (by omega)]))
        · refine x_aload_n (i := 0) (pc := 68) F dX8_on_68 rfl rfl ?_
          refine x_iload_n (i := 2) (pc := 69) F dX8_on_69 rfl rfl ?_
          refine x_bipush (pc := 70) F dX8_on_70 (by decide) ?_
          refine x_isub (pc := 72) F dX8_on_72 ?_
          refine x_iconst (pc := 73) F dX8_on_73 ?_
          refine x_V2i (ci := 8) (pc := 74) F dX8_on_74 lk_X8_82 rfl (vm_ok rfl) rfl rfl (c_X8_one q1 (21 + 10 * (w - 10)) _ _ (by omega)) rfl rfl rfl ?_
          rintro _ _ ⟨rfl, rfl⟩
          refine x_goto (tgt := 89) (pc := 77) F dX8_on_77 rfl ?_
          first | exact x_sub (L' := [(0, .ref (ad (30, 0, 0)))]) ⟨rfl, trivial⟩ (l89 μ3 _ (hk2.fd (FD.fh r1)) (hx2.trans (FX.fh r1)) (by unfold onZ; rw [if_pos hw1, if_pos (by omega), if_pos (by omega)])) | exact x_sub (L' := [(0, .ref (ad (30, 0, 0)))]) ⟨rfl, trivial⟩ (l89 μ2 _ hk2 hx2 (by unfold onZ; rw [if_pos hw1, if_pos (by omega), if_neg (by omega), if_pos (by omega)])) | exact x_sub (L' := [(0, .ref (ad (30, 0, 0)))]) ⟨rfl, trivial⟩ (l89 μ2 _ hk2 hx2 (by unfold onZ; rw [if_pos hw1, if_pos (by omega), if_neg (by omega), if_neg (by omega)]))
      · refine x_aload_n (i := 0) (pc := 55) F dX8_on_55 rfl rfl ?_
        refine x_V0i (ci := 8) (pc := 56) F dX8_on_56 lk_X8_215 rfl (vm_ok rfl) rfl rfl (c_X8_bys hE2 hJ2 hS) rfl rfl rfl ?_
        rintro _ μ3 ⟨rfl, r1⟩
        refine x_goto (tgt := 89) (pc := 59) F dX8_on_59 rfl ?_
        first | exact x_sub (L' := [(0, .ref (ad (30, 0, 0)))]) ⟨rfl, trivial⟩ (l89 μ3 _ (hk2.fd (FD.fh r1)) (hx2.trans (FX.fh r1)) (by unfold onZ; rw [if_pos hw1, if_pos (by omega), if_pos (by omega)])) | exact x_sub (L' := [(0, .ref (ad (30, 0, 0)))]) ⟨rfl, trivial⟩ (l89 μ2 _ hk2 hx2 (by unfold onZ; rw [if_pos hw1, if_pos (by omega), if_neg (by omega), if_pos (by omega)])) | exact x_sub (L' := [(0, .ref (ad (30, 0, 0)))]) ⟨rfl, trivial⟩ (l89 μ2 _ hk2 hx2 (by unfold onZ; rw [if_pos hw1, if_pos (by omega), if_neg (by omega), if_neg (by omega)]))
    · try simp only [decide_eq_true_eq, decide_eq_false_iff_not, Bool.and_eq_true, Bool.or_eq_true, Bool.not_eq_true', Bool.not_eq_false', Bool.and_eq_false_iff, Bool.or_eq_false_iff] at h35
      refine x_bipush (pc := 38) F dX8_on_38 (by decide) ?_
      refine tq_reti (pc := 40) F dX8_on_40 ?_ rfl rfl rfl
      exact ⟨by unfold onZ; rw [if_pos hw1, if_neg (by omega)], hT, FX.refl μ⟩
  refine x_iload_n (i := 2) (pc := 0) F dX8_on_0 rfl rfl ?_
  refine x_if_eq (tgt := 28) (pc := 1) F dX8_on_1 rfl (by omega) (fun h1 => ?_) (fun h1 => ?_)
  · exact x_sub (L' := [(0, .ref (ad (30, 0, 0))), (1, .int (I n)), (2, .int (I w))]) ⟨rfl, rfl, rfl, trivial⟩ (l28 (by omega))
  · refine x_aload_n (i := 0) (pc := 4) F dX8_on_4 rfl rfl ?_
    refine x_iload_n (i := 2) (pc := 5) F dX8_on_5 rfl rfl ?_
    refine x_bipush (pc := 6) F dX8_on_6 (by decide) ?_
    refine x_isub (pc := 8) F dX8_on_8 ?_
    refine x_V1z (ci := 8) (pc := 9) F dX8_on_9 lk_X8_94 rfl (vm_ok rfl) rfl rfl (c_isComerW hT hI76 _ (by omega)) rfl rfl rfl ?_
    rintro _ _ ⟨rfl, rfl⟩
    refine x_if_neB (tgt := 28) (pc := 12) F dX8_on_12 rfl (fun h12 => ?_) (fun h12 => ?_)
    · try simp only [decide_eq_true_eq, decide_eq_false_iff_not, Bool.and_eq_true, Bool.or_eq_true, Bool.not_eq_true', Bool.not_eq_false', Bool.and_eq_false_iff, Bool.or_eq_false_iff] at h12
      exact x_sub (L' := [(0, .ref (ad (30, 0, 0))), (1, .int (I n)), (2, .int (I w))]) ⟨rfl, rfl, rfl, trivial⟩ (l28 (by omega))
    · try simp only [decide_eq_true_eq, decide_eq_false_iff_not, Bool.and_eq_true, Bool.or_eq_true, Bool.not_eq_true', Bool.not_eq_false', Bool.and_eq_false_iff, Bool.or_eq_false_iff] at h12
      refine x_aload_n (i := 0) (pc := 15) F dX8_on_15 rfl rfl ?_
      refine x_iload_n (i := 2) (pc := 16) F dX8_on_16 rfl rfl ?_
      refine x_bipush (pc := 17) F dX8_on_17 (by decide) ?_
      refine x_isub (pc := 19) F dX8_on_19 ?_
      refine x_V1z (ci := 8) (pc := 20) F dX8_on_20 lk_X8_94 rfl (vm_ok rfl) rfl rfl (c_isComerW hT hI76 _ (by omega)) rfl rfl rfl ?_
      rintro _ _ ⟨rfl, rfl⟩
      refine x_if_neB (tgt := 28) (pc := 23) F dX8_on_23 rfl (fun h23 => ?_) (fun h23 => ?_)
      · try simp only [decide_eq_true_eq, decide_eq_false_iff_not, Bool.and_eq_true, Bool.or_eq_true, Bool.not_eq_true', Bool.not_eq_false', Bool.and_eq_false_iff, Bool.or_eq_false_iff] at h23
        exact x_sub (L' := [(0, .ref (ad (30, 0, 0))), (1, .int (I n)), (2, .int (I w))]) ⟨rfl, rfl, rfl, trivial⟩ (l28 (by omega))
      · try simp only [decide_eq_true_eq, decide_eq_false_iff_not, Bool.and_eq_true, Bool.or_eq_true, Bool.not_eq_true', Bool.not_eq_false', Bool.and_eq_false_iff, Bool.or_eq_false_iff] at h23
        refine x_iconst (pc := 26) F dX8_on_26 ?_
        refine tq_reti (pc := 27) F dX8_on_27 ?_ rfl rfl rfl
        exact ⟨by unfold onZ; rw [if_neg (by omega)], hT, FX.refl μ⟩
set_option maxRecDepth 20000 in
theorem c_X8_image (hT : TN μ T) (l : Launch) (E : Ev) (A : Nat → Prop) : Con l E 0 m_X8_image A VM ad μ [.ref (ad (30, 0, 0))] (pi fun z μ' => z = T 76 ∧ μ' (30, 0, 0) 3 = 1 ∧ (∀ k, 0 ≤ k → k < 133 → μ' (33, 0, 0) k = T k) ∧ (∀ k, k ≠ 3 → μ' (30, 0, 0) k = μ (30, 0, 0) k) ∧ ∀ o, o ≠ (30, 0, 0) → o ≠ (33, 0, 0) → μ' o = μ o) := by
  refine con (own := RX8) (by decide +kernel) rfl rfl rfl (fun Γ F => ?_)
  have loop : ∀ (N k : Nat) (μ1 : Me), 133 - k < N → k ≤ 133 → μ1 (30, 0, 0) 3 = 1 → (∀ i : Int, 0 ≤ i → i < k → μ1 (33, 0, 0) i = T i) → (∀ k, k ≠ 3 → μ1 (30, 0, 0) k = μ (30, 0, 0) k) → (∀ o, o ≠ (30, 0, 0) → o ≠ (33, 0, 0) → μ1 o = μ o) → XX Γ 2 VM ad (vl ad μ1) 0 0 7 [(0, .ref (ad (30, 0, 0))), (1, .int (I k))] [] := by
    intro N
    induction N with
    | zero => intro k μ1 a1; omega
    | succ N ih =>
      intro k μ1 a1 a2 a3 a4 a5 a6
      refine x_iload_n (i := 1) (pc := 7) F dX8_image_7 rfl rfl ?_
      refine x_sipush (pc := 8) F dX8_image_8 (by decide) ?_
      refine x_icmp_ge (tgt := 32) (pc := 11) F dX8_image_11 rfl (by omega) (fun h11 => ?_) (fun h11 => ?_)
      · refine x_aload_n (i := 0) (pc := 32) F dX8_image_32 rfl rfl ?_
        refine gf_X8_9 (pc := 33) F dX8_image_33 (vm_ok rfl) ?_
        refine x_bipush (pc := 36) F dX8_image_36 (by decide) ?_
        refine tq_ia (pc := 38) F dX8_image_38 (vm_ok rfl) rfl (fun _ => rfl) (by omega) ?_
        rw [a6 _ (by simp) (by simp), hT 76 (by omega) (by omega)]
        refine tq_reti (pc := 39) F dX8_image_39 ?_ rfl rfl rfl
        exact ⟨rfl, a3, fun i b1 b2 => a4 i b1 (by omega), a5, a6⟩
      · refine x_aload_n (i := 0) (pc := 14) F dX8_image_14 rfl rfl ?_
        refine gf_X8_18 (pc := 15) F dX8_image_15 (vm_ok rfl) ?_
        refine x_iload_n (i := 1) (pc := 18) F dX8_image_18 rfl rfl ?_
        refine x_aload_n (i := 0) (pc := 19) F dX8_image_19 rfl rfl ?_
        refine gf_X8_9 (pc := 20) F dX8_image_20 (vm_ok rfl) ?_
        refine x_iload_n (i := 1) (pc := 23) F dX8_image_23 rfl rfl ?_
        refine tq_ia (pc := 24) F dX8_image_24 (vm_ok rfl) rfl (fun _ => rfl) (by omega) ?_
        refine tq_ias (pc := 25) F dX8_image_25 (vm_ok rfl) rfl (fun _ => rfl) (by omega) ?_
        refine x_iinc (pc := 26) F dX8_image_26 rfl rfl ?_
        refine x_goto (tgt := 7) (pc := 29) F dX8_image_29 rfl ?_
        exact x_sub (L' := [(0, .ref (ad (30, 0, 0))), (1, .int (I ((k + 1 : Nat) : Int)))]) ⟨rfl, rfl, trivial⟩ (ih (k + 1) _ (by omega) (by omega) (by rw [upM_ne (by simp)]; exact a3) (fun i b1 b2 => by rw [upM_i, a6 _ (by simp) (by simp)]; by_cases e : i = k; (rw [e, if_pos rfl]; exact hT _ (by omega) (by omega)); rw [if_neg e]; exact a4 i b1 (by omega)) (fun k hk => by rw [upM_ne (by simp)]; exact a5 k hk) (fun o h1 h2 => by rw [upM_ne h2]; exact a6 o h1 h2))
  refine x_aload_n (i := 0) (pc := 0) F dX8_image_0 rfl rfl ?_
  refine x_iconst (pc := 1) F dX8_image_1 ?_
  refine pf_X8_74 (pc := 2) F dX8_image_2 (vm_ok rfl) (by decide) (by decide) ?_
  refine x_iconst (pc := 5) F dX8_image_5 ?_
  refine x_istore_n (i := 1) (pc := 6) F dX8_image_6 rfl rfl ?_
  exact x_sub (L' := [(0, .ref (ad (30, 0, 0))), (1, .int (I ((0 : Nat) : Int)))]) ⟨rfl, rfl, trivial⟩ (loop 134 0 _ (by omega) (by omega) (by rw [upM_i, if_pos rfl]) (fun i b1 b2 => by omega) (fun k hk => by rw [upM_i, if_neg hk]) (fun o h1 _ => upM_ne h1))
set_option maxRecDepth 20000 in
theorem c_X8_undo {K : Tn} (hm : μ (30, 0, 0) 3 = 0 ∨ μ (30, 0, 0) 3 = 1) (hK : ∀ k, 0 ≤ k → k < 133 → μ (33, 0, 0) k = K k) (hK76 : -2147483648 ≤ K 76 ∧ K 76 < 2147483648) (l : Launch) (E : Ev) (A : Nat → Prop) : Con l E 0 m_X8_undo A VM ad μ [.ref (ad (30, 0, 0))] (pi fun z μ' => (μ (30, 0, 0) 3 = 0 ∧ z = -3 ∧ μ = μ') ∨ (μ (30, 0, 0) 3 = 1 ∧ z = K 76 ∧ TN μ' K ∧ ∀ o, o ≠ (31, 0, 0) → μ' o = μ o)) := by
  refine con (own := RX8) (by decide +kernel) rfl rfl rfl (fun Γ F => ?_)
  have loop : μ (30, 0, 0) 3 = 1 → ∀ (N k : Nat) (μ1 : Me), 133 - k < N → k ≤ 133 → (∀ i : Int, 0 ≤ i → i < k → μ1 (31, 0, 0) i = K i) → (∀ o, o ≠ (31, 0, 0) → μ1 o = μ o) → XX Γ 2 VM ad (vl ad μ1) 0 0 12 [(0, .ref (ad (30, 0, 0))), (1, .int (I k))] [] := by
    intro h3 N
    induction N with
    | zero => intro k μ1 a1; omega
    | succ N ih =>
      intro k μ1 a1 a2 a4 a6
      refine x_iload_n (i := 1) (pc := 12) F dX8_undo_12 rfl rfl ?_
      refine x_sipush (pc := 13) F dX8_undo_13 (by decide) ?_
      refine x_icmp_ge (tgt := 37) (pc := 16) F dX8_undo_16 rfl (by omega) (fun h16 => ?_) (fun h16 => ?_)
      · refine x_aload_n (i := 0) (pc := 37) F dX8_undo_37 rfl rfl ?_
        refine gf_X8_9 (pc := 38) F dX8_undo_38 (vm_ok rfl) ?_
        refine x_bipush (pc := 41) F dX8_undo_41 (by decide) ?_
        refine tq_ia (pc := 43) F dX8_undo_43 (vm_ok rfl) rfl (fun _ => rfl) (by omega) ?_
        rw [a4 76 (by omega) (by omega)]
        refine tq_reti (pc := 44) F dX8_undo_44 ?_ rfl rfl rfl
        exact Or.inr ⟨h3, rfl, fun i b1 b2 => a4 i b1 (by omega), a6⟩
      · refine x_aload_n (i := 0) (pc := 19) F dX8_undo_19 rfl rfl ?_
        refine gf_X8_9 (pc := 20) F dX8_undo_20 (vm_ok rfl) ?_
        refine x_iload_n (i := 1) (pc := 23) F dX8_undo_23 rfl rfl ?_
        refine x_aload_n (i := 0) (pc := 24) F dX8_undo_24 rfl rfl ?_
        refine gf_X8_18 (pc := 25) F dX8_undo_25 (vm_ok rfl) ?_
        refine x_iload_n (i := 1) (pc := 28) F dX8_undo_28 rfl rfl ?_
        refine tq_ia (pc := 29) F dX8_undo_29 (vm_ok rfl) rfl (fun _ => rfl) (by omega) ?_
        refine tq_ias (pc := 30) F dX8_undo_30 (vm_ok rfl) rfl (fun _ => rfl) (by omega) ?_
        refine x_iinc (pc := 31) F dX8_undo_31 rfl rfl ?_
        refine x_goto (tgt := 12) (pc := 34) F dX8_undo_34 rfl ?_
        exact x_sub (L' := [(0, .ref (ad (30, 0, 0))), (1, .int (I ((k + 1 : Nat) : Int)))]) ⟨rfl, rfl, trivial⟩ (ih (k + 1) _ (by omega) (by omega) (fun i b1 b2 => by rw [upM_i, a6 _ (by simp)]; by_cases e : i = k; (rw [e, if_pos rfl]; exact hK _ (by omega) (by omega)); rw [if_neg e]; exact a4 i b1 (by omega)) (fun o h2 => by rw [upM_ne h2]; exact a6 o h2))
  refine x_aload_n (i := 0) (pc := 0) F dX8_undo_0 rfl rfl ?_
  refine gf_X8_74 (pc := 1) F dX8_undo_1 (vm_ok rfl) ?_
  refine x_if_ne (tgt := 10) (pc := 4) F dX8_undo_4 rfl (by omega) (fun h4 => ?_) (fun h4 => ?_)
  · refine x_iconst (pc := 10) F dX8_undo_10 ?_
    refine x_istore_n (i := 1) (pc := 11) F dX8_undo_11 rfl rfl ?_
    exact x_sub (L' := [(0, .ref (ad (30, 0, 0))), (1, .int (I ((0 : Nat) : Int)))]) ⟨rfl, rfl, trivial⟩ (loop (by omega) 134 0 μ (by omega) (by omega) (fun i b1 b2 => by omega) (fun _ _ => rfl))
  · refine x_bipush (pc := 7) F dX8_undo_7 (by decide) ?_
    refine tq_reti (pc := 9) F dX8_undo_9 ?_ rfl rfl rfl
    exact Or.inl ⟨by omega, rfl, rfl⟩
end MC1
