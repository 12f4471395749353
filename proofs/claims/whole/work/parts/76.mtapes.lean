/-! ===== the reference: trace taken count tapes judge feed house ===== -/
section LADD
variable {Γ : Ct} {cc : ByteArray} {own : String} {nL : Nat} {ret : Option FieldType} {P : Pq} {d mc ms : Nat} {V : Ob → Prop} {ad : Ob → Nat} {ν : Mv} {cs sl pc : Nat} {L : List (Nat × Value)} {st : List Value} {a b : Int}
theorem x_ladd (F : Fx Γ cc own nL ret P d mc ms) (dd : decode cc pc = .ok (.ladd, 1)) (k : XX Γ nL V ad ν cs sl (pc + 1) L (.long (J (a + b)) :: st)) : XX Γ nL V ad ν cs sl pc L (.long (J b) :: .long (J a) :: st) := by
  obtain ⟨p, l, e, R, s, m, args, below, meth, c, A, Q, E⟩ := Γ
  obtain ⟨hx, hb, hml, hown, hts, hlk, hr, hK, hA0, hR, hQ, hzz⟩ := F
  intro H locs ls hW hV hS hl
  refine lv_ladd hx hb dd ?_
  rw [show J a + J b = J (a + b) from (Int64.ofInt_add a b).symm]
  exact k H locs ls hW hV hS hl
end LADD
theorem lcS_lt {a b : Int} (h : -9223372036854775808 ≤ a ∧ a < 9223372036854775808 ∧ -9223372036854775808 ≤ b ∧ b < 9223372036854775808) : lcS a b < 0 ↔ a < b := by
  have hg : (J a > J b) ↔ b < a := by
    show J b < J a ↔ _
    rw [Int64.lt_iff_toInt_lt, J_toInt (by omega), J_toInt (by omega)]
  unfold lcS lg_cmp
  by_cases h1 : J a > J b
  · rw [if_pos h1]
    have := hg.mp h1
    exact ⟨fun z => absurd z (by decide), fun z => by omega⟩
  · rw [if_neg h1]
    have h1' : ¬ b < a := fun z => h1 (hg.mpr z)
    by_cases h2 : J a = J b
    · rw [if_pos h2]
      have := (J_eq (by omega)).mp h2
      exact ⟨fun z => absurd z (by decide), fun z => by omega⟩
    · rw [if_neg h2]
      have : a ≠ b := fun z => h2 (by rw [z])
      exact ⟨fun z => by omega, fun z => by decide⟩
theorem w32_id {a : Int} (h : -2147483648 ≤ a ∧ a < 2147483648) : w32 a = a := by
  unfold w32
  rw [Int64.toInt_toInt32, J_toInt (by omega)]
  exact Int.bmod_eq_of_le (by omega) (by omega)
theorem upM_oo {μ μ2 : Me} {o : Ob} {k z : Int} (h : μ o = μ2 o) : upM μ o k z o = upM μ2 o k z o := by funext j; rw [upM_i, upM_i, h]
def TPM (μ : Me) (st ln it : Tn) : Prop := ∀ t, 0 ≤ t → t < 6 → μ (47, 0, 0) t = st t ∧ μ (48, 0, 0) t = ln t ∧ ∀ k, 0 ≤ k → k < 60 → μ (49, 0, 0) (60 * t + k) = it (60 * t + k)
def tapO (o : Ob) : Prop := o = (47, 0, 0) ∨ o = (48, 0, 0) ∨ o = (49, 0, 0) ∨ o = (50, 0, 0)
section MTP
variable {ad : Ob → Nat} {μ : Me} {T st ln it : Tn} {L : List Int}
set_option maxRecDepth 20000 in
theorem c_X8_trace (i : Int) (hi : -2147483648 ≤ i ∧ i < 2147483648) (hL : BTm μ L) (hl : L.length ≤ 20) (l : Launch) (E : Ev) (A : Nat → Prop) : Con l E 2 m_X8_trace A VM ad μ [.ref (ad (30, 0, 0)), .int (I i)] (pi fun z μ' => z = traceZ L i ∧ μ = μ') := by
  obtain ⟨h1, h2⟩ := hL
  refine con (own := RX8) (by decide +kernel) rfl rfl rfl (fun Γ F => ?_)
  refine x_iload_n (i := 1) (pc := 0) F dX8_trace_0 rfl rfl ?_
  refine x_iconst (pc := 1) F dX8_trace_1 ?_
  refine x_bipush (pc := 2) F dX8_trace_2 (by decide) ?_
  refine x_aload_n (i := 0) (pc := 4) F dX8_trace_4 rfl rfl ?_
  refine gf_X8_255 (pc := 5) F dX8_trace_5 (vm_ok rfl) ?_
  refine tq_min (pc := 8) F dX8_trace_8 kw_1037 rfl rfl rfl rfl (by omega) ?_
  refine x_iconst (pc := 11) F dX8_trace_11 ?_
  refine x_isub (pc := 12) F dX8_trace_12 ?_
  refine x_S3z (pc := 13) F dX8_trace_13 lk_X8_78 rfl (c_X8_isIn _ _ _ (by omega) _) rfl rfl rfl ?_
  rintro _ _ ⟨rfl, rfl⟩
  refine x_if_eqB (tgt := 28) (pc := 16) F dX8_trace_16 rfl (fun h16 => ?_) (fun h16 => ?_)
  · try simp only [decide_eq_true_eq, decide_eq_false_iff_not, Bool.and_eq_true, Bool.or_eq_true, Bool.not_eq_true', Bool.not_eq_false', Bool.and_eq_false_iff, Bool.or_eq_false_iff] at h16
    refine x_iconst (pc := 28) F dX8_trace_28 ?_
    refine tq_reti (pc := 29) F dX8_trace_29 ?_ rfl rfl rfl
    first | exact ⟨by unfold traceZ; rw [if_pos (by omega)], rfl⟩ | exact ⟨by unfold traceZ; rw [if_neg (by omega)], rfl⟩
  · try simp only [decide_eq_true_eq, decide_eq_false_iff_not, Bool.and_eq_true, Bool.or_eq_true, Bool.not_eq_true', Bool.not_eq_false', Bool.and_eq_false_iff, Bool.or_eq_false_iff] at h16
    refine x_aload_n (i := 0) (pc := 19) F dX8_trace_19 rfl rfl ?_
    refine gf_X8_58 (pc := 20) F dX8_trace_20 (vm_ok rfl) ?_
    refine x_iload_n (i := 1) (pc := 23) F dX8_trace_23 rfl rfl ?_
    refine tq_ia (pc := 24) F dX8_trace_24 (vm_ok rfl) rfl (fun _ => rfl) (by omega) ?_
    rw [show i = ((i.toNat : Nat) : Int) by omega, h2 i.toNat (by omega)]
    refine x_goto (tgt := 29) (pc := 25) F dX8_trace_25 rfl ?_
    refine tq_reti (pc := 29) F dX8_trace_29 ?_ rfl rfl rfl
    first | exact ⟨by unfold traceZ; rw [if_pos (by omega)], rfl⟩ | exact ⟨by unfold traceZ; rw [if_neg (by omega)], rfl⟩
theorem kA_abv (x : Int) (h : 0 ≤ x ∧ x ≤ 6) : abvL.getD x.toNat 0 = kA x := by
  rcases (show x = 0 ∨ x = 1 ∨ x = 2 ∨ x = 3 ∨ x = 4 ∨ x = 5 ∨ x = 6 by omega) with rfl | rfl | rfl | rfl | rfl | rfl | rfl <;> rfl
theorem kA_lt (x : Int) (h : 0 ≤ x ∧ x ≤ 6) : -1 ≤ kA x ∧ kA x < x ∧ kA (kA (kA x)) = -1 := by
  rcases (show x = 0 ∨ x = 1 ∨ x = 2 ∨ x = 3 ∨ x = 4 ∨ x = 5 ∨ x = 6 by omega) with rfl | rfl | rfl | rfl | rfl | rfl | rfl <;> decide
set_option maxRecDepth 20000 in
theorem c_X8_taken (c k : Int) (hc : -2147483648 ≤ c ∧ c < 2147483648) (hk : -2147483648 ≤ k ∧ k < 2147483648) (hT : TN μ T) (hI : TI T) (hM : MA μ) (l : Launch) (E : Ev) (A : Nat → Prop) : Con l E 2 m_X8_taken A VM ad μ [.ref (ad (30, 0, 0)), .int (I c), .int (I k)] (pi fun z μ' => z = takenZ T c k ∧ μ = μ') := by
  have hI76 := hI.2.2.1
  refine con (own := RX8) (by decide +kernel) rfl rfl rfl (fun Γ F => ?_)
  have loop : (0 ≤ k ∧ k < 7) → (0 ≤ c ∧ c < T 76) → ∀ (N : Nat) (q : Int), q < N → -1 ≤ q ∧ q ≤ 6 → ((q ≠ -1 ∧ (q = k ∨ kA q = k ∨ kA (kA q) = k)) ↔ (T (16 + 10 * c) = k ∨ kA (T (16 + 10 * c)) = k ∨ kA (kA (T (16 + 10 * c))) = k)) → XX Γ 4 VM ad (vl ad μ) 0 0 31 [(0, .ref (ad (30, 0, 0))), (1, .int (I c)), (2, .int (I k)), (3, .int (I q))] [] := by
    intro hk1 hc1 N
    have fin : ∀ q : Int, (q = -1 ∨ q = k) → -1 ≤ q ∧ q ≤ 6 → ((q ≠ -1 ∧ (q = k ∨ kA q = k ∨ kA (kA q) = k)) ↔ (T (16 + 10 * c) = k ∨ kA (T (16 + 10 * c)) = k ∨ kA (kA (T (16 + 10 * c))) = k)) → XX Γ 4 VM ad (vl ad μ) 0 0 51 [(0, .ref (ad (30, 0, 0))), (1, .int (I c)), (2, .int (I k)), (3, .int (I q))] [] := by
      intro q b1 b2 b3
      refine x_iload_n (i := 3) (pc := 51) F dX8_taken_51 rfl rfl ?_
      refine x_iload_n (i := 2) (pc := 52) F dX8_taken_52 rfl rfl ?_
      refine x_icmp_ne (tgt := 65) (pc := 53) F dX8_taken_53 rfl (by omega) (fun h53 => ?_) (fun h53 => ?_)
      · refine x_bipush (pc := 65) F dX8_taken_65 (by decide) ?_
        refine tq_reti (pc := 67) F dX8_taken_67 ?_ rfl rfl rfl
        first | exact ⟨by unfold takenZ; rw [if_pos hk1, if_pos hc1, if_pos (b3.mp ⟨by omega, Or.inl (by omega)⟩)], rfl⟩ | exact ⟨by unfold takenZ; rw [if_pos hk1, if_pos hc1, if_neg (fun z => by have := (b3.mpr z).1; omega)], rfl⟩
      · refine x_aload_n (i := 0) (pc := 56) F dX8_taken_56 rfl rfl ?_
        refine x_iload_n (i := 1) (pc := 57) F dX8_taken_57 rfl rfl ?_
        refine x_iconst (pc := 58) F dX8_taken_58 ?_
        refine x_V2i (ci := 8) (pc := 59) F dX8_taken_59 lk_X8_82 rfl (vm_ok rfl) rfl rfl (c_X8_one hT (16 + 10 * c) _ _ (by omega)) rfl rfl rfl ?_
        rintro _ _ ⟨rfl, rfl⟩
        refine x_goto (tgt := 67) (pc := 62) F dX8_taken_62 rfl ?_
        refine tq_reti (pc := 67) F dX8_taken_67 ?_ rfl rfl rfl
        first | exact ⟨by unfold takenZ; rw [if_pos hk1, if_pos hc1, if_pos (b3.mp ⟨by omega, Or.inl (by omega)⟩)], rfl⟩ | exact ⟨by unfold takenZ; rw [if_pos hk1, if_pos hc1, if_neg (fun z => by have := (b3.mpr z).1; omega)], rfl⟩
    induction N with
    | zero =>
      intro q b1 b2 b3
      obtain rfl : q = -1 := by omega
      refine x_iload_n (i := 3) (pc := 31) F dX8_taken_31 rfl rfl ?_
      refine x_iconst (pc := 32) F dX8_taken_32 ?_
      refine x_icmp_eq (tgt := 51) (pc := 33) F dX8_taken_33 rfl (by omega) (fun h33 => ?_) (fun h33 => ?_)
      · exact fin _ (Or.inl rfl) (by decide) b3
      · exfalso; omega
    | succ N ih =>
      intro q b1 b2 b3
      refine x_iload_n (i := 3) (pc := 31) F dX8_taken_31 rfl rfl ?_
      refine x_iconst (pc := 32) F dX8_taken_32 ?_
      refine x_icmp_eq (tgt := 51) (pc := 33) F dX8_taken_33 rfl (by omega) (fun h33 => ?_) (fun h33 => ?_)
      · exact fin q (by omega) b2 b3
      · refine x_iload_n (i := 3) (pc := 36) F dX8_taken_36 rfl rfl ?_
        refine x_iload_n (i := 2) (pc := 37) F dX8_taken_37 rfl rfl ?_
        refine x_icmp_eq (tgt := 51) (pc := 38) F dX8_taken_38 rfl (by omega) (fun h38 => ?_) (fun h38 => ?_)
        · exact fin q (by omega) b2 b3
        · have hka := kA_lt q (by omega)
          refine x_aload_n (i := 0) (pc := 41) F dX8_taken_41 rfl rfl ?_
          refine gf_X8_52 (pc := 42) F dX8_taken_42 (vm_ok rfl) ?_
          refine x_iload_n (i := 3) (pc := 45) F dX8_taken_45 rfl rfl ?_
          refine tq_ia (pc := 46) F dX8_taken_46 (vm_ok rfl) rfl (fun _ => rfl) (by omega) ?_
          rw [show μ (44, 0, 0) q = kA q by rw [← kA_abv q (by omega), ← hM.2 q.toNat (by omega), toNat_c (by omega)]]
          refine x_istore_n (i := 3) (pc := 47) F dX8_taken_47 rfl rfl ?_
          refine x_goto (tgt := 31) (pc := 48) F dX8_taken_48 rfl ?_
          refine x_sub (L' := [(0, .ref (ad (30, 0, 0))), (1, .int (I c)), (2, .int (I k)), (3, .int (I (kA q)))]) ⟨rfl, rfl, rfl, rfl, trivial⟩ (ih (kA q) (by omega) (by omega) (Iff.trans ?_ b3))
          constructor
          · rintro ⟨a1, a2 | a2 | a2⟩; exact ⟨by omega, Or.inr (Or.inl a2)⟩; exact ⟨by omega, Or.inr (Or.inr a2)⟩; (exfalso; omega)
          · rintro ⟨a1, a2 | a2 | a2⟩; (exfalso; omega); exact ⟨by omega, Or.inl a2⟩; exact ⟨fun z => by rw [z] at a2; exact absurd a2 (by rw [show kA (-1) = -1 from rfl]; omega), Or.inr (Or.inl a2)⟩
  refine x_iload_n (i := 2) (pc := 0) F dX8_taken_0 rfl rfl ?_
  refine x_iconst (pc := 1) F dX8_taken_1 ?_
  refine x_bipush (pc := 2) F dX8_taken_2 (by decide) ?_
  refine x_S3z (pc := 4) F dX8_taken_4 lk_X8_78 rfl (c_X8_isIn _ _ _ (by omega) _) rfl rfl rfl ?_
  rintro _ _ ⟨rfl, rfl⟩
  refine x_if_neB (tgt := 13) (pc := 7) F dX8_taken_7 rfl (fun h7 => ?_) (fun h7 => ?_)
  · try simp only [decide_eq_true_eq, decide_eq_false_iff_not, Bool.and_eq_true, Bool.or_eq_true, Bool.not_eq_true', Bool.not_eq_false', Bool.and_eq_false_iff, Bool.or_eq_false_iff] at h7
    refine x_aload_n (i := 0) (pc := 13) F dX8_taken_13 rfl rfl ?_
    refine x_iload_n (i := 1) (pc := 14) F dX8_taken_14 rfl rfl ?_
    refine x_V1z (ci := 8) (pc := 15) F dX8_taken_15 lk_X8_94 rfl (vm_ok rfl) rfl rfl (c_isComerW hT hI76 _ (by omega)) rfl rfl rfl ?_
    rintro _ _ ⟨rfl, rfl⟩
    refine x_if_neB (tgt := 24) (pc := 18) F dX8_taken_18 rfl (fun h18 => ?_) (fun h18 => ?_)
    · try simp only [decide_eq_true_eq, decide_eq_false_iff_not, Bool.and_eq_true, Bool.or_eq_true, Bool.not_eq_true', Bool.not_eq_false', Bool.and_eq_false_iff, Bool.or_eq_false_iff] at h18
      refine x_aload_n (i := 0) (pc := 24) F dX8_taken_24 rfl rfl ?_
      refine x_iload_n (i := 1) (pc := 25) F dX8_taken_25 rfl rfl ?_
      refine x_iconst (pc := 26) F dX8_taken_26 ?_
      refine x_V2i (ci := 8) (pc := 27) F dX8_taken_27 lk_X8_82 rfl (vm_ok rfl) rfl rfl (c_X8_one hT (16 + 10 * c) _ _ (by omega)) rfl rfl rfl ?_
      rintro _ _ ⟨rfl, rfl⟩
      refine x_istore_n (i := 3) (pc := 30) F dX8_taken_30 rfl rfl ?_
      have hki := (hI.2.1 c (by omega) (by omega)).1
      exact x_sub (L' := [(0, .ref (ad (30, 0, 0))), (1, .int (I c)), (2, .int (I k)), (3, .int (I (T (16 + 10 * c))))]) ⟨rfl, rfl, rfl, rfl, trivial⟩ (loop (by omega) (by omega) 7 _ (by omega) (by omega) ⟨fun z => z.2, fun z => ⟨by omega, z⟩⟩)
    · try simp only [decide_eq_true_eq, decide_eq_false_iff_not, Bool.and_eq_true, Bool.or_eq_true, Bool.not_eq_true', Bool.not_eq_false', Bool.and_eq_false_iff, Bool.or_eq_false_iff] at h18
      refine x_bipush (pc := 21) F dX8_taken_21 (by decide) ?_
      refine tq_reti (pc := 23) F dX8_taken_23 ?_ rfl rfl rfl
      exact ⟨by unfold takenZ; rw [if_pos (by omega), if_neg (by omega)], rfl⟩
  · try simp only [decide_eq_true_eq, decide_eq_false_iff_not, Bool.and_eq_true, Bool.or_eq_true, Bool.not_eq_true', Bool.not_eq_false', Bool.and_eq_false_iff, Bool.or_eq_false_iff] at h7
    refine x_bipush (pc := 10) F dX8_taken_10 (by decide) ?_
    refine tq_reti (pc := 12) F dX8_taken_12 ?_ rfl rfl rfl
    exact ⟨by unfold takenZ; rw [if_neg (by omega)], rfl⟩
set_option maxRecDepth 20000 in
theorem c_X8_count (w : Int) (hw : -2147483648 ≤ w ∧ w < 2147483648) (hT : TN μ T) (l : Launch) (E : Ev) (A : Nat → Prop) : Con l E 1 m_X8_count A VM ad μ [.ref (ad (30, 0, 0)), .int (I w)] (pi fun z μ' => z = countZ T (μ (30, 0, 0) 8) (μ (30, 0, 0) 5) (μ (30, 0, 0) 27) w ∧ μ = μ') := by
  refine con (own := RX8) (by decide +kernel) rfl rfl rfl (fun Γ F => ?_)
  refine x_iload_n (i := 1) (pc := 0) F dX8_count_0 rfl rfl ?_
  refine x_tab (ts := [44, 52, 57, 65, 73, 81, 86]) (dt := 91) (pc := 1) F dX8_count_1 rfl rfl (by omega) ⟨fun h1 => ?_, fun h1 => ?_, fun h1 => ?_, fun h1 => ?_, fun h1 => ?_, fun h1 => ?_, fun h1 => ?_, trivial⟩ (fun h1 => ?_)
  · refine x_aload_n (i := 0) (pc := 44) F dX8_count_44 rfl rfl ?_
    refine gf_X8_9 (pc := 45) F dX8_count_45 (vm_ok rfl) ?_
    refine x_bipush (pc := 48) F dX8_count_48 (by decide) ?_
    refine tq_ia (pc := 50) F dX8_count_50 (vm_ok rfl) rfl (fun _ => rfl) (by omega) ?_
    rw [hT 76 (by omega) (by omega)]
    refine tq_reti (pc := 51) F dX8_count_51 ?_ rfl rfl rfl
    exact ⟨by unfold countZ; rw [if_pos (by omega)], rfl⟩
  · refine x_aload_n (i := 0) (pc := 52) F dX8_count_52 rfl rfl ?_
    refine gf_X8_179 (pc := 53) F dX8_count_53 (vm_ok rfl) ?_
    refine tq_reti (pc := 56) F dX8_count_56 ?_ rfl rfl rfl
    exact ⟨by unfold countZ; rw [if_neg (by omega), if_pos (by omega)], rfl⟩
  · refine x_aload_n (i := 0) (pc := 57) F dX8_count_57 rfl rfl ?_
    refine gf_X8_9 (pc := 58) F dX8_count_58 (vm_ok rfl) ?_
    refine x_bipush (pc := 61) F dX8_count_61 (by decide) ?_
    refine tq_ia (pc := 63) F dX8_count_63 (vm_ok rfl) rfl (fun _ => rfl) (by omega) ?_
    rw [hT 79 (by omega) (by omega)]
    refine tq_reti (pc := 64) F dX8_count_64 ?_ rfl rfl rfl
    exact ⟨by unfold countZ; rw [if_neg (by omega), if_neg (by omega), if_pos (by omega)], rfl⟩
  · refine x_aload_n (i := 0) (pc := 65) F dX8_count_65 rfl rfl ?_
    refine gf_X8_9 (pc := 66) F dX8_count_66 (vm_ok rfl) ?_
    refine x_bipush (pc := 69) F dX8_count_69 (by decide) ?_
    refine tq_ia (pc := 71) F dX8_count_71 (vm_ok rfl) rfl (fun _ => rfl) (by omega) ?_
    rw [hT 95 (by omega) (by omega)]
    refine tq_reti (pc := 72) F dX8_count_72 ?_ rfl rfl rfl
    exact ⟨by unfold countZ; rw [if_neg (by omega), if_neg (by omega), if_neg (by omega), if_pos (by omega)], rfl⟩
  · refine x_aload_n (i := 0) (pc := 73) F dX8_count_73 rfl rfl ?_
    refine gf_X8_9 (pc := 74) F dX8_count_74 (vm_ok rfl) ?_
    refine x_bipush (pc := 77) F dX8_count_77 (by decide) ?_
    refine tq_ia (pc := 79) F dX8_count_79 (vm_ok rfl) rfl (fun _ => rfl) (by omega) ?_
    rw [hT 116 (by omega) (by omega)]
    refine tq_reti (pc := 80) F dX8_count_80 ?_ rfl rfl rfl
    exact ⟨by unfold countZ; rw [if_neg (by omega), if_neg (by omega), if_neg (by omega), if_neg (by omega), if_pos (by omega)], rfl⟩
  · refine x_aload_n (i := 0) (pc := 81) F dX8_count_81 rfl rfl ?_
    refine gf_X8_121 (pc := 82) F dX8_count_82 (vm_ok rfl) ?_
    refine tq_reti (pc := 85) F dX8_count_85 ?_ rfl rfl rfl
    exact ⟨by unfold countZ; rw [if_neg (by omega), if_neg (by omega), if_neg (by omega), if_neg (by omega), if_neg (by omega), if_pos (by omega)], rfl⟩
  · refine x_aload_n (i := 0) (pc := 86) F dX8_count_86 rfl rfl ?_
    refine gf_X8_255 (pc := 87) F dX8_count_87 (vm_ok rfl) ?_
    refine tq_reti (pc := 90) F dX8_count_90 ?_ rfl rfl rfl
    exact ⟨by unfold countZ; rw [if_neg (by omega), if_neg (by omega), if_neg (by omega), if_neg (by omega), if_neg (by omega), if_neg (by omega), if_pos (by omega)], rfl⟩
  · refine x_bipush (pc := 91) F dX8_count_91 (by decide) ?_
    refine tq_reti (pc := 93) F dX8_count_93 ?_ rfl rfl rfl
    exact ⟨by unfold countZ; rw [if_neg (by omega), if_neg (by omega), if_neg (by omega), if_neg (by omega), if_neg (by omega), if_neg (by omega), if_neg (by omega)], rfl⟩
set_option maxRecDepth 20000 in
theorem c_X8_tape (t s n : Int) (ht : -2147483648 ≤ t ∧ t < 2147483648) (hs : -2147483648 ≤ s ∧ s < 2147483648) (hn : -2147483648 ≤ n ∧ n < 2147483648) (hP : TPM μ st ln it) (l : Launch) (E : Ev) (A : Nat → Prop) : Con l E 2 m_X8_tape A VM ad μ [.ref (ad (30, 0, 0)), .int (I t), .int (I s), .int (I n)] (pi fun z μ' => z = tapeZ t s n ∧ TPM μ' (tapeS st t s n) (tapeN ln t s n) (tapeI it t s n) ∧ ∀ o, ¬ tapO o → μ' o = μ o) := by
  refine con (own := RX8) (by decide +kernel) rfl rfl rfl (fun Γ F => ?_)
  have loop : 0 ≤ t ∧ t < 6 → tapeZ t s n = 1 → ∀ q : Int, (q = if s = -1 then 0 else n) → ∀ (N k : Nat) (μ1 : Me), 60 - k < N → k ≤ 60 → μ1 (47, 0, 0) = upM μ (47, 0, 0) t s (47, 0, 0) → μ1 (48, 0, 0) = upM μ (48, 0, 0) t q (48, 0, 0) → (∀ j : Int, μ1 (49, 0, 0) j = if 60 * t ≤ j ∧ j < 60 * t + k then 0 else μ (49, 0, 0) j) → (∀ o, ¬ tapO o → μ1 o = μ o) → XX Γ 5 VM ad (vl ad μ1) 0 0 67 [(0, .ref (ad (30, 0, 0))), (1, .int (I t)), (4, .int (I k))] [] := by
    intro ht1 hz q hq N
    induction N with
    | zero => intro k μ1 b1; omega
    | succ N ih =>
      intro k μ1 b1 b2 b3 b4 b5 b6
      refine x_iload (i := 4) (pc := 67) F dX8_tape_67 rfl ?_
      refine x_bipush (pc := 69) F dX8_tape_69 (by decide) ?_
      refine x_icmp_ge (tgt := 93) (pc := 71) F dX8_tape_71 rfl (by omega) (fun h71 => ?_) (fun h71 => ?_)
      · refine x_iconst (pc := 93) F dX8_tape_93 ?_
        refine tq_reti (pc := 94) F dX8_tape_94 ?_ rfl rfl rfl
        obtain rfl : k = 60 := by omega
        refine ⟨hz.symm, fun t' x y => ?_, b6⟩
        obtain ⟨h1, h2, h3⟩ := hP t' x y
        unfold tapeS tapeN tapeI upT
        rw [if_pos hz, if_pos hz, if_pos hz, b3, b4, upM_i, upM_i]
        refine ⟨by rw [h1], by rw [h2, hq], fun k x2 y2 => ?_⟩
        rw [b5, h3 k x2 y2]
        rfl
      · refine x_aload_n (i := 0) (pc := 74) F dX8_tape_74 rfl rfl ?_
        refine gf_X8_67 (pc := 75) F dX8_tape_75 (vm_ok rfl) ?_
        refine x_bipush (pc := 78) F dX8_tape_78 (by decide) ?_
        refine x_iload_n (i := 1) (pc := 80) F dX8_tape_80 rfl rfl ?_
        refine x_imul (pc := 81) F dX8_tape_81 ?_
        refine x_iload (i := 4) (pc := 82) F dX8_tape_82 rfl ?_
        refine x_iadd (pc := 84) F dX8_tape_84 ?_
        refine x_lconst (pc := 85) F dX8_tape_85 (z := 0) (by decide) ?_
        refine tq_las (pc := 86) F dX8_tape_86 (vm_ok rfl) rfl (fun _ => rfl) (by omega) ?_
        refine x_iinc (pc := 87) F dX8_tape_87 rfl rfl ?_
        refine x_goto (tgt := 67) (pc := 90) F dX8_tape_90 rfl ?_
        exact x_sub (L' := [(0, .ref (ad (30, 0, 0))), (1, .int (I t)), (4, .int (I ((k + 1 : Nat) : Int)))]) ⟨rfl, rfl, rfl, trivial⟩ (ih (k + 1) _ (by omega) (by omega) (by rw [upM_ne (by simp)]; exact b3) (by rw [upM_ne (by simp)]; exact b4) (fun j => by rw [upM_i, b5]; by_cases e : j = 60 * t + k; (rw [if_pos e, if_pos (by omega)]); rw [if_neg e]; by_cases e2 : 60 * t ≤ j ∧ j < 60 * t + k; (rw [if_pos e2, if_pos (by omega)]); rw [if_neg e2, if_neg (by omega)]) (fun o ho => by rw [upM_ne (fun z => ho (by rw [z]; exact Or.inr (Or.inr (Or.inl rfl))))]; exact b6 o ho))
  refine x_iload_n (i := 1) (pc := 0) F dX8_tape_0 rfl rfl ?_
  refine x_S1z (pc := 1) F dX8_tape_1 lk_X8_267 rfl (c_X8_isTape _ (by omega) _) rfl rfl rfl ?_
  rintro _ _ ⟨rfl, rfl⟩
  refine x_if_neB (tgt := 9) (pc := 4) F dX8_tape_4 rfl (fun h4 => ?_) (fun h4 => ?_)
  · try simp only [decide_eq_true_eq, decide_eq_false_iff_not, Bool.and_eq_true, Bool.or_eq_true, Bool.not_eq_true', Bool.not_eq_false', Bool.and_eq_false_iff, Bool.or_eq_false_iff] at h4
    refine x_iload_n (i := 2) (pc := 9) F dX8_tape_9 rfl rfl ?_
    refine x_iconst (pc := 10) F dX8_tape_10 ?_
    refine x_iconst (pc := 11) F dX8_tape_11 ?_
    refine x_S3z (pc := 12) F dX8_tape_12 lk_X8_78 rfl (c_X8_isIn _ _ _ (by omega) _) rfl rfl rfl ?_
    rintro _ _ ⟨rfl, rfl⟩
    refine x_if_eqB (tgt := 28) (pc := 15) F dX8_tape_15 rfl (fun h15 => ?_) (fun h15 => ?_)
    · try simp only [decide_eq_true_eq, decide_eq_false_iff_not, Bool.and_eq_true, Bool.or_eq_true, Bool.not_eq_true', Bool.not_eq_false', Bool.and_eq_false_iff, Bool.or_eq_false_iff] at h15
      refine x_bipush (pc := 28) F dX8_tape_28 (by decide) ?_
      refine tq_reti (pc := 30) F dX8_tape_30 ?_ rfl rfl rfl
      have hz : tapeZ t s n = -2 := by unfold tapeZ; rw [if_pos (by omega), if_neg (by omega), if_neg (by omega)]
      exact ⟨hz.symm, by unfold tapeS tapeN tapeI; rw [hz]; exact hP, fun _ _ => rfl⟩
    · try simp only [decide_eq_true_eq, decide_eq_false_iff_not, Bool.and_eq_true, Bool.or_eq_true, Bool.not_eq_true', Bool.not_eq_false', Bool.and_eq_false_iff, Bool.or_eq_false_iff] at h15
      refine x_iload_n (i := 2) (pc := 18) F dX8_tape_18 rfl rfl ?_
      refine x_if_lt (tgt := 31) (pc := 19) F dX8_tape_19 rfl (by omega) (fun h19 => ?_) (fun h19 => ?_)
      · refine x_iload_n (i := 2) (pc := 31) F dX8_tape_31 rfl rfl ?_
        refine x_if_lt (tgt := 42) (pc := 32) F dX8_tape_32 rfl (by omega) (fun h32 => ?_) (fun h32 => ?_)
        · refine x_aload_n (i := 0) (pc := 42) F dX8_tape_42 rfl rfl ?_
          refine gf_X8_61 (pc := 43) F dX8_tape_43 (vm_ok rfl) ?_
          refine x_iload_n (i := 1) (pc := 46) F dX8_tape_46 rfl rfl ?_
          refine x_iload_n (i := 2) (pc := 47) F dX8_tape_47 rfl rfl ?_
          refine tq_ias (pc := 48) F dX8_tape_48 (vm_ok rfl) rfl (fun _ => rfl) (by omega) ?_
          refine x_aload_n (i := 0) (pc := 49) F dX8_tape_49 rfl rfl ?_
          refine gf_X8_64 (pc := 50) F dX8_tape_50 (vm_ok rfl) ?_
          refine x_iload_n (i := 1) (pc := 53) F dX8_tape_53 rfl rfl ?_
          refine x_iload_n (i := 2) (pc := 54) F dX8_tape_54 rfl rfl ?_
          refine x_if_ge (tgt := 62) (pc := 55) F dX8_tape_55 rfl (by omega) (fun h55 => ?_) (fun h55 => ?_)
          · refine x_iload_n (i := 3) (pc := 62) F dX8_tape_62 rfl rfl ?_
            refine tq_ias (pc := 63) F dX8_tape_63 (vm_ok rfl) rfl (fun _ => rfl) (by omega) ?_
            refine x_iconst (pc := 64) F dX8_tape_64 ?_
            refine x_istore (i := 4) (pc := 65) F dX8_tape_65 rfl ?_
            have hz : tapeZ t s n = 1 := by unfold tapeZ; rw [if_pos (by omega)]; by_cases e : s = -1; (rw [if_pos e]); rw [if_neg e, if_pos (by omega), if_neg (by omega)]
            first | (exfalso; omega) | skip
            all_goals refine x_sub (L' := [(0, .ref (ad (30, 0, 0))), (1, .int (I t)), (4, .int (I ((0 : Nat) : Int)))]) ⟨rfl, rfl, rfl, trivial⟩ (loop (by omega) hz _ (by split <;> omega) 61 0 _ (by omega) (by omega) (by rw [upM_ne (by simp)]) (upM_oo (upM_ne (by simp))) (fun j => by rw [if_neg (by omega), upM_ne (by simp), upM_ne (by simp)]) (fun o ho => by rw [upM_ne (fun z => ho (by rw [z]; exact Or.inr (Or.inl rfl))), upM_ne (fun z => ho (by rw [z]; exact Or.inl rfl))]))
          · refine x_iconst (pc := 58) F dX8_tape_58 ?_
            refine x_goto (tgt := 63) (pc := 59) F dX8_tape_59 rfl ?_
            refine tq_ias (pc := 63) F dX8_tape_63 (vm_ok rfl) rfl (fun _ => rfl) (by omega) ?_
            refine x_iconst (pc := 64) F dX8_tape_64 ?_
            refine x_istore (i := 4) (pc := 65) F dX8_tape_65 rfl ?_
            have hz : tapeZ t s n = 1 := by unfold tapeZ; rw [if_pos (by omega)]; by_cases e : s = -1; (rw [if_pos e]); rw [if_neg e, if_pos (by omega), if_neg (by omega)]
            first | (exfalso; omega) | skip
            all_goals refine x_sub (L' := [(0, .ref (ad (30, 0, 0))), (1, .int (I t)), (4, .int (I ((0 : Nat) : Int)))]) ⟨rfl, rfl, rfl, trivial⟩ (loop (by omega) hz _ (by split <;> omega) 61 0 _ (by omega) (by omega) (by rw [upM_ne (by simp)]) (upM_oo (upM_ne (by simp))) (fun j => by rw [if_neg (by omega), upM_ne (by simp), upM_ne (by simp)]) (fun o ho => by rw [upM_ne (fun z => ho (by rw [z]; exact Or.inr (Or.inl rfl))), upM_ne (fun z => ho (by rw [z]; exact Or.inl rfl))]))
        · refine x_iload_n (i := 3) (pc := 35) F dX8_tape_35 rfl rfl ?_
          refine x_if_ge (tgt := 42) (pc := 36) F dX8_tape_36 rfl (by omega) (fun h36 => ?_) (fun h36 => ?_)
          · refine x_aload_n (i := 0) (pc := 42) F dX8_tape_42 rfl rfl ?_
            refine gf_X8_61 (pc := 43) F dX8_tape_43 (vm_ok rfl) ?_
            refine x_iload_n (i := 1) (pc := 46) F dX8_tape_46 rfl rfl ?_
            refine x_iload_n (i := 2) (pc := 47) F dX8_tape_47 rfl rfl ?_
            refine tq_ias (pc := 48) F dX8_tape_48 (vm_ok rfl) rfl (fun _ => rfl) (by omega) ?_
            refine x_aload_n (i := 0) (pc := 49) F dX8_tape_49 rfl rfl ?_
            refine gf_X8_64 (pc := 50) F dX8_tape_50 (vm_ok rfl) ?_
            refine x_iload_n (i := 1) (pc := 53) F dX8_tape_53 rfl rfl ?_
            refine x_iload_n (i := 2) (pc := 54) F dX8_tape_54 rfl rfl ?_
            refine x_if_ge (tgt := 62) (pc := 55) F dX8_tape_55 rfl (by omega) (fun h55 => ?_) (fun h55 => ?_)
            · refine x_iload_n (i := 3) (pc := 62) F dX8_tape_62 rfl rfl ?_
              refine tq_ias (pc := 63) F dX8_tape_63 (vm_ok rfl) rfl (fun _ => rfl) (by omega) ?_
              refine x_iconst (pc := 64) F dX8_tape_64 ?_
              refine x_istore (i := 4) (pc := 65) F dX8_tape_65 rfl ?_
              have hz : tapeZ t s n = 1 := by unfold tapeZ; rw [if_pos (by omega)]; by_cases e : s = -1; (rw [if_pos e]); rw [if_neg e, if_pos (by omega), if_neg (by omega)]
              first | (exfalso; omega) | skip
              all_goals refine x_sub (L' := [(0, .ref (ad (30, 0, 0))), (1, .int (I t)), (4, .int (I ((0 : Nat) : Int)))]) ⟨rfl, rfl, rfl, trivial⟩ (loop (by omega) hz _ (by split <;> omega) 61 0 _ (by omega) (by omega) (by rw [upM_ne (by simp)]) (upM_oo (upM_ne (by simp))) (fun j => by rw [if_neg (by omega), upM_ne (by simp), upM_ne (by simp)]) (fun o ho => by rw [upM_ne (fun z => ho (by rw [z]; exact Or.inr (Or.inl rfl))), upM_ne (fun z => ho (by rw [z]; exact Or.inl rfl))]))
            · refine x_iconst (pc := 58) F dX8_tape_58 ?_
              refine x_goto (tgt := 63) (pc := 59) F dX8_tape_59 rfl ?_
              refine tq_ias (pc := 63) F dX8_tape_63 (vm_ok rfl) rfl (fun _ => rfl) (by omega) ?_
              refine x_iconst (pc := 64) F dX8_tape_64 ?_
              refine x_istore (i := 4) (pc := 65) F dX8_tape_65 rfl ?_
              have hz : tapeZ t s n = 1 := by unfold tapeZ; rw [if_pos (by omega)]; by_cases e : s = -1; (rw [if_pos e]); rw [if_neg e, if_pos (by omega), if_neg (by omega)]
              first | (exfalso; omega) | skip
              all_goals refine x_sub (L' := [(0, .ref (ad (30, 0, 0))), (1, .int (I t)), (4, .int (I ((0 : Nat) : Int)))]) ⟨rfl, rfl, rfl, trivial⟩ (loop (by omega) hz _ (by split <;> omega) 61 0 _ (by omega) (by omega) (by rw [upM_ne (by simp)]) (upM_oo (upM_ne (by simp))) (fun j => by rw [if_neg (by omega), upM_ne (by simp), upM_ne (by simp)]) (fun o ho => by rw [upM_ne (fun z => ho (by rw [z]; exact Or.inr (Or.inl rfl))), upM_ne (fun z => ho (by rw [z]; exact Or.inl rfl))]))
          · refine x_bipush (pc := 39) F dX8_tape_39 (by decide) ?_
            refine tq_reti (pc := 41) F dX8_tape_41 ?_ rfl rfl rfl
            have hz : tapeZ t s n = -14 := by unfold tapeZ; rw [if_pos (by omega), if_neg (by omega), if_pos (by omega), if_pos (by omega)]
            exact ⟨hz.symm, by unfold tapeS tapeN tapeI; rw [hz]; exact hP, fun _ _ => rfl⟩
      · refine x_iload_n (i := 3) (pc := 22) F dX8_tape_22 rfl rfl ?_
        refine x_bipush (pc := 23) F dX8_tape_23 (by decide) ?_
        refine x_icmp_le (tgt := 31) (pc := 25) F dX8_tape_25 rfl (by omega) (fun h25 => ?_) (fun h25 => ?_)
        · refine x_iload_n (i := 2) (pc := 31) F dX8_tape_31 rfl rfl ?_
          refine x_if_lt (tgt := 42) (pc := 32) F dX8_tape_32 rfl (by omega) (fun h32 => ?_) (fun h32 => ?_)
          · refine x_aload_n (i := 0) (pc := 42) F dX8_tape_42 rfl rfl ?_
            refine gf_X8_61 (pc := 43) F dX8_tape_43 (vm_ok rfl) ?_
            refine x_iload_n (i := 1) (pc := 46) F dX8_tape_46 rfl rfl ?_
            refine x_iload_n (i := 2) (pc := 47) F dX8_tape_47 rfl rfl ?_
            refine tq_ias (pc := 48) F dX8_tape_48 (vm_ok rfl) rfl (fun _ => rfl) (by omega) ?_
            refine x_aload_n (i := 0) (pc := 49) F dX8_tape_49 rfl rfl ?_
            refine gf_X8_64 (pc := 50) F dX8_tape_50 (vm_ok rfl) ?_
            refine x_iload_n (i := 1) (pc := 53) F dX8_tape_53 rfl rfl ?_
            refine x_iload_n (i := 2) (pc := 54) F dX8_tape_54 rfl rfl ?_
            refine x_if_ge (tgt := 62) (pc := 55) F dX8_tape_55 rfl (by omega) (fun h55 => ?_) (fun h55 => ?_)
            · refine x_iload_n (i := 3) (pc := 62) F dX8_tape_62 rfl rfl ?_
              refine tq_ias (pc := 63) F dX8_tape_63 (vm_ok rfl) rfl (fun _ => rfl) (by omega) ?_
              refine x_iconst (pc := 64) F dX8_tape_64 ?_
              refine x_istore (i := 4) (pc := 65) F dX8_tape_65 rfl ?_
              have hz : tapeZ t s n = 1 := by unfold tapeZ; rw [if_pos (by omega)]; by_cases e : s = -1; (rw [if_pos e]); rw [if_neg e, if_pos (by omega), if_neg (by omega)]
              first | (exfalso; omega) | skip
              all_goals refine x_sub (L' := [(0, .ref (ad (30, 0, 0))), (1, .int (I t)), (4, .int (I ((0 : Nat) : Int)))]) ⟨rfl, rfl, rfl, trivial⟩ (loop (by omega) hz _ (by split <;> omega) 61 0 _ (by omega) (by omega) (by rw [upM_ne (by simp)]) (upM_oo (upM_ne (by simp))) (fun j => by rw [if_neg (by omega), upM_ne (by simp), upM_ne (by simp)]) (fun o ho => by rw [upM_ne (fun z => ho (by rw [z]; exact Or.inr (Or.inl rfl))), upM_ne (fun z => ho (by rw [z]; exact Or.inl rfl))]))
            · refine x_iconst (pc := 58) F dX8_tape_58 ?_
              refine x_goto (tgt := 63) (pc := 59) F dX8_tape_59 rfl ?_
              refine tq_ias (pc := 63) F dX8_tape_63 (vm_ok rfl) rfl (fun _ => rfl) (by omega) ?_
              refine x_iconst (pc := 64) F dX8_tape_64 ?_
              refine x_istore (i := 4) (pc := 65) F dX8_tape_65 rfl ?_
              have hz : tapeZ t s n = 1 := by unfold tapeZ; rw [if_pos (by omega)]; by_cases e : s = -1; (rw [if_pos e]); rw [if_neg e, if_pos (by omega), if_neg (by omega)]
              first | (exfalso; omega) | skip
              all_goals refine x_sub (L' := [(0, .ref (ad (30, 0, 0))), (1, .int (I t)), (4, .int (I ((0 : Nat) : Int)))]) ⟨rfl, rfl, rfl, trivial⟩ (loop (by omega) hz _ (by split <;> omega) 61 0 _ (by omega) (by omega) (by rw [upM_ne (by simp)]) (upM_oo (upM_ne (by simp))) (fun j => by rw [if_neg (by omega), upM_ne (by simp), upM_ne (by simp)]) (fun o ho => by rw [upM_ne (fun z => ho (by rw [z]; exact Or.inr (Or.inl rfl))), upM_ne (fun z => ho (by rw [z]; exact Or.inl rfl))]))
          · refine x_iload_n (i := 3) (pc := 35) F dX8_tape_35 rfl rfl ?_
            refine x_if_ge (tgt := 42) (pc := 36) F dX8_tape_36 rfl (by omega) (fun h36 => ?_) (fun h36 => ?_)
            · refine x_aload_n (i := 0) (pc := 42) F dX8_tape_42 rfl rfl ?_
              refine gf_X8_61 (pc := 43) F dX8_tape_43 (vm_ok rfl) ?_
              refine x_iload_n (i := 1) (pc := 46) F dX8_tape_46 rfl rfl ?_
              refine x_iload_n (i := 2) (pc := 47) F dX8_tape_47 rfl rfl ?_
              refine tq_ias (pc := 48) F dX8_tape_48 (vm_ok rfl) rfl (fun _ => rfl) (by omega) ?_
              refine x_aload_n (i := 0) (pc := 49) F dX8_tape_49 rfl rfl ?_
              refine gf_X8_64 (pc := 50) F dX8_tape_50 (vm_ok rfl) ?_
              refine x_iload_n (i := 1) (pc := 53) F dX8_tape_53 rfl rfl ?_
              refine x_iload_n (i := 2) (pc := 54) F dX8_tape_54 rfl rfl ?_
              refine x_if_ge (tgt := 62) (pc := 55) F dX8_tape_55 rfl (by omega) (fun h55 => ?_) (fun h55 => ?_)
              · refine x_iload_n (i := 3) (pc := 62) F dX8_tape_62 rfl rfl ?_
                refine tq_ias (pc := 63) F dX8_tape_63 (vm_ok rfl) rfl (fun _ => rfl) (by omega) ?_
                refine x_iconst (pc := 64) F dX8_tape_64 ?_
                refine x_istore (i := 4) (pc := 65) F dX8_tape_65 rfl ?_
                have hz : tapeZ t s n = 1 := by unfold tapeZ; rw [if_pos (by omega)]; by_cases e : s = -1; (rw [if_pos e]); rw [if_neg e, if_pos (by omega), if_neg (by omega)]
                first | (exfalso; omega) | skip
                all_goals refine x_sub (L' := [(0, .ref (ad (30, 0, 0))), (1, .int (I t)), (4, .int (I ((0 : Nat) : Int)))]) ⟨rfl, rfl, rfl, trivial⟩ (loop (by omega) hz _ (by split <;> omega) 61 0 _ (by omega) (by omega) (by rw [upM_ne (by simp)]) (upM_oo (upM_ne (by simp))) (fun j => by rw [if_neg (by omega), upM_ne (by simp), upM_ne (by simp)]) (fun o ho => by rw [upM_ne (fun z => ho (by rw [z]; exact Or.inr (Or.inl rfl))), upM_ne (fun z => ho (by rw [z]; exact Or.inl rfl))]))
              · refine x_iconst (pc := 58) F dX8_tape_58 ?_
                refine x_goto (tgt := 63) (pc := 59) F dX8_tape_59 rfl ?_
                refine tq_ias (pc := 63) F dX8_tape_63 (vm_ok rfl) rfl (fun _ => rfl) (by omega) ?_
                refine x_iconst (pc := 64) F dX8_tape_64 ?_
                refine x_istore (i := 4) (pc := 65) F dX8_tape_65 rfl ?_
                have hz : tapeZ t s n = 1 := by unfold tapeZ; rw [if_pos (by omega)]; by_cases e : s = -1; (rw [if_pos e]); rw [if_neg e, if_pos (by omega), if_neg (by omega)]
                first | (exfalso; omega) | skip
                all_goals refine x_sub (L' := [(0, .ref (ad (30, 0, 0))), (1, .int (I t)), (4, .int (I ((0 : Nat) : Int)))]) ⟨rfl, rfl, rfl, trivial⟩ (loop (by omega) hz _ (by split <;> omega) 61 0 _ (by omega) (by omega) (by rw [upM_ne (by simp)]) (upM_oo (upM_ne (by simp))) (fun j => by rw [if_neg (by omega), upM_ne (by simp), upM_ne (by simp)]) (fun o ho => by rw [upM_ne (fun z => ho (by rw [z]; exact Or.inr (Or.inl rfl))), upM_ne (fun z => ho (by rw [z]; exact Or.inl rfl))]))
            · refine x_bipush (pc := 39) F dX8_tape_39 (by decide) ?_
              refine tq_reti (pc := 41) F dX8_tape_41 ?_ rfl rfl rfl
              have hz : tapeZ t s n = -14 := by unfold tapeZ; rw [if_pos (by omega), if_neg (by omega), if_pos (by omega), if_pos (by omega)]
              exact ⟨hz.symm, by unfold tapeS tapeN tapeI; rw [hz]; exact hP, fun _ _ => rfl⟩
        · refine x_bipush (pc := 28) F dX8_tape_28 (by decide) ?_
          refine tq_reti (pc := 30) F dX8_tape_30 ?_ rfl rfl rfl
          have hz : tapeZ t s n = -2 := by unfold tapeZ; rw [if_pos (by omega), if_neg (by omega), if_neg (by omega)]
          exact ⟨hz.symm, by unfold tapeS tapeN tapeI; rw [hz]; exact hP, fun _ _ => rfl⟩
  · try simp only [decide_eq_true_eq, decide_eq_false_iff_not, Bool.and_eq_true, Bool.or_eq_true, Bool.not_eq_true', Bool.not_eq_false', Bool.and_eq_false_iff, Bool.or_eq_false_iff] at h4
    refine x_iconst (pc := 7) F dX8_tape_7 ?_
    refine tq_reti (pc := 8) F dX8_tape_8 ?_ rfl rfl rfl
    have hz : tapeZ t s n = -1 := by unfold tapeZ; rw [if_neg (by omega)]
    exact ⟨hz.symm, by unfold tapeS tapeN tapeI; rw [hz]; exact hP, fun _ _ => rfl⟩
set_option maxRecDepth 20000 in
theorem c_X8_item (t i v : Int) (ht : -2147483648 ≤ t ∧ t < 2147483648) (hi : -2147483648 ≤ i ∧ i < 2147483648) (hP : TPM μ st ln it) (hQ : TPI st ln it) (l : Launch) (E : Ev) (A : Nat → Prop) : Con l E 2 m_X8_item A VM ad μ [.ref (ad (30, 0, 0)), .int (I t), .int (I i), .long (J v)] (pi fun z μ' => z = itemZ st ln t i ∧ TPM μ' st ln (itemI st ln it t i v) ∧ ∀ o, ¬ tapO o → μ' o = μ o) := by
  have hw := w32_rg v
  have hb8 := b8_rg (w32 v)
  have hs16 := s16_rg (w32 v)
  have hlr := lcS_rg v 0
  refine con (own := RX8) (by decide +kernel) rfl rfl rfl (fun Γ F => ?_)
  refine x_iload_n (i := 1) (pc := 0) F dX8_item_0 rfl rfl ?_
  refine x_S1z (pc := 1) F dX8_item_1 lk_X8_267 rfl (c_X8_isTape _ (by omega) _) rfl rfl rfl ?_
  rintro _ _ ⟨rfl, rfl⟩
  refine x_if_neB (tgt := 9) (pc := 4) F dX8_item_4 rfl (fun h4 => ?_) (fun h4 => ?_)
  · try simp only [decide_eq_true_eq, decide_eq_false_iff_not, Bool.and_eq_true, Bool.or_eq_true, Bool.not_eq_true', Bool.not_eq_false', Bool.and_eq_false_iff, Bool.or_eq_false_iff] at h4
    obtain ⟨h1, h2, h3⟩ := hP t (by omega) (by omega)
    obtain ⟨g1, g2, g3, g4⟩ := hQ t (by omega) (by omega)
    refine x_aload_n (i := 0) (pc := 9) F dX8_item_9 rfl rfl ?_
    refine gf_X8_61 (pc := 10) F dX8_item_10 (vm_ok rfl) ?_
    refine x_iload_n (i := 1) (pc := 13) F dX8_item_13 rfl rfl ?_
    refine tq_ia (pc := 14) F dX8_item_14 (vm_ok rfl) rfl (fun _ => rfl) (by omega) ?_
    refine x_if_ge (tgt := 21) (pc := 15) F dX8_item_15 rfl (by omega) (fun h15 => ?_) (fun h15 => ?_)
    · refine x_iload_n (i := 2) (pc := 21) F dX8_item_21 rfl rfl ?_
      refine x_iconst (pc := 22) F dX8_item_22 ?_
      refine x_aload_n (i := 0) (pc := 23) F dX8_item_23 rfl rfl ?_
      refine gf_X8_64 (pc := 24) F dX8_item_24 (vm_ok rfl) ?_
      refine x_iload_n (i := 1) (pc := 27) F dX8_item_27 rfl rfl ?_
      refine tq_ia (pc := 28) F dX8_item_28 (vm_ok rfl) rfl (fun _ => rfl) (by omega) ?_
      refine x_iconst (pc := 29) F dX8_item_29 ?_
      refine x_isub (pc := 30) F dX8_item_30 ?_
      refine x_S3z (pc := 31) F dX8_item_31 lk_X8_78 rfl (c_X8_isIn _ _ _ (by omega) _) rfl rfl rfl ?_
      rintro _ _ ⟨rfl, rfl⟩
      refine x_if_neB (tgt := 40) (pc := 34) F dX8_item_34 rfl (fun h34 => ?_) (fun h34 => ?_)
      · try simp only [decide_eq_true_eq, decide_eq_false_iff_not, Bool.and_eq_true, Bool.or_eq_true, Bool.not_eq_true', Bool.not_eq_false', Bool.and_eq_false_iff, Bool.or_eq_false_iff] at h34
        refine x_aload_n (i := 0) (pc := 40) F dX8_item_40 rfl rfl ?_
        refine gf_X8_61 (pc := 41) F dX8_item_41 (vm_ok rfl) ?_
        refine x_iload_n (i := 1) (pc := 44) F dX8_item_44 rfl rfl ?_
        refine tq_ia (pc := 45) F dX8_item_45 (vm_ok rfl) rfl (fun _ => rfl) (by omega) ?_
        refine x_istore (i := 5) (pc := 46) F dX8_item_46 rfl ?_
        refine x_aload_n (i := 0) (pc := 48) F dX8_item_48 rfl rfl ?_
        refine gf_X8_67 (pc := 49) F dX8_item_49 (vm_ok rfl) ?_
        refine x_bipush (pc := 52) F dX8_item_52 (by decide) ?_
        refine x_iload_n (i := 1) (pc := 54) F dX8_item_54 rfl rfl ?_
        refine x_imul (pc := 55) F dX8_item_55 ?_
        refine x_iload_n (i := 2) (pc := 56) F dX8_item_56 rfl rfl ?_
        refine x_iadd (pc := 57) F dX8_item_57 ?_
        refine x_iload (i := 5) (pc := 58) F dX8_item_58 rfl ?_
        refine x_if_ne (tgt := 70) (pc := 60) F dX8_item_60 rfl (by omega) (fun h60 => ?_) (fun h60 => ?_)
        · refine x_iload (i := 5) (pc := 70) F dX8_item_70 rfl ?_
          refine x_iconst (pc := 72) F dX8_item_72 ?_
          refine x_icmp_ne (tgt := 83) (pc := 73) F dX8_item_73 rfl (by omega) (fun h73 => ?_) (fun h73 => ?_)
          · refine x_iload (i := 5) (pc := 83) F dX8_item_83 rfl ?_
            refine x_iconst (pc := 85) F dX8_item_85 ?_
            refine x_icmp_ne (tgt := 95) (pc := 86) F dX8_item_86 rfl (by omega) (fun h86 => ?_) (fun h86 => ?_)
            · refine x_iload (i := 5) (pc := 95) F dX8_item_95 rfl ?_
              refine x_iconst (pc := 97) F dX8_item_97 ?_
              refine x_icmp_ne (tgt := 105) (pc := 98) F dX8_item_98 rfl (by omega) (fun h98 => ?_) (fun h98 => ?_)
              · refine x_lload_n (i := 3) (pc := 105) F dX8_item_105 rfl rfl ?_
                refine x_lconst (pc := 106) F dX8_item_106 (z := 0) (by decide) ?_
                refine tq_lcmp (pc := 107) F dX8_item_107 ?_
                refine x_if_eq (tgt := 115) (pc := 108) F dX8_item_108 rfl (by omega) (fun h108 => ?_) (fun h108 => ?_)
                · refine x_lconst (pc := 115) F dX8_item_115 (z := 0) (by decide) ?_
                  refine tq_las (pc := 116) F dX8_item_116 (vm_ok rfl) rfl (fun _ => rfl) (by omega) ?_
                  refine x_iconst (pc := 117) F dX8_item_117 ?_
                  refine tq_reti (pc := 118) F dX8_item_118 ?_ rfl rfl rfl
                  have hz : itemZ st ln t i = 1 := by unfold itemZ; rw [if_pos (by omega), if_neg (by omega), if_pos (by omega)]
                  refine ⟨hz.symm, fun t' x y => ?_, fun o ho => upM_ne (fun z => ho (by rw [z]; exact Or.inr (Or.inr (Or.inl rfl))))⟩
                  obtain ⟨k1, k2, k3⟩ := hP t' x y
                  rw [upM_ne (by simp), upM_ne (by simp)]
                  refine ⟨k1, k2, fun k x2 y2 => ?_⟩
                  unfold itemI
                  rw [if_pos hz, upM_i]
                  unfold upT
                  by_cases e : 60 * t' + k = 60 * t + i
                  · rw [if_pos e, if_pos e]; unfold cutS; first | (rw [if_pos (by omega)]; done) | (rw [if_neg (by omega), if_pos (by omega)]; done) | (rw [if_neg (by omega), if_neg (by omega), if_pos (by omega)]; done) | (rw [if_neg (by omega), if_neg (by omega), if_neg (by omega), if_neg (by omega)]; done) | (rw [if_neg (by omega), if_neg (by omega), if_neg (by omega), if_pos (by omega), if_pos (by omega)]; done) | (rw [if_neg (by omega), if_neg (by omega), if_neg (by omega), if_pos (by omega), if_neg (by omega)]; done)
                  · rw [if_neg e, if_neg e]; exact k3 k x2 y2
                · refine x_lconst (pc := 111) F dX8_item_111 (z := 1) (by decide) ?_
                  refine x_goto (tgt := 116) (pc := 112) F dX8_item_112 rfl ?_
                  refine tq_las (pc := 116) F dX8_item_116 (vm_ok rfl) rfl (fun _ => rfl) (by omega) ?_
                  refine x_iconst (pc := 117) F dX8_item_117 ?_
                  refine tq_reti (pc := 118) F dX8_item_118 ?_ rfl rfl rfl
                  have hz : itemZ st ln t i = 1 := by unfold itemZ; rw [if_pos (by omega), if_neg (by omega), if_pos (by omega)]
                  refine ⟨hz.symm, fun t' x y => ?_, fun o ho => upM_ne (fun z => ho (by rw [z]; exact Or.inr (Or.inr (Or.inl rfl))))⟩
                  obtain ⟨k1, k2, k3⟩ := hP t' x y
                  rw [upM_ne (by simp), upM_ne (by simp)]
                  refine ⟨k1, k2, fun k x2 y2 => ?_⟩
                  unfold itemI
                  rw [if_pos hz, upM_i]
                  unfold upT
                  by_cases e : 60 * t' + k = 60 * t + i
                  · rw [if_pos e, if_pos e]; unfold cutS; first | (rw [if_pos (by omega)]; done) | (rw [if_neg (by omega), if_pos (by omega)]; done) | (rw [if_neg (by omega), if_neg (by omega), if_pos (by omega)]; done) | (rw [if_neg (by omega), if_neg (by omega), if_neg (by omega), if_neg (by omega)]; done) | (rw [if_neg (by omega), if_neg (by omega), if_neg (by omega), if_pos (by omega), if_pos (by omega)]; done) | (rw [if_neg (by omega), if_neg (by omega), if_neg (by omega), if_pos (by omega), if_neg (by omega)]; done)
                  · rw [if_neg e, if_neg e]; exact k3 k x2 y2
              · refine x_lload_n (i := 3) (pc := 101) F dX8_item_101 rfl rfl ?_
                refine x_goto (tgt := 116) (pc := 102) F dX8_item_102 rfl ?_
                refine tq_las (pc := 116) F dX8_item_116 (vm_ok rfl) rfl (fun _ => rfl) (by omega) ?_
                refine x_iconst (pc := 117) F dX8_item_117 ?_
                refine tq_reti (pc := 118) F dX8_item_118 ?_ rfl rfl rfl
                have hz : itemZ st ln t i = 1 := by unfold itemZ; rw [if_pos (by omega), if_neg (by omega), if_pos (by omega)]
                refine ⟨hz.symm, fun t' x y => ?_, fun o ho => upM_ne (fun z => ho (by rw [z]; exact Or.inr (Or.inr (Or.inl rfl))))⟩
                obtain ⟨k1, k2, k3⟩ := hP t' x y
                rw [upM_ne (by simp), upM_ne (by simp)]
                refine ⟨k1, k2, fun k x2 y2 => ?_⟩
                unfold itemI
                rw [if_pos hz, upM_i]
                unfold upT
                by_cases e : 60 * t' + k = 60 * t + i
                · rw [if_pos e, if_pos e]; unfold cutS; first | (rw [if_pos (by omega)]; done) | (rw [if_neg (by omega), if_pos (by omega)]; done) | (rw [if_neg (by omega), if_neg (by omega), if_pos (by omega)]; done) | (rw [if_neg (by omega), if_neg (by omega), if_neg (by omega), if_neg (by omega)]; done) | (rw [if_neg (by omega), if_neg (by omega), if_neg (by omega), if_pos (by omega), if_pos (by omega)]; done) | (rw [if_neg (by omega), if_neg (by omega), if_neg (by omega), if_pos (by omega), if_neg (by omega)]; done)
                · rw [if_neg e, if_neg e]; exact k3 k x2 y2
            · refine x_lload_n (i := 3) (pc := 89) F dX8_item_89 rfl rfl ?_
              refine tq_l2i (pc := 90) F dX8_item_90 ?_
              refine x_i2l (pc := 91) F dX8_item_91 (by omega) ?_
              refine x_goto (tgt := 116) (pc := 92) F dX8_item_92 rfl ?_
              refine tq_las (pc := 116) F dX8_item_116 (vm_ok rfl) rfl (fun _ => rfl) (by omega) ?_
              refine x_iconst (pc := 117) F dX8_item_117 ?_
              refine tq_reti (pc := 118) F dX8_item_118 ?_ rfl rfl rfl
              have hz : itemZ st ln t i = 1 := by unfold itemZ; rw [if_pos (by omega), if_neg (by omega), if_pos (by omega)]
              refine ⟨hz.symm, fun t' x y => ?_, fun o ho => upM_ne (fun z => ho (by rw [z]; exact Or.inr (Or.inr (Or.inl rfl))))⟩
              obtain ⟨k1, k2, k3⟩ := hP t' x y
              rw [upM_ne (by simp), upM_ne (by simp)]
              refine ⟨k1, k2, fun k x2 y2 => ?_⟩
              unfold itemI
              rw [if_pos hz, upM_i]
              unfold upT
              by_cases e : 60 * t' + k = 60 * t + i
              · rw [if_pos e, if_pos e]; unfold cutS; first | (rw [if_pos (by omega)]; done) | (rw [if_neg (by omega), if_pos (by omega)]; done) | (rw [if_neg (by omega), if_neg (by omega), if_pos (by omega)]; done) | (rw [if_neg (by omega), if_neg (by omega), if_neg (by omega), if_neg (by omega)]; done) | (rw [if_neg (by omega), if_neg (by omega), if_neg (by omega), if_pos (by omega), if_pos (by omega)]; done) | (rw [if_neg (by omega), if_neg (by omega), if_neg (by omega), if_pos (by omega), if_neg (by omega)]; done)
              · rw [if_neg e, if_neg e]; exact k3 k x2 y2
          · refine x_lload_n (i := 3) (pc := 76) F dX8_item_76 rfl rfl ?_
            refine tq_l2i (pc := 77) F dX8_item_77 ?_
            refine tq_i2s (pc := 78) F dX8_item_78 ?_
            refine x_i2l (pc := 79) F dX8_item_79 (by omega) ?_
            refine x_goto (tgt := 116) (pc := 80) F dX8_item_80 rfl ?_
            refine tq_las (pc := 116) F dX8_item_116 (vm_ok rfl) rfl (fun _ => rfl) (by omega) ?_
            refine x_iconst (pc := 117) F dX8_item_117 ?_
            refine tq_reti (pc := 118) F dX8_item_118 ?_ rfl rfl rfl
            have hz : itemZ st ln t i = 1 := by unfold itemZ; rw [if_pos (by omega), if_neg (by omega), if_pos (by omega)]
            refine ⟨hz.symm, fun t' x y => ?_, fun o ho => upM_ne (fun z => ho (by rw [z]; exact Or.inr (Or.inr (Or.inl rfl))))⟩
            obtain ⟨k1, k2, k3⟩ := hP t' x y
            rw [upM_ne (by simp), upM_ne (by simp)]
            refine ⟨k1, k2, fun k x2 y2 => ?_⟩
            unfold itemI
            rw [if_pos hz, upM_i]
            unfold upT
            by_cases e : 60 * t' + k = 60 * t + i
            · rw [if_pos e, if_pos e]; unfold cutS; first | (rw [if_pos (by omega)]; done) | (rw [if_neg (by omega), if_pos (by omega)]; done) | (rw [if_neg (by omega), if_neg (by omega), if_pos (by omega)]; done) | (rw [if_neg (by omega), if_neg (by omega), if_neg (by omega), if_neg (by omega)]; done) | (rw [if_neg (by omega), if_neg (by omega), if_neg (by omega), if_pos (by omega), if_pos (by omega)]; done) | (rw [if_neg (by omega), if_neg (by omega), if_neg (by omega), if_pos (by omega), if_neg (by omega)]; done)
            · rw [if_neg e, if_neg e]; exact k3 k x2 y2
        · refine x_lload_n (i := 3) (pc := 63) F dX8_item_63 rfl rfl ?_
          refine tq_l2i (pc := 64) F dX8_item_64 ?_
          refine tq_i2b (pc := 65) F dX8_item_65 ?_
          refine x_i2l (pc := 66) F dX8_item_66 (by omega) ?_
          refine x_goto (tgt := 116) (pc := 67) F dX8_item_67 rfl ?_
          refine tq_las (pc := 116) F dX8_item_116 (vm_ok rfl) rfl (fun _ => rfl) (by omega) ?_
          refine x_iconst (pc := 117) F dX8_item_117 ?_
          refine tq_reti (pc := 118) F dX8_item_118 ?_ rfl rfl rfl
          have hz : itemZ st ln t i = 1 := by unfold itemZ; rw [if_pos (by omega), if_neg (by omega), if_pos (by omega)]
          refine ⟨hz.symm, fun t' x y => ?_, fun o ho => upM_ne (fun z => ho (by rw [z]; exact Or.inr (Or.inr (Or.inl rfl))))⟩
          obtain ⟨k1, k2, k3⟩ := hP t' x y
          rw [upM_ne (by simp), upM_ne (by simp)]
          refine ⟨k1, k2, fun k x2 y2 => ?_⟩
          unfold itemI
          rw [if_pos hz, upM_i]
          unfold upT
          by_cases e : 60 * t' + k = 60 * t + i
          · rw [if_pos e, if_pos e]; unfold cutS; first | (rw [if_pos (by omega)]; done) | (rw [if_neg (by omega), if_pos (by omega)]; done) | (rw [if_neg (by omega), if_neg (by omega), if_pos (by omega)]; done) | (rw [if_neg (by omega), if_neg (by omega), if_neg (by omega), if_neg (by omega)]; done) | (rw [if_neg (by omega), if_neg (by omega), if_neg (by omega), if_pos (by omega), if_pos (by omega)]; done) | (rw [if_neg (by omega), if_neg (by omega), if_neg (by omega), if_pos (by omega), if_neg (by omega)]; done)
          · rw [if_neg e, if_neg e]; exact k3 k x2 y2
      · try simp only [decide_eq_true_eq, decide_eq_false_iff_not, Bool.and_eq_true, Bool.or_eq_true, Bool.not_eq_true', Bool.not_eq_false', Bool.and_eq_false_iff, Bool.or_eq_false_iff] at h34
        refine x_bipush (pc := 37) F dX8_item_37 (by decide) ?_
        refine tq_reti (pc := 39) F dX8_item_39 ?_ rfl rfl rfl
        have hz : itemZ st ln t i = -13 := by unfold itemZ; rw [if_pos (by omega), if_neg (by omega), if_neg (by omega)]
        exact ⟨hz.symm, by unfold itemI; rw [hz]; exact hP, fun _ _ => rfl⟩
    · refine x_bipush (pc := 18) F dX8_item_18 (by decide) ?_
      refine tq_reti (pc := 20) F dX8_item_20 ?_ rfl rfl rfl
      have hz : itemZ st ln t i = -11 := by unfold itemZ; rw [if_pos (by omega), if_pos (by omega)]
      exact ⟨hz.symm, by unfold itemI; rw [hz]; exact hP, fun _ _ => rfl⟩
  · try simp only [decide_eq_true_eq, decide_eq_false_iff_not, Bool.and_eq_true, Bool.or_eq_true, Bool.not_eq_true', Bool.not_eq_false', Bool.and_eq_false_iff, Bool.or_eq_false_iff] at h4
    refine x_iconst (pc := 7) F dX8_item_7 ?_
    refine tq_reti (pc := 8) F dX8_item_8 ?_ rfl rfl rfl
    have hz : itemZ st ln t i = -1 := by unfold itemZ; rw [if_neg (by omega)]
    exact ⟨hz.symm, by unfold itemI; rw [hz]; exact hP, fun _ _ => rfl⟩
set_option maxRecDepth 20000 in
theorem c_X8_read (t i : Int) (ht : -2147483648 ≤ t ∧ t < 2147483648) (hi : -2147483648 ≤ i ∧ i < 2147483648) (hP : TPM μ st ln it) (hQ : TPI st ln it) (l : Launch) (E : Ev) (A : Nat → Prop) : Con l E 2 m_X8_read A VM ad μ [.ref (ad (30, 0, 0)), .int (I t), .int (I i)] (pl fun z μ' => z = readZ ln it t i ∧ μ = μ') := by
  refine con (own := RX8) (by decide +kernel) rfl rfl rfl (fun Γ F => ?_)
  refine x_iload_n (i := 1) (pc := 0) F dX8_read_0 rfl rfl ?_
  refine x_S1z (pc := 1) F dX8_read_1 lk_X8_267 rfl (c_X8_isTape _ (by omega) _) rfl rfl rfl ?_
  rintro _ _ ⟨rfl, rfl⟩
  refine x_if_eqB (tgt := 37) (pc := 4) F dX8_read_4 rfl (fun h4 => ?_) (fun h4 => ?_)
  · try simp only [decide_eq_true_eq, decide_eq_false_iff_not, Bool.and_eq_true, Bool.or_eq_true, Bool.not_eq_true', Bool.not_eq_false', Bool.and_eq_false_iff, Bool.or_eq_false_iff] at h4
    refine x_ldc2 (z := -9223372036854775808) (pc := 37) F dX8_read_37 kw_1159 rfl ?_
    refine tq_retl (pc := 40) F dX8_read_40 ?_ rfl rfl rfl
    first | exact ⟨by unfold readZ; rw [if_pos (by omega)], rfl⟩ | exact ⟨by unfold readZ; rw [if_neg (by omega)], rfl⟩
  · try simp only [decide_eq_true_eq, decide_eq_false_iff_not, Bool.and_eq_true, Bool.or_eq_true, Bool.not_eq_true', Bool.not_eq_false', Bool.and_eq_false_iff, Bool.or_eq_false_iff] at h4
    obtain ⟨h1, h2, h3⟩ := hP t (by omega) (by omega)
    obtain ⟨g1, g2, g3, g4⟩ := hQ t (by omega) (by omega)
    refine x_iload_n (i := 2) (pc := 7) F dX8_read_7 rfl rfl ?_
    refine x_iconst (pc := 8) F dX8_read_8 ?_
    refine x_aload_n (i := 0) (pc := 9) F dX8_read_9 rfl rfl ?_
    refine gf_X8_64 (pc := 10) F dX8_read_10 (vm_ok rfl) ?_
    refine x_iload_n (i := 1) (pc := 13) F dX8_read_13 rfl rfl ?_
    refine tq_ia (pc := 14) F dX8_read_14 (vm_ok rfl) rfl (fun _ => rfl) (by omega) ?_
    refine x_iconst (pc := 15) F dX8_read_15 ?_
    refine x_isub (pc := 16) F dX8_read_16 ?_
    refine x_S3z (pc := 17) F dX8_read_17 lk_X8_78 rfl (c_X8_isIn _ _ _ (by omega) _) rfl rfl rfl ?_
    rintro _ _ ⟨rfl, rfl⟩
    refine x_if_eqB (tgt := 37) (pc := 20) F dX8_read_20 rfl (fun h20 => ?_) (fun h20 => ?_)
    · try simp only [decide_eq_true_eq, decide_eq_false_iff_not, Bool.and_eq_true, Bool.or_eq_true, Bool.not_eq_true', Bool.not_eq_false', Bool.and_eq_false_iff, Bool.or_eq_false_iff] at h20
      refine x_ldc2 (z := -9223372036854775808) (pc := 37) F dX8_read_37 kw_1159 rfl ?_
      refine tq_retl (pc := 40) F dX8_read_40 ?_ rfl rfl rfl
      first | exact ⟨by unfold readZ; rw [if_pos (by omega)], rfl⟩ | exact ⟨by unfold readZ; rw [if_neg (by omega)], rfl⟩
    · try simp only [decide_eq_true_eq, decide_eq_false_iff_not, Bool.and_eq_true, Bool.or_eq_true, Bool.not_eq_true', Bool.not_eq_false', Bool.and_eq_false_iff, Bool.or_eq_false_iff] at h20
      refine x_aload_n (i := 0) (pc := 23) F dX8_read_23 rfl rfl ?_
      refine gf_X8_67 (pc := 24) F dX8_read_24 (vm_ok rfl) ?_
      refine x_bipush (pc := 27) F dX8_read_27 (by decide) ?_
      refine x_iload_n (i := 1) (pc := 29) F dX8_read_29 rfl rfl ?_
      refine x_imul (pc := 30) F dX8_read_30 ?_
      refine x_iload_n (i := 2) (pc := 31) F dX8_read_31 rfl rfl ?_
      refine x_iadd (pc := 32) F dX8_read_32 ?_
      refine tq_la (pc := 33) F dX8_read_33 (vm_ok rfl) rfl (fun _ => rfl) (by omega) ?_
      rw [h3 i (by omega) (by omega)]
      refine x_goto (tgt := 40) (pc := 34) F dX8_read_34 rfl ?_
      refine tq_retl (pc := 40) F dX8_read_40 ?_ rfl rfl rfl
      first | exact ⟨by unfold readZ; rw [if_pos (by omega)], rfl⟩ | exact ⟨by unfold readZ; rw [if_neg (by omega)], rfl⟩
set_option maxRecDepth 20000 in
theorem c_X8_shift (t i o j n : Int) (ht : -2147483648 ≤ t ∧ t < 2147483648) (hi : -2147483648 ≤ i ∧ i < 2147483648) (ho : -2147483648 ≤ o ∧ o < 2147483648) (hj : -2147483648 ≤ j ∧ j < 2147483648) (hn : -2147483648 ≤ n ∧ n < 2147483648) (hP : TPM μ st ln it) (hQ : TPI st ln it) (l : Launch) (E : Ev) (A : Nat → Prop) : Con l E 2 m_X8_shift A VM ad μ [.ref (ad (30, 0, 0)), .int (I t), .int (I i), .int (I o), .int (I j), .int (I n)] (pi fun z μ' => z = shiftZ st ln t i o j n ∧ TPM μ' st ln (shiftI st ln it t i o j n) ∧ ∀ o, ¬ tapO o → μ' o = μ o) := by
  refine con (own := RX8) (by decide +kernel) rfl rfl rfl (fun Γ F => ?_)
  have no : ∀ z : Int, z = shiftZ st ln t i o j n → ¬ shOk st ln t i o j n → z = shiftZ st ln t i o j n ∧ TPM μ st ln (shiftI st ln it t i o j n) ∧ ∀ o, ¬ tapO o → μ o = μ o := fun z h1 h2 => ⟨h1, by unfold shiftI; rw [if_neg h2]; exact hP, fun _ _ => rfl⟩
  have l139 : shOk st ln t i o j n → ∀ (N k : Nat) (μ1 : Me), n - k < N → k ≤ n → (∀ q : Int, 0 ≤ q → q < n → μ1 (50, 0, 0) q = μ (49, 0, 0) (60 * t + i + q)) → (∀ q : Int, μ1 (49, 0, 0) q = if 60 * o + j ≤ q ∧ q < 60 * o + j + k then μ (49, 0, 0) (60 * t + i + (q - (60 * o + j))) else μ (49, 0, 0) q) → (∀ o, o ≠ (49, 0, 0) → o ≠ (50, 0, 0) → μ1 o = μ o) → XX Γ 7 VM ad (vl ad μ1) 0 0 139 [(0, .ref (ad (30, 0, 0))), (3, .int (I o)), (4, .int (I j)), (5, .int (I n)), (6, .int (I k))] [] := by
    intro hsh N
    obtain ⟨⟨s1, s2⟩, ⟨s3, s4⟩, s5, s6⟩ := id hsh
    have q1 := hQ t (by omega) (by omega)
    have q2 := hQ o (by omega) (by omega)
    induction N with
    | zero => intro k μ1 b1; omega
    | succ N ih =>
      intro k μ1 b1 b2 b3 b4 b5
      refine x_iload (i := 6) (pc := 139) F dX8_shift_139 rfl ?_
      refine x_iload (i := 5) (pc := 141) F dX8_shift_141 rfl ?_
      refine x_icmp_ge (tgt := 174) (pc := 143) F dX8_shift_143 rfl (by omega) (fun h143 => ?_) (fun h143 => ?_)
      · refine x_iload (i := 5) (pc := 174) F dX8_shift_174 rfl ?_
        refine tq_reti (pc := 176) F dX8_shift_176 ?_ rfl rfl rfl
        have ek : (k : Int) = n := by omega
        refine ⟨by unfold shiftZ; rw [if_pos ⟨s1, s2⟩, if_neg s3, if_pos s4, if_pos ⟨s5, s6⟩], fun t' x y => ?_, fun o ho => b5 o (fun z => ho (by rw [z]; exact Or.inr (Or.inr (Or.inl rfl)))) (fun z => ho (by rw [z]; exact Or.inr (Or.inr (Or.inr rfl))))⟩
        obtain ⟨k1, k2, k3⟩ := hP t' x y
        rw [b5 _ (by simp) (by simp), b5 _ (by simp) (by simp)]
        refine ⟨k1, k2, fun q x2 y2 => ?_⟩
        unfold shiftI
        rw [if_pos hsh, b4, ek]
        by_cases e2 : 60 * o + j ≤ 60 * t' + q ∧ 60 * t' + q < 60 * o + j + n
        · rw [if_pos e2, if_pos e2]
          have hm := (hP t (by omega) (by omega)).2.2 (i + (60 * t' + q - (60 * o + j))) (by omega) (by omega)
          rw [← Int.add_assoc] at hm; exact hm
        · rw [if_neg e2, if_neg e2]; exact k3 q x2 y2
      · refine x_aload_n (i := 0) (pc := 146) F dX8_shift_146 rfl rfl ?_
        refine gf_X8_67 (pc := 147) F dX8_shift_147 (vm_ok rfl) ?_
        refine x_bipush (pc := 150) F dX8_shift_150 (by decide) ?_
        refine x_iload_n (i := 3) (pc := 152) F dX8_shift_152 rfl rfl ?_
        refine x_imul (pc := 153) F dX8_shift_153 ?_
        refine x_iload (i := 4) (pc := 154) F dX8_shift_154 rfl ?_
        refine x_iadd (pc := 156) F dX8_shift_156 ?_
        refine x_iload (i := 6) (pc := 157) F dX8_shift_157 rfl ?_
        refine x_iadd (pc := 159) F dX8_shift_159 ?_
        refine x_aload_n (i := 0) (pc := 160) F dX8_shift_160 rfl rfl ?_
        refine gf_X8_71 (pc := 161) F dX8_shift_161 (vm_ok rfl) ?_
        refine x_iload (i := 6) (pc := 164) F dX8_shift_164 rfl ?_
        refine tq_la (pc := 166) F dX8_shift_166 (vm_ok rfl) rfl (fun _ => rfl) (by omega) ?_
        rw [b3 k (by omega) (by omega)]
        refine tq_las (pc := 167) F dX8_shift_167 (vm_ok rfl) rfl (fun _ => rfl) (by omega) ?_
        refine x_iinc (pc := 168) F dX8_shift_168 rfl rfl ?_
        refine x_goto (tgt := 139) (pc := 171) F dX8_shift_171 rfl ?_
        refine x_sub (L' := [(0, .ref (ad (30, 0, 0))), (3, .int (I o)), (4, .int (I j)), (5, .int (I n)), (6, .int (I ((k + 1 : Nat) : Int)))]) ⟨rfl, rfl, rfl, rfl, rfl, trivial⟩ (ih (k + 1) _ (by omega) (by omega) (fun q x y => by rw [upM_ne (by simp)]; exact b3 q x y) (fun q => ?_) (fun o h1 h2 => by rw [upM_ne h1]; exact b5 o h1 h2))
        rw [upM_i, b4]
        by_cases e : q = 60 * o + j + k
        · rw [if_pos e, if_pos (by omega)]; congr 1; omega
        · rw [if_neg e]; by_cases e2 : 60 * o + j ≤ q ∧ q < 60 * o + j + k
          · rw [if_pos e2, if_pos (by omega)]
          · rw [if_neg e2, if_neg (by omega)]
  have l102 : shOk st ln t i o j n → ∀ (N k : Nat) (μ1 : Me), n - k < N → k ≤ n → (∀ q : Int, 0 ≤ q → q < k → μ1 (50, 0, 0) q = μ (49, 0, 0) (60 * t + i + q)) → (∀ o, o ≠ (50, 0, 0) → μ1 o = μ o) → XX Γ 7 VM ad (vl ad μ1) 0 0 102 [(0, .ref (ad (30, 0, 0))), (1, .int (I t)), (2, .int (I i)), (3, .int (I o)), (4, .int (I j)), (5, .int (I n)), (6, .int (I k))] [] := by
    intro hsh N
    obtain ⟨⟨s1, s2⟩, ⟨s3, s4⟩, s5, s6⟩ := id hsh
    have q1 := hQ t (by omega) (by omega)
    have q2 := hQ o (by omega) (by omega)
    induction N with
    | zero => intro k μ1 b1; omega
    | succ N ih =>
      intro k μ1 b1 b2 b3 b4
      refine x_iload (i := 6) (pc := 102) F dX8_shift_102 rfl ?_
      refine x_iload (i := 5) (pc := 104) F dX8_shift_104 rfl ?_
      refine x_icmp_ge (tgt := 136) (pc := 106) F dX8_shift_106 rfl (by omega) (fun h106 => ?_) (fun h106 => ?_)
      · refine x_iconst (pc := 136) F dX8_shift_136 ?_
        refine x_istore (i := 6) (pc := 137) F dX8_shift_137 rfl ?_
        exact x_sub (L' := [(0, .ref (ad (30, 0, 0))), (3, .int (I o)), (4, .int (I j)), (5, .int (I n)), (6, .int (I ((0 : Nat) : Int)))]) ⟨rfl, rfl, rfl, rfl, rfl, trivial⟩ (l139 hsh 61 0 μ1 (by omega) (by omega) (fun q x y => b3 q x (by omega)) (fun q => by rw [if_neg (by omega), b4 _ (by simp)]) (fun o _ h2 => b4 o h2))
      · refine x_aload_n (i := 0) (pc := 109) F dX8_shift_109 rfl rfl ?_
        refine gf_X8_71 (pc := 110) F dX8_shift_110 (vm_ok rfl) ?_
        refine x_iload (i := 6) (pc := 113) F dX8_shift_113 rfl ?_
        refine x_aload_n (i := 0) (pc := 115) F dX8_shift_115 rfl rfl ?_
        refine gf_X8_67 (pc := 116) F dX8_shift_116 (vm_ok rfl) ?_
        refine x_bipush (pc := 119) F dX8_shift_119 (by decide) ?_
        refine x_iload_n (i := 1) (pc := 121) F dX8_shift_121 rfl rfl ?_
        refine x_imul (pc := 122) F dX8_shift_122 ?_
        refine x_iload_n (i := 2) (pc := 123) F dX8_shift_123 rfl rfl ?_
        refine x_iadd (pc := 124) F dX8_shift_124 ?_
        refine x_iload (i := 6) (pc := 125) F dX8_shift_125 rfl ?_
        refine x_iadd (pc := 127) F dX8_shift_127 ?_
        refine tq_la (pc := 128) F dX8_shift_128 (vm_ok rfl) rfl (fun _ => rfl) (by omega) ?_
        rw [b4 _ (by simp)]
        refine tq_las (pc := 129) F dX8_shift_129 (vm_ok rfl) rfl (fun _ => rfl) (by omega) ?_
        refine x_iinc (pc := 130) F dX8_shift_130 rfl rfl ?_
        refine x_goto (tgt := 102) (pc := 133) F dX8_shift_133 rfl ?_
        exact x_sub (L' := [(0, .ref (ad (30, 0, 0))), (1, .int (I t)), (2, .int (I i)), (3, .int (I o)), (4, .int (I j)), (5, .int (I n)), (6, .int (I ((k + 1 : Nat) : Int)))]) ⟨rfl, rfl, rfl, rfl, rfl, rfl, rfl, trivial⟩ (ih (k + 1) _ (by omega) (by omega) (fun q x y => by rw [upM_i]; by_cases e : q = k; (rw [if_pos e, e]); rw [if_neg e]; exact b3 q x (by omega)) (fun o h1 => by rw [upM_ne h1]; exact b4 o h1))
  refine x_iload_n (i := 1) (pc := 0) F dX8_shift_0 rfl rfl ?_
  refine x_S1z (pc := 1) F dX8_shift_1 lk_X8_267 rfl (c_X8_isTape _ (by omega) _) rfl rfl rfl ?_
  rintro _ _ ⟨rfl, rfl⟩
  refine x_if_eqB (tgt := 14) (pc := 4) F dX8_shift_4 rfl (fun h4 => ?_) (fun h4 => ?_)
  · try simp only [decide_eq_true_eq, decide_eq_false_iff_not, Bool.and_eq_true, Bool.or_eq_true, Bool.not_eq_true', Bool.not_eq_false', Bool.and_eq_false_iff, Bool.or_eq_false_iff] at h4
    refine x_iconst (pc := 14) F dX8_shift_14 ?_
    refine tq_reti (pc := 15) F dX8_shift_15 ?_ rfl rfl rfl
    exact no _ (by unfold shiftZ; rw [if_neg (by omega)]) (fun z => by have := z.1; omega)
  · try simp only [decide_eq_true_eq, decide_eq_false_iff_not, Bool.and_eq_true, Bool.or_eq_true, Bool.not_eq_true', Bool.not_eq_false', Bool.and_eq_false_iff, Bool.or_eq_false_iff] at h4
    refine x_iload_n (i := 3) (pc := 7) F dX8_shift_7 rfl rfl ?_
    refine x_S1z (pc := 8) F dX8_shift_8 lk_X8_267 rfl (c_X8_isTape _ (by omega) _) rfl rfl rfl ?_
    rintro _ _ ⟨rfl, rfl⟩
    refine x_if_neB (tgt := 16) (pc := 11) F dX8_shift_11 rfl (fun h11 => ?_) (fun h11 => ?_)
    · try simp only [decide_eq_true_eq, decide_eq_false_iff_not, Bool.and_eq_true, Bool.or_eq_true, Bool.not_eq_true', Bool.not_eq_false', Bool.and_eq_false_iff, Bool.or_eq_false_iff] at h11
      obtain ⟨h1, h2, h3⟩ := hP t (by omega) (by omega)
      obtain ⟨g1, g2, g3, g4⟩ := hQ t (by omega) (by omega)
      obtain ⟨j1, j2, j3⟩ := hP o (by omega) (by omega)
      obtain ⟨r1, r2, r3, r4⟩ := hQ o (by omega) (by omega)
      refine x_aload_n (i := 0) (pc := 16) F dX8_shift_16 rfl rfl ?_
      refine gf_X8_61 (pc := 17) F dX8_shift_17 (vm_ok rfl) ?_
      refine x_iload_n (i := 1) (pc := 20) F dX8_shift_20 rfl rfl ?_
      refine tq_ia (pc := 21) F dX8_shift_21 (vm_ok rfl) rfl (fun _ => rfl) (by omega) ?_
      refine x_if_lt (tgt := 34) (pc := 22) F dX8_shift_22 rfl (by omega) (fun h22 => ?_) (fun h22 => ?_)
      · refine x_bipush (pc := 34) F dX8_shift_34 (by decide) ?_
        refine tq_reti (pc := 36) F dX8_shift_36 ?_ rfl rfl rfl
        exact no _ (by unfold shiftZ; rw [if_pos (by omega), if_pos (by omega)]) (fun z => by have := z.2.1.1; omega)
      · refine x_aload_n (i := 0) (pc := 25) F dX8_shift_25 rfl rfl ?_
        refine gf_X8_61 (pc := 26) F dX8_shift_26 (vm_ok rfl) ?_
        refine x_iload_n (i := 3) (pc := 29) F dX8_shift_29 rfl rfl ?_
        refine tq_ia (pc := 30) F dX8_shift_30 (vm_ok rfl) rfl (fun _ => rfl) (by omega) ?_
        refine x_if_ge (tgt := 37) (pc := 31) F dX8_shift_31 rfl (by omega) (fun h31 => ?_) (fun h31 => ?_)
        · refine x_aload_n (i := 0) (pc := 37) F dX8_shift_37 rfl rfl ?_
          refine gf_X8_61 (pc := 38) F dX8_shift_38 (vm_ok rfl) ?_
          refine x_iload_n (i := 1) (pc := 41) F dX8_shift_41 rfl rfl ?_
          refine tq_ia (pc := 42) F dX8_shift_42 (vm_ok rfl) rfl (fun _ => rfl) (by omega) ?_
          refine x_aload_n (i := 0) (pc := 43) F dX8_shift_43 rfl rfl ?_
          refine gf_X8_61 (pc := 44) F dX8_shift_44 (vm_ok rfl) ?_
          refine x_iload_n (i := 3) (pc := 47) F dX8_shift_47 rfl rfl ?_
          refine tq_ia (pc := 48) F dX8_shift_48 (vm_ok rfl) rfl (fun _ => rfl) (by omega) ?_
          refine x_icmp_eq (tgt := 55) (pc := 49) F dX8_shift_49 rfl (by omega) (fun h49 => ?_) (fun h49 => ?_)
          · refine x_iload (i := 5) (pc := 55) F dX8_shift_55 rfl ?_
            refine x_if_lt (tgt := 96) (pc := 57) F dX8_shift_57 rfl (by omega) (fun h57 => ?_) (fun h57 => ?_)
            · refine x_bipush (pc := 96) F dX8_shift_96 (by decide) ?_
              refine tq_reti (pc := 98) F dX8_shift_98 ?_ rfl rfl rfl
              exact no _ (by unfold shiftZ; rw [if_pos (by omega), if_neg (by omega), if_pos (by omega), if_neg (by omega)]) (fun z => by have := z.2.2; omega)
            · refine x_iload_n (i := 2) (pc := 60) F dX8_shift_60 rfl rfl ?_
              refine x_if_lt (tgt := 96) (pc := 61) F dX8_shift_61 rfl (by omega) (fun h61 => ?_) (fun h61 => ?_)
              · refine x_bipush (pc := 96) F dX8_shift_96 (by decide) ?_
                refine tq_reti (pc := 98) F dX8_shift_98 ?_ rfl rfl rfl
                exact no _ (by unfold shiftZ; rw [if_pos (by omega), if_neg (by omega), if_pos (by omega), if_neg (by omega)]) (fun z => by have := z.2.2; omega)
              · refine x_iload (i := 4) (pc := 64) F dX8_shift_64 rfl ?_
                refine x_if_lt (tgt := 96) (pc := 66) F dX8_shift_66 rfl (by omega) (fun h66 => ?_) (fun h66 => ?_)
                · refine x_bipush (pc := 96) F dX8_shift_96 (by decide) ?_
                  refine tq_reti (pc := 98) F dX8_shift_98 ?_ rfl rfl rfl
                  exact no _ (by unfold shiftZ; rw [if_pos (by omega), if_neg (by omega), if_pos (by omega), if_neg (by omega)]) (fun z => by have := z.2.2; omega)
                · refine x_iload (i := 5) (pc := 69) F dX8_shift_69 rfl ?_
                  refine x_aload_n (i := 0) (pc := 71) F dX8_shift_71 rfl rfl ?_
                  refine gf_X8_64 (pc := 72) F dX8_shift_72 (vm_ok rfl) ?_
                  refine x_iload_n (i := 1) (pc := 75) F dX8_shift_75 rfl rfl ?_
                  refine tq_ia (pc := 76) F dX8_shift_76 (vm_ok rfl) rfl (fun _ => rfl) (by omega) ?_
                  refine x_iload_n (i := 2) (pc := 77) F dX8_shift_77 rfl rfl ?_
                  refine x_isub (pc := 78) F dX8_shift_78 ?_
                  refine x_icmp_gt (tgt := 96) (pc := 79) F dX8_shift_79 rfl (by omega) (fun h79 => ?_) (fun h79 => ?_)
                  · refine x_bipush (pc := 96) F dX8_shift_96 (by decide) ?_
                    refine tq_reti (pc := 98) F dX8_shift_98 ?_ rfl rfl rfl
                    exact no _ (by unfold shiftZ; rw [if_pos (by omega), if_neg (by omega), if_pos (by omega), if_neg (by omega)]) (fun z => by have := z.2.2; omega)
                  · refine x_iload (i := 5) (pc := 82) F dX8_shift_82 rfl ?_
                    refine x_aload_n (i := 0) (pc := 84) F dX8_shift_84 rfl rfl ?_
                    refine gf_X8_64 (pc := 85) F dX8_shift_85 (vm_ok rfl) ?_
                    refine x_iload_n (i := 3) (pc := 88) F dX8_shift_88 rfl rfl ?_
                    refine tq_ia (pc := 89) F dX8_shift_89 (vm_ok rfl) rfl (fun _ => rfl) (by omega) ?_
                    refine x_iload (i := 4) (pc := 90) F dX8_shift_90 rfl ?_
                    refine x_isub (pc := 92) F dX8_shift_92 ?_
                    refine x_icmp_le (tgt := 99) (pc := 93) F dX8_shift_93 rfl (by omega) (fun h93 => ?_) (fun h93 => ?_)
                    · refine x_iconst (pc := 99) F dX8_shift_99 ?_
                      refine x_istore (i := 6) (pc := 100) F dX8_shift_100 rfl ?_
                      exact x_sub (L' := [(0, .ref (ad (30, 0, 0))), (1, .int (I t)), (2, .int (I i)), (3, .int (I o)), (4, .int (I j)), (5, .int (I n)), (6, .int (I ((0 : Nat) : Int)))]) ⟨rfl, rfl, rfl, rfl, rfl, rfl, rfl, trivial⟩ (l102 ⟨by omega, by omega, by omega, by omega⟩ 61 0 μ (by omega) (by omega) (fun q x y => by omega) (fun _ _ => rfl))
                    · refine x_bipush (pc := 96) F dX8_shift_96 (by decide) ?_
                      refine tq_reti (pc := 98) F dX8_shift_98 ?_ rfl rfl rfl
                      exact no _ (by unfold shiftZ; rw [if_pos (by omega), if_neg (by omega), if_pos (by omega), if_neg (by omega)]) (fun z => by have := z.2.2; omega)
          · refine x_bipush (pc := 52) F dX8_shift_52 (by decide) ?_
            refine tq_reti (pc := 54) F dX8_shift_54 ?_ rfl rfl rfl
            exact no _ (by unfold shiftZ; rw [if_pos (by omega), if_neg (by omega), if_neg (by omega)]) (fun z => by have := z.2.1.2; omega)
        · refine x_bipush (pc := 34) F dX8_shift_34 (by decide) ?_
          refine tq_reti (pc := 36) F dX8_shift_36 ?_ rfl rfl rfl
          exact no _ (by unfold shiftZ; rw [if_pos (by omega), if_pos (by omega)]) (fun z => by have := z.2.1.1; omega)
    · try simp only [decide_eq_true_eq, decide_eq_false_iff_not, Bool.and_eq_true, Bool.or_eq_true, Bool.not_eq_true', Bool.not_eq_false', Bool.and_eq_false_iff, Bool.or_eq_false_iff] at h11
      refine x_iconst (pc := 14) F dX8_shift_14 ?_
      refine tq_reti (pc := 15) F dX8_shift_15 ?_ rfl rfl rfl
      exact no _ (by unfold shiftZ; rw [if_neg (by omega)]) (fun z => by have := z.1; omega)
set_option maxRecDepth 20000 in
theorem c_X8_judge (t i : Int) (ht : -2147483648 ≤ t ∧ t < 2147483648) (hi : -2147483648 ≤ i ∧ i < 2147483648) (hT : TN μ T) (hI : TI T) (hP : TPM μ st ln it) (hQ : TPI st ln it) (l : Launch) (E : Ev) (A : Nat → Prop) : Con l E 2 m_X8_judge A VM ad μ [.ref (ad (30, 0, 0)), .int (I t), .int (I i)] (pi fun z μ' => z = judgeZ st ln it T t i ∧ μ = μ') := by
  have hI76 := hI.2.2.1
  have h76 := hT 76 (by omega) (by omega)
  refine con (own := RX8) (by decide +kernel) rfl rfl rfl (fun Γ F => ?_)
  have loop : 0 ≤ t ∧ t < 6 → ∀ (N k : Nat), T 76 - k < N → k ≤ T 76 → judgeZ st ln it T t i = judgeL ln it T t i (T 76 - k).toNat k → XX Γ 6 VM ad (vl ad μ) 0 0 34 [(0, .ref (ad (30, 0, 0))), (1, .int (I t)), (2, .int (I i)), (3, .int (I k))] [] := by
    intro ht1 N
    obtain ⟨h1, h2, h3⟩ := hP t (by omega) (by omega)
    obtain ⟨g1, g2, g3, g4⟩ := hQ t (by omega) (by omega)
    induction N with
    | zero => intro k b1; omega
    | succ N ih =>
      intro k b1 b2 b3
      have hlt := lcS_lt (a := i + k) (b := ln t) (by omega)
      have hlr := lcS_rg (i + k) (ln t)
      refine x_iload_n (i := 3) (pc := 34) F dX8_judge_34 rfl rfl ?_
      refine x_aload_n (i := 0) (pc := 35) F dX8_judge_35 rfl rfl ?_
      refine gf_X8_9 (pc := 36) F dX8_judge_36 (vm_ok rfl) ?_
      refine x_bipush (pc := 39) F dX8_judge_39 (by decide) ?_
      refine tq_ia (pc := 41) F dX8_judge_41 (vm_ok rfl) rfl (fun _ => rfl) (by omega) ?_
      refine x_icmp_ge (tgt := 106) (pc := 42) F dX8_judge_42 rfl (by omega) (fun h42 => ?_) (fun h42 => ?_)
      · refine x_bipush (pc := 106) F dX8_judge_106 (by decide) ?_
        refine tq_reti (pc := 108) F dX8_judge_108 ?_ rfl rfl rfl
        refine ⟨?_, rfl⟩
        rw [b3, show (T 76 - (k : Int)).toNat = 0 by omega]; rfl
      · obtain ⟨f, hf⟩ : ∃ f, (T 76 - k).toNat = f + 1 := ⟨(T 76 - k).toNat - 1, by omega⟩
        rw [hf] at b3
        refine x_iload_n (i := 2) (pc := 45) F dX8_judge_45 rfl rfl ?_
        refine x_i2l (pc := 46) F dX8_judge_46 (by omega) ?_
        refine x_iload_n (i := 3) (pc := 47) F dX8_judge_47 rfl rfl ?_
        refine x_i2l (pc := 48) F dX8_judge_48 (by omega) ?_
        refine x_ladd (pc := 49) F dX8_judge_49 ?_
        refine x_lstore (i := 4) (pc := 50) F dX8_judge_50 rfl ?_
        refine x_iload_n (i := 2) (pc := 52) F dX8_judge_52 rfl rfl ?_
        refine x_if_lt (tgt := 69) (pc := 53) F dX8_judge_53 rfl (by omega) (fun h53 => ?_) (fun h53 => ?_)
        · refine x_bipush (pc := 69) F dX8_judge_69 (by decide) ?_
          refine x_iload_n (i := 3) (pc := 71) F dX8_judge_71 rfl rfl ?_
          refine x_iadd (pc := 72) F dX8_judge_72 ?_
          refine tq_reti (pc := 73) F dX8_judge_73 ?_ rfl rfl rfl
          refine ⟨?_, rfl⟩
          rw [b3]; exact (jdL_a (fun z => by first | omega | (have := hlt.mpr z.2; omega))).symm
        · refine x_lload (i := 4) (pc := 56) F dX8_judge_56 rfl ?_
          refine x_aload_n (i := 0) (pc := 58) F dX8_judge_58 rfl rfl ?_
          refine gf_X8_64 (pc := 59) F dX8_judge_59 (vm_ok rfl) ?_
          refine x_iload_n (i := 1) (pc := 62) F dX8_judge_62 rfl rfl ?_
          refine tq_ia (pc := 63) F dX8_judge_63 (vm_ok rfl) rfl (fun _ => rfl) (by omega) ?_
          refine x_i2l (pc := 64) F dX8_judge_64 (by omega) ?_
          rw [h2]
          refine tq_lcmp (pc := 65) F dX8_judge_65 ?_
          refine x_if_lt (tgt := 74) (pc := 66) F dX8_judge_66 rfl (by omega) (fun h66 => ?_) (fun h66 => ?_)
          · have hin : 0 ≤ i ∧ i + (k : Int) < ln t := ⟨by omega, hlt.mp h66⟩
            refine x_aload_n (i := 0) (pc := 74) F dX8_judge_74 rfl rfl ?_
            refine gf_X8_67 (pc := 75) F dX8_judge_75 (vm_ok rfl) ?_
            refine x_bipush (pc := 78) F dX8_judge_78 (by decide) ?_
            refine x_iload_n (i := 1) (pc := 80) F dX8_judge_80 rfl rfl ?_
            refine x_imul (pc := 81) F dX8_judge_81 ?_
            refine x_lload (i := 4) (pc := 82) F dX8_judge_82 rfl ?_
            refine tq_l2i (pc := 84) F dX8_judge_84 ?_
            rw [w32_id (by omega)]
            refine x_iadd (pc := 85) F dX8_judge_85 ?_
            rw [show 60 * t + (i + (k : Int)) = 60 * t + (i + k) from rfl]
            refine tq_la (pc := 86) F dX8_judge_86 (vm_ok rfl) rfl (fun _ => rfl) (by omega) ?_
            rw [h3 (i + k) (by omega) (by omega)]
            refine x_aload_n (i := 0) (pc := 87) F dX8_judge_87 rfl rfl ?_
            refine x_iload_n (i := 3) (pc := 88) F dX8_judge_88 rfl rfl ?_
            refine x_iconst (pc := 89) F dX8_judge_89 ?_
            refine x_V2i (ci := 8) (pc := 90) F dX8_judge_90 lk_X8_82 rfl (vm_ok rfl) rfl rfl (c_X8_one hT (18 + 10 * (k : Int)) _ _ (by omega)) rfl rfl rfl ?_
            rintro _ _ ⟨rfl, rfl⟩
            have hwr := (hI.2.1 k (by omega) (by omega)).2.2.1
            have hit := g4 (i + k) (by omega) (by omega)
            have hl0 := lcS_0 (a := it (60 * t + (i + k))) (b := T (18 + 10 * (k : Int)))
            rw [J_eq (by omega)] at hl0
            have hlr2 := lcS_rg (it (60 * t + (i + k))) (T (18 + 10 * (k : Int)))
            have hb : (it (60 * t + i + (k : Int)) = T (18 + 10 * (k : Int))) ↔ lcS (it (60 * t + (i + k))) (T (18 + 10 * (k : Int))) = 0 := by rw [hl0, Int.add_assoc]
            refine x_i2l (pc := 93) F dX8_judge_93 (by omega) ?_
            refine tq_lcmp (pc := 94) F dX8_judge_94 ?_
            refine x_if_eq (tgt := 100) (pc := 95) F dX8_judge_95 rfl (by omega) (fun h95 => ?_) (fun h95 => ?_)
            · refine x_iinc (pc := 100) F dX8_judge_100 rfl rfl ?_
              refine x_goto (tgt := 34) (pc := 103) F dX8_judge_103 rfl ?_
              exact x_sub (L' := [(0, .ref (ad (30, 0, 0))), (1, .int (I t)), (2, .int (I i)), (3, .int (I ((k + 1 : Nat) : Int)))]) ⟨rfl, rfl, rfl, rfl, trivial⟩ (ih (k + 1) (by omega) (by omega) (by rw [b3, show (T 76 - ((k + 1 : Nat) : Int)).toNat = f by omega]; exact jdL_n hin (hb.mpr h95)))
            · refine x_iload_n (i := 3) (pc := 98) F dX8_judge_98 rfl rfl ?_
              refine tq_reti (pc := 99) F dX8_judge_99 ?_ rfl rfl rfl
              refine ⟨?_, rfl⟩
              rw [b3]; exact (jdL_b hin (fun z => h95 (hb.mp z))).symm
          · refine x_bipush (pc := 69) F dX8_judge_69 (by decide) ?_
            refine x_iload_n (i := 3) (pc := 71) F dX8_judge_71 rfl rfl ?_
            refine x_iadd (pc := 72) F dX8_judge_72 ?_
            refine tq_reti (pc := 73) F dX8_judge_73 ?_ rfl rfl rfl
            refine ⟨?_, rfl⟩
            rw [b3]; exact (jdL_a (fun z => by first | omega | (have := hlt.mpr z.2; omega))).symm
  refine x_iload_n (i := 1) (pc := 0) F dX8_judge_0 rfl rfl ?_
  refine x_S1z (pc := 1) F dX8_judge_1 lk_X8_267 rfl (c_X8_isTape _ (by omega) _) rfl rfl rfl ?_
  rintro _ _ ⟨rfl, rfl⟩
  refine x_if_neB (tgt := 9) (pc := 4) F dX8_judge_4 rfl (fun h4 => ?_) (fun h4 => ?_)
  · try simp only [decide_eq_true_eq, decide_eq_false_iff_not, Bool.and_eq_true, Bool.or_eq_true, Bool.not_eq_true', Bool.not_eq_false', Bool.and_eq_false_iff, Bool.or_eq_false_iff] at h4
    obtain ⟨h1, h2, h3⟩ := hP t (by omega) (by omega)
    obtain ⟨g1, g2, g3, g4⟩ := hQ t (by omega) (by omega)
    refine x_aload_n (i := 0) (pc := 9) F dX8_judge_9 rfl rfl ?_
    refine gf_X8_61 (pc := 10) F dX8_judge_10 (vm_ok rfl) ?_
    refine x_iload_n (i := 1) (pc := 13) F dX8_judge_13 rfl rfl ?_
    refine tq_ia (pc := 14) F dX8_judge_14 (vm_ok rfl) rfl (fun _ => rfl) (by omega) ?_
    refine x_iconst (pc := 15) F dX8_judge_15 ?_
    refine x_icmp_eq (tgt := 32) (pc := 16) F dX8_judge_16 rfl (by omega) (fun h16 => ?_) (fun h16 => ?_)
    · refine x_iconst (pc := 32) F dX8_judge_32 ?_
      refine x_istore_n (i := 3) (pc := 33) F dX8_judge_33 rfl rfl ?_
      exact x_sub (L' := [(0, .ref (ad (30, 0, 0))), (1, .int (I t)), (2, .int (I i)), (3, .int (I ((0 : Nat) : Int)))]) ⟨rfl, rfl, rfl, rfl, trivial⟩ (loop (by omega) 7 0 (by omega) (by omega) (by unfold judgeZ; rw [if_pos (by omega), if_pos (by omega), show (T 76 - ((0 : Nat) : Int)).toNat = (T 76).toNat by omega]))
    · refine x_aload_n (i := 0) (pc := 19) F dX8_judge_19 rfl rfl ?_
      refine gf_X8_61 (pc := 20) F dX8_judge_20 (vm_ok rfl) ?_
      refine x_iload_n (i := 1) (pc := 23) F dX8_judge_23 rfl rfl ?_
      refine tq_ia (pc := 24) F dX8_judge_24 (vm_ok rfl) rfl (fun _ => rfl) (by omega) ?_
      refine x_iconst (pc := 25) F dX8_judge_25 ?_
      refine x_icmp_eq (tgt := 32) (pc := 26) F dX8_judge_26 rfl (by omega) (fun h26 => ?_) (fun h26 => ?_)
      · refine x_iconst (pc := 32) F dX8_judge_32 ?_
        refine x_istore_n (i := 3) (pc := 33) F dX8_judge_33 rfl rfl ?_
        exact x_sub (L' := [(0, .ref (ad (30, 0, 0))), (1, .int (I t)), (2, .int (I i)), (3, .int (I ((0 : Nat) : Int)))]) ⟨rfl, rfl, rfl, rfl, trivial⟩ (loop (by omega) 7 0 (by omega) (by omega) (by unfold judgeZ; rw [if_pos (by omega), if_pos (by omega), show (T 76 - ((0 : Nat) : Int)).toNat = (T 76).toNat by omega]))
      · refine x_bipush (pc := 29) F dX8_judge_29 (by decide) ?_
        refine tq_reti (pc := 31) F dX8_judge_31 ?_ rfl rfl rfl
        exact ⟨by unfold judgeZ; rw [if_pos (by omega), if_neg (by omega)], rfl⟩
  · try simp only [decide_eq_true_eq, decide_eq_false_iff_not, Bool.and_eq_true, Bool.or_eq_true, Bool.not_eq_true', Bool.not_eq_false', Bool.and_eq_false_iff, Bool.or_eq_false_iff] at h4
    refine x_iconst (pc := 7) F dX8_judge_7 ?_
    refine tq_reti (pc := 8) F dX8_judge_8 ?_ rfl rfl rfl
    exact ⟨by unfold judgeZ; rw [if_neg (by omega)], rfl⟩
/-- the text fed -/
def TXm (μ : Me) (tx : Tn) (tl : Int) : Prop := (μ (30, 0, 0) 5 = tl ∧ 0 ≤ tl ∧ tl ≤ 100) ∧ ∀ k, 0 ≤ k → k < tl → μ (34, 0, 0) k = tx k ∧ 0 ≤ tx k ∧ tx k < 128
set_option maxRecDepth 20000 in
theorem c_X8_feed (s : Int) {tx : Tn} {tl : Int} (hs : -2147483648 ≤ s ∧ s < 2147483648) (hX : TXm μ tx tl) (l : Launch) (E : Ev) (A : Nat → Prop) : Con l E 2 m_X8_feed A VM ad μ [.ref (ad (30, 0, 0)), .int (I s)] (pi fun z μ' => z = feedZ tl s ∧ TXm μ' (feedT tx tl s) (feedN tl s) ∧ (∀ k, k ≠ 5 → μ' (30, 0, 0) k = μ (30, 0, 0) k) ∧ ∀ o, o ≠ (30, 0, 0) → o ≠ (34, 0, 0) → μ' o = μ o) := by
  obtain ⟨⟨t1, t2, t3⟩, t4⟩ := id hX
  refine con (own := RX8) (by decide +kernel) rfl rfl rfl (fun Γ F => ?_)
  refine x_iload_n (i := 1) (pc := 0) F dX8_feed_0 rfl rfl ?_
  refine x_iconst (pc := 1) F dX8_feed_1 ?_
  refine x_bipush (pc := 2) F dX8_feed_2 (by decide) ?_
  refine x_S3z (pc := 4) F dX8_feed_4 lk_X8_78 rfl (c_X8_isIn _ _ _ (by omega) _) rfl rfl rfl ?_
  rintro _ _ ⟨rfl, rfl⟩
  refine x_if_neB (tgt := 13) (pc := 7) F dX8_feed_7 rfl (fun h7 => ?_) (fun h7 => ?_)
  · try simp only [decide_eq_true_eq, decide_eq_false_iff_not, Bool.and_eq_true, Bool.or_eq_true, Bool.not_eq_true', Bool.not_eq_false', Bool.and_eq_false_iff, Bool.or_eq_false_iff] at h7
    refine x_aload_n (i := 0) (pc := 13) F dX8_feed_13 rfl rfl ?_
    refine gf_X8_121 (pc := 14) F dX8_feed_14 (vm_ok rfl) ?_
    refine x_bipush (pc := 17) F dX8_feed_17 (by decide) ?_
    refine x_icmp_ne (tgt := 25) (pc := 19) F dX8_feed_19 rfl (by omega) (fun h19 => ?_) (fun h19 => ?_)
    · refine x_aload_n (i := 0) (pc := 25) F dX8_feed_25 rfl rfl ?_
      refine gf_X8_21 (pc := 26) F dX8_feed_26 (vm_ok rfl) ?_
      refine x_aload_n (i := 0) (pc := 29) F dX8_feed_29 rfl rfl ?_
      refine gf_X8_121 (pc := 30) F dX8_feed_30 (vm_ok rfl) ?_
      refine x_iload_n (i := 1) (pc := 33) F dX8_feed_33 rfl rfl ?_
      rw [t1]
      refine tq_ias (pc := 34) F dX8_feed_34 (vm_ok rfl) rfl (fun _ => rfl) (by omega) ?_
      refine x_aload_n (i := 0) (pc := 35) F dX8_feed_35 rfl rfl ?_
      refine x_dup (pc := 36) F dX8_feed_36 rfl ?_
      refine gf_X8_121 (pc := 37) F dX8_feed_37 (vm_ok rfl) ?_
      rw [upM_ne (by simp), t1]
      refine x_iconst (pc := 40) F dX8_feed_40 ?_
      refine x_iadd (pc := 41) F dX8_feed_41 ?_
      refine pf_X8_121 (pc := 42) F dX8_feed_42 (vm_ok rfl) ?_
      refine x_aload_n (i := 0) (pc := 45) F dX8_feed_45 rfl rfl ?_
      refine gf_X8_121 (pc := 46) F dX8_feed_46 (vm_ok rfl) ?_
      rw [upM_i, if_pos rfl]
      refine tq_reti (pc := 49) F dX8_feed_49 ?_ rfl rfl rfl
      refine ⟨by unfold feedZ; rw [if_pos (by omega), if_neg (by omega)], ?_, fun k hk => by rw [upM_i, if_neg hk, upM_ne (by simp)], fun o h1 h2 => by rw [upM_ne h1, upM_ne h2]⟩
      unfold feedT feedN
      rw [if_pos (by omega), if_pos (by omega)]
      refine ⟨⟨by rw [upM_i, if_pos rfl], by omega, by omega⟩, fun k x y => ?_⟩
      rw [upM_ne (by simp), upM_i]
      unfold upT
      by_cases e : k = tl
      · rw [if_pos e, if_pos e]; omega
      · rw [if_neg e, if_neg e]; exact t4 k x (by omega)
    · refine x_bipush (pc := 22) F dX8_feed_22 (by decide) ?_
      refine tq_reti (pc := 24) F dX8_feed_24 ?_ rfl rfl rfl
      exact ⟨by unfold feedZ; rw [if_pos (by omega), if_pos (by omega)], by unfold feedT feedN; rw [if_neg (by omega), if_neg (by omega)]; exact hX, fun _ _ => rfl, fun _ _ _ => rfl⟩
  · try simp only [decide_eq_true_eq, decide_eq_false_iff_not, Bool.and_eq_true, Bool.or_eq_true, Bool.not_eq_true', Bool.not_eq_false', Bool.and_eq_false_iff, Bool.or_eq_false_iff] at h7
    refine x_bipush (pc := 10) F dX8_feed_10 (by decide) ?_
    refine tq_reti (pc := 12) F dX8_feed_12 ?_ rfl rfl rfl
    exact ⟨by unfold feedZ; rw [if_neg (by omega)], by unfold feedT feedN; rw [if_neg (by omega), if_neg (by omega)]; exact hX, fun _ _ => rfl, fun _ _ _ => rfl⟩
end MTP
