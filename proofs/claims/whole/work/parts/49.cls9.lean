/-! ===== the class: traces, kinds, counts, tapes, feeding ===== -/
def TPR (μ : Me) (st ln it : Tn) : Prop := ∀ t, 0 ≤ t → t < 6 → μ (20, t, 0) 1 = st t ∧ μ (20, t, 0) 2 = ln t ∧ ∀ k, 0 ≤ k → k < 60 → μ (21, t, 0) k = it (60 * t + k)
def TPI (st ln it : Tn) : Prop := ∀ t, 0 ≤ t → t < 6 → (-1 ≤ st t ∧ st t ≤ 4) ∧ (0 ≤ ln t ∧ ln t ≤ 60) ∧ (st t = -1 → ln t = 0) ∧ ∀ k, 0 ≤ k → k < 60 → -9223372036854775808 ≤ it (60 * t + k) ∧ it (60 * t + k) < 9223372036854775808
def tapeO (o : Ob) : Prop := o.1 = 20 ∨ o.1 = 21
def tapeZ (t s n : Int) : Int := if 0 ≤ t ∧ t < 6 then (if s = -1 then 1 else if (0 ≤ s ∧ s < 5) ∧ n ≤ 60 then (if n < 0 then -14 else 1) else -2) else -1
def tapeS (st : Tn) (t s n : Int) : Tn := if tapeZ t s n = 1 then upT st t s else st
def tapeN (ln : Tn) (t s n : Int) : Tn := if tapeZ t s n = 1 then upT ln t (if s = -1 then 0 else n) else ln
def tapeI (it : Tn) (t s n : Int) : Tn := if tapeZ t s n = 1 then (fun k => if 60 * t ≤ k ∧ k < 60 * t + 60 then 0 else it k) else it
def itemZ (st ln : Tn) (t i : Int) : Int := if 0 ≤ t ∧ t < 6 then (if st t = -1 then -11 else if 0 ≤ i ∧ i < ln t then 1 else -13) else -1
def itemI (st ln it : Tn) (t i v : Int) : Tn := if itemZ st ln t i = 1 then upT it (60 * t + i) (cutS (st t) v) else it
def readZ (ln it : Tn) (t i : Int) : Int := if (0 ≤ t ∧ t < 6) ∧ 0 ≤ i ∧ i < ln t then it (60 * t + i) else -9223372036854775808
def shOk (st ln : Tn) (t i o j n : Int) : Prop := ((0 ≤ t ∧ t < 6) ∧ 0 ≤ o ∧ o < 6) ∧ (¬ (st t = -1 ∨ st o = -1) ∧ st t = st o) ∧ (0 ≤ i ∧ 0 ≤ n ∧ i + n ≤ ln t) ∧ 0 ≤ j ∧ 0 ≤ n ∧ j + n ≤ ln o
noncomputable def shiftZ (st ln : Tn) (t i o j n : Int) : Int := if (0 ≤ t ∧ t < 6) ∧ 0 ≤ o ∧ o < 6 then (if st t = -1 ∨ st o = -1 then -11 else if st t = st o then (if (0 ≤ i ∧ 0 ≤ n ∧ i + n ≤ ln t) ∧ 0 ≤ j ∧ 0 ≤ n ∧ j + n ≤ ln o then n else -13) else -12) else -1
noncomputable def shiftI (st ln it : Tn) (t i o j n : Int) : Tn := @ite Tn (shOk st ln t i o j n) (Classical.propDecidable _) (fun k => if 60 * o + j ≤ k ∧ k < 60 * o + j + n then it (60 * t + i + (k - (60 * o + j))) else it k) it
noncomputable def jdL (a b : Nat → Prop) : Nat → Nat → Int
  | 0, _ => -5
  | f + 1, p => @ite Int (a p) (Classical.propDecidable _) (@ite Int (b p) (Classical.propDecidable _) (jdL a b f (p + 1)) p) (100 + p)
theorem jdL_a {a b : Nat → Prop} {f p : Nat} (h : ¬ a p) : jdL a b (f + 1) p = 100 + p := by simp only [jdL]; rw [if_neg h]
theorem jdL_b {a b : Nat → Prop} {f p : Nat} (h : a p) (h2 : ¬ b p) : jdL a b (f + 1) p = p := by simp only [jdL]; rw [if_pos h, if_neg h2]
theorem jdL_n {a b : Nat → Prop} {f p : Nat} (h : a p) (h2 : b p) : jdL a b (f + 1) p = jdL a b f (p + 1) := by simp only [jdL]; rw [if_pos h, if_pos h2]
noncomputable def judgeL (ln it T : Tn) (t i : Int) : Nat → Nat → Int := jdL (fun p => 0 ≤ i ∧ i + (p : Int) < ln t) (fun p => it (60 * t + i + (p : Int)) = T (18 + 10 * (p : Int)))
noncomputable def judgeZ (st ln it T : Tn) (t i : Int) : Int := if 0 ≤ t ∧ t < 6 then (if st t = -1 ∨ st t = 1 then judgeL ln it T t i (T 76).toNat 0 else -12) else -1
def kA (x : Int) : Int := if x = 1 ∨ x = 2 ∨ x = 3 then 0 else if x = 4 then 1 else if x = 5 then 2 else if x = 6 then 3 else -1
def takenZ (T : Tn) (c k : Int) : Int := if 0 ≤ k ∧ k < 7 then (if 0 ≤ c ∧ c < T 76 then (if T (16 + 10 * c) = k ∨ kA (T (16 + 10 * c)) = k ∨ kA (kA (T (16 + 10 * c))) = k then T (16 + 10 * c) else -12) else -11) else -2
def countZ (T : Tn) (hc tl rn w : Int) : Int := if w = 0 then T 76 else if w = 1 then hc else if w = 2 then T 79 else if w = 3 then T 95 else if w = 4 then T 116 else if w = 5 then tl else if w = 6 then rn else -2
def traceZ (L : List Int) (i : Int) : Int := if 0 ≤ i ∧ i < min (L.length : Int) 20 then L.getD i.toNat 0 else -1
def feedZ (tl s : Int) : Int := if 0 ≤ s ∧ s < 128 then (if tl = 100 then -4 else tl + 1) else -2
def feedT (tx : Tn) (tl s : Int) : Tn := if (0 ≤ s ∧ s < 128) ∧ tl < 100 then upT tx tl s else tx
def feedN (tl s : Int) : Int := if (0 ≤ s ∧ s < 128) ∧ tl < 100 then tl + 1 else tl
theorem b8_id {z : Int} (h : -128 ≤ z ∧ z < 128) : b8 z = z := by
  unfold b8
  rw [Int8.toInt_toInt32, Int32.toInt_toInt8, I_toInt (by omega)]
  exact Int.bmod_eq_of_le (by omega) (by omega)
theorem kA_rg (x : Int) : -1 ≤ kA x ∧ kA x ≤ 3 := by unfold kA; (repeat' split) <;> omega
section CLS9
variable {ad : Ob → Nat} {μ : Me} {nh : Int} {T st ln it : Tn} {L : List Int}
theorem TPR_fr {μ' : Me} (h : TPR μ st ln it) (e : ∀ o, tapeO o → μ' o = μ o) : TPR μ' st ln it := fun t a b => by
  rw [e (20, t, 0) (Or.inl rfl), e (21, t, 0) (Or.inr rfl)]
  exact h t a b
set_option maxRecDepth 20000 in
theorem c_X7_trace (i : Int) (hi : -2147483648 ≤ i ∧ i < 2147483648) (hL : BT μ L) (hl : L.length ≤ 20) (l : Launch) (E : Ev) (A : Nat → Prop) : Con l E 2 m_X7_trace A (VC nh) ad μ [.ref (ad (0, 0, 0)), .int (I i)] (pi fun z μ' => z = traceZ L i ∧ μ = μ') := by
  have h1 := hL.1
  refine con (own := RX7) (by decide +kernel) rfl rfl rfl (fun Γ F => ?_)
  refine x_iload_n (i := 1) (pc := 0) F dX7_trace_0 rfl rfl ?_
  refine x_aload_n (i := 0) (pc := 1) F dX7_trace_1 rfl rfl ?_
  refine gf_X7_304 (pc := 2) F dX7_trace_2 (v_0 (by omega)) ?_
  refine x_bipush (pc := 5) F dX7_trace_5 (by decide) ?_
  refine tq_min (pc := 7) F dX7_trace_7 kw_774 rfl rfl rfl rfl (by omega) ?_
  refine x_S2z (pc := 10) F dX7_trace_10 lk_X7_83 rfl (c_isInW _ _ _ (by omega)) rfl rfl rfl ?_
  rintro _ _ ⟨rfl, rfl⟩
  refine x_if_neB (tgt := 18) (pc := 13) F dX7_trace_13 rfl (fun h13 => ?_) (fun h13 => ?_)
  · try simp only [decide_eq_true_eq, decide_eq_false_iff_not, Bool.and_eq_true, Bool.or_eq_true, Bool.not_eq_true', Bool.not_eq_false', Bool.and_eq_false_iff, Bool.or_eq_false_iff] at h13
    refine x_aload_n (i := 0) (pc := 18) F dX7_trace_18 rfl rfl ?_
    refine gf_X7_24 (pc := 19) F dX7_trace_19 (v_0 (by omega)) ?_
    refine x_iload_n (i := 1) (pc := 22) F dX7_trace_22 rfl rfl ?_
    refine tq_ia (pc := 23) F dX7_trace_23 (v_18 (by omega)) rfl (fun _ => rfl) (by omega) ?_
    have h2 := hL.2 i.toNat (by omega)
    rw [toNat_c (by omega)] at h2
    refine tq_reti (pc := 24) F dX7_trace_24 ?_ rfl rfl rfl
    exact ⟨by unfold traceZ; rw [if_pos (by omega)]; exact h2, rfl⟩
  · try simp only [decide_eq_true_eq, decide_eq_false_iff_not, Bool.and_eq_true, Bool.or_eq_true, Bool.not_eq_true', Bool.not_eq_false', Bool.and_eq_false_iff, Bool.or_eq_false_iff] at h13
    refine x_iconst (pc := 16) F dX7_trace_16 ?_
    refine tq_reti (pc := 17) F dX7_trace_17 ?_ rfl rfl rfl
    exact ⟨by unfold traceZ; rw [if_neg (by omega)], rfl⟩
set_option maxRecDepth 20000 in
theorem c_X7_kindAbove (V : Ob → Prop) (x : Int) (hx : -1 ≤ x ∧ x ≤ 6) (l : Launch) (E : Ev) (A : Nat → Prop) : Con l E 1 m_X7_kindAbove A V ad μ [.int (I x)] (pi fun z μ' => z = kA x ∧ μ = μ') := by
  refine con (own := RX7) (by decide +kernel) rfl rfl rfl (fun Γ F => ?_)
  refine x_iload_n (i := 0) (pc := 0) F dX7_kindAbove_0 rfl rfl ?_
  refine x_tab (ts := [40, 40, 40, 42, 44, 46]) (dt := 48) (pc := 1) F dX7_kindAbove_1 rfl rfl (by omega) ⟨fun h1 => ?_, fun h1 => ?_, fun h1 => ?_, fun h1 => ?_, fun h1 => ?_, fun h1 => ?_, trivial⟩ (fun h1 => ?_)
  · refine x_iconst (pc := 40) F dX7_kindAbove_40 ?_
    refine tq_reti (pc := 41) F dX7_kindAbove_41 ?_ rfl rfl rfl
    exact ⟨by unfold kA; (repeat' split) <;> omega, rfl⟩
  · refine x_iconst (pc := 40) F dX7_kindAbove_40 ?_
    refine tq_reti (pc := 41) F dX7_kindAbove_41 ?_ rfl rfl rfl
    exact ⟨by unfold kA; (repeat' split) <;> omega, rfl⟩
  · refine x_iconst (pc := 40) F dX7_kindAbove_40 ?_
    refine tq_reti (pc := 41) F dX7_kindAbove_41 ?_ rfl rfl rfl
    exact ⟨by unfold kA; (repeat' split) <;> omega, rfl⟩
  · refine x_iconst (pc := 42) F dX7_kindAbove_42 ?_
    refine tq_reti (pc := 43) F dX7_kindAbove_43 ?_ rfl rfl rfl
    exact ⟨by unfold kA; (repeat' split) <;> omega, rfl⟩
  · refine x_iconst (pc := 44) F dX7_kindAbove_44 ?_
    refine tq_reti (pc := 45) F dX7_kindAbove_45 ?_ rfl rfl rfl
    exact ⟨by unfold kA; (repeat' split) <;> omega, rfl⟩
  · refine x_iconst (pc := 46) F dX7_kindAbove_46 ?_
    refine tq_reti (pc := 47) F dX7_kindAbove_47 ?_ rfl rfl rfl
    exact ⟨by unfold kA; (repeat' split) <;> omega, rfl⟩
  · refine x_iconst (pc := 48) F dX7_kindAbove_48 ?_
    refine tq_reti (pc := 49) F dX7_kindAbove_49 ?_ rfl rfl rfl
    exact ⟨by unfold kA; (repeat' split) <;> omega, rfl⟩
set_option maxRecDepth 20000 in
theorem c_X7_taken (c k : Int) (hc : -2147483648 ≤ c ∧ c < 2147483648) (hk : -2147483648 ≤ k ∧ k < 2147483648) (hR0 : TR μ 0 T) (hI : TI T) (l : Launch) (E : Ev) (A : Nat → Prop) : Con l E 2 m_X7_taken A (VC nh) ad μ [.ref (ad (0, 0, 0)), .int (I c), .int (I k)] (pi fun z μ' => z = takenZ T c k ∧ μ = μ') := by
  have h76 := hI.2.2.1
  have hq1 := kA_rg (T (16 + 10 * c))
  have hq2 := kA_rg (kA (T (16 + 10 * c)))
  refine con (own := RX7) (by decide +kernel) rfl rfl rfl (fun Γ F => ?_)
  refine x_iload_n (i := 2) (pc := 0) F dX7_taken_0 rfl rfl ?_
  refine x_bipush (pc := 1) F dX7_taken_1 (by decide) ?_
  refine x_S2z (pc := 3) F dX7_taken_3 lk_X7_83 rfl (c_isInW _ _ _ (by omega)) rfl rfl rfl ?_
  rintro _ _ ⟨rfl, rfl⟩
  refine x_if_neB (tgt := 12) (pc := 6) F dX7_taken_6 rfl (fun h6 => ?_) (fun h6 => ?_)
  · try simp only [decide_eq_true_eq, decide_eq_false_iff_not, Bool.and_eq_true, Bool.or_eq_true, Bool.not_eq_true', Bool.not_eq_false', Bool.and_eq_false_iff, Bool.or_eq_false_iff] at h6
    refine x_aload_n (i := 0) (pc := 12) F dX7_taken_12 rfl rfl ?_
    refine x_iload_n (i := 1) (pc := 13) F dX7_taken_13 rfl rfl ?_
    refine x_V1z (ci := 7) (pc := 14) F dX7_taken_14 lk_X7_102 rfl (v_0 (by omega)) rfl rfl (c_X7_isComer _ (by omega) hR0 hI) rfl rfl rfl ?_
    rintro _ _ ⟨rfl, rfl⟩
    refine x_if_neB (tgt := 23) (pc := 17) F dX7_taken_17 rfl (fun h17 => ?_) (fun h17 => ?_)
    · try simp only [decide_eq_true_eq, decide_eq_false_iff_not, Bool.and_eq_true, Bool.or_eq_true, Bool.not_eq_true', Bool.not_eq_false', Bool.and_eq_false_iff, Bool.or_eq_false_iff] at h17
      refine x_aload_n (i := 0) (pc := 23) F dX7_taken_23 rfl rfl ?_
      refine gf_X7_62 (pc := 24) F dX7_taken_24 (v_0 (by omega)) ?_
      refine gf_X7_94 (pc := 27) F dX7_taken_27 (v_1 (by omega)) ?_
      refine x_iload_n (i := 1) (pc := 30) F dX7_taken_30 rfl rfl ?_
      refine tq_pa (pc := 31) F dX7_taken_31 (v_11 (by omega)) (by omega) ?_
      refine gf_X7_114 (pc := 32) F dX7_taken_32 (v_4 (by omega)) ?_
      have hkd := (hI.2.1 c (by omega) (by omega)).1
      rw [(hR0.2.1 c (by omega) (by omega)).2.1]
      refine x_istore_n (i := 3) (pc := 35) F dX7_taken_35 rfl rfl ?_
      refine x_iload_n (i := 3) (pc := 36) F dX7_taken_36 rfl rfl ?_
      refine x_S1i (pc := 37) F dX7_taken_37 lk_X7_324 rfl (c_X7_kindAbove _ _ (by omega)) rfl rfl rfl ?_
      rintro _ _ ⟨rfl, rfl⟩
      refine x_istore (i := 4) (pc := 40) F dX7_taken_40 rfl ?_
      refine x_iload_n (i := 3) (pc := 42) F dX7_taken_42 rfl rfl ?_
      refine x_iload_n (i := 2) (pc := 43) F dX7_taken_43 rfl rfl ?_
      refine x_icmp_eq (tgt := 62) (pc := 44) F dX7_taken_44 rfl (by omega) (fun h44 => ?_) (fun h44 => ?_)
      · refine x_iconst (pc := 62) F dX7_taken_62 ?_
        refine x_goto (tgt := 67) (pc := 63) F dX7_taken_63 rfl ?_
        refine x_istore (i := 5) (pc := 67) F dX7_taken_67 rfl ?_
        refine x_iload (i := 5) (pc := 69) F dX7_taken_69 rfl ?_
        refine x_if_eq (tgt := 78) (pc := 71) F dX7_taken_71 rfl (by omega) (fun h71 => ?_) (fun h71 => ?_)
        · refine x_bipush (pc := 78) F dX7_taken_78 (by decide) ?_
          refine tq_reti (pc := 80) F dX7_taken_80 ?_ rfl rfl rfl
          refine ⟨?_, rfl⟩
          unfold takenZ
          rw [if_pos (by omega), if_pos (by omega)]
          first | (exfalso; omega) | (rw [if_pos (by omega)]; done) | (rw [if_neg (by omega)]; done)
        · refine x_iload_n (i := 3) (pc := 74) F dX7_taken_74 rfl rfl ?_
          refine x_goto (tgt := 80) (pc := 75) F dX7_taken_75 rfl ?_
          refine tq_reti (pc := 80) F dX7_taken_80 ?_ rfl rfl rfl
          refine ⟨?_, rfl⟩
          unfold takenZ
          rw [if_pos (by omega), if_pos (by omega)]
          first | (exfalso; omega) | (rw [if_pos (by omega)]; done) | (rw [if_neg (by omega)]; done)
      · refine x_iload (i := 4) (pc := 47) F dX7_taken_47 rfl ?_
        refine x_iload_n (i := 2) (pc := 49) F dX7_taken_49 rfl rfl ?_
        refine x_icmp_eq (tgt := 62) (pc := 50) F dX7_taken_50 rfl (by omega) (fun h50 => ?_) (fun h50 => ?_)
        · refine x_iconst (pc := 62) F dX7_taken_62 ?_
          refine x_goto (tgt := 67) (pc := 63) F dX7_taken_63 rfl ?_
          refine x_istore (i := 5) (pc := 67) F dX7_taken_67 rfl ?_
          refine x_iload (i := 5) (pc := 69) F dX7_taken_69 rfl ?_
          refine x_if_eq (tgt := 78) (pc := 71) F dX7_taken_71 rfl (by omega) (fun h71 => ?_) (fun h71 => ?_)
          · refine x_bipush (pc := 78) F dX7_taken_78 (by decide) ?_
            refine tq_reti (pc := 80) F dX7_taken_80 ?_ rfl rfl rfl
            refine ⟨?_, rfl⟩
            unfold takenZ
            rw [if_pos (by omega), if_pos (by omega)]
            first | (exfalso; omega) | (rw [if_pos (by omega)]; done) | (rw [if_neg (by omega)]; done)
          · refine x_iload_n (i := 3) (pc := 74) F dX7_taken_74 rfl rfl ?_
            refine x_goto (tgt := 80) (pc := 75) F dX7_taken_75 rfl ?_
            refine tq_reti (pc := 80) F dX7_taken_80 ?_ rfl rfl rfl
            refine ⟨?_, rfl⟩
            unfold takenZ
            rw [if_pos (by omega), if_pos (by omega)]
            first | (exfalso; omega) | (rw [if_pos (by omega)]; done) | (rw [if_neg (by omega)]; done)
        · refine x_iload (i := 4) (pc := 53) F dX7_taken_53 rfl ?_
          refine x_S1i (pc := 55) F dX7_taken_55 lk_X7_324 rfl (c_X7_kindAbove _ _ (by omega)) rfl rfl rfl ?_
          rintro _ _ ⟨rfl, rfl⟩
          refine x_iload_n (i := 2) (pc := 58) F dX7_taken_58 rfl rfl ?_
          refine x_icmp_ne (tgt := 66) (pc := 59) F dX7_taken_59 rfl (by omega) (fun h59 => ?_) (fun h59 => ?_)
          · refine x_iconst (pc := 66) F dX7_taken_66 ?_
            refine x_istore (i := 5) (pc := 67) F dX7_taken_67 rfl ?_
            refine x_iload (i := 5) (pc := 69) F dX7_taken_69 rfl ?_
            refine x_if_eq (tgt := 78) (pc := 71) F dX7_taken_71 rfl (by omega) (fun h71 => ?_) (fun h71 => ?_)
            · refine x_bipush (pc := 78) F dX7_taken_78 (by decide) ?_
              refine tq_reti (pc := 80) F dX7_taken_80 ?_ rfl rfl rfl
              refine ⟨?_, rfl⟩
              unfold takenZ
              rw [if_pos (by omega), if_pos (by omega)]
              first | (exfalso; omega) | (rw [if_pos (by omega)]; done) | (rw [if_neg (by omega)]; done)
            · refine x_iload_n (i := 3) (pc := 74) F dX7_taken_74 rfl rfl ?_
              refine x_goto (tgt := 80) (pc := 75) F dX7_taken_75 rfl ?_
              refine tq_reti (pc := 80) F dX7_taken_80 ?_ rfl rfl rfl
              refine ⟨?_, rfl⟩
              unfold takenZ
              rw [if_pos (by omega), if_pos (by omega)]
              first | (exfalso; omega) | (rw [if_pos (by omega)]; done) | (rw [if_neg (by omega)]; done)
          · refine x_iconst (pc := 62) F dX7_taken_62 ?_
            refine x_goto (tgt := 67) (pc := 63) F dX7_taken_63 rfl ?_
            refine x_istore (i := 5) (pc := 67) F dX7_taken_67 rfl ?_
            refine x_iload (i := 5) (pc := 69) F dX7_taken_69 rfl ?_
            refine x_if_eq (tgt := 78) (pc := 71) F dX7_taken_71 rfl (by omega) (fun h71 => ?_) (fun h71 => ?_)
            · refine x_bipush (pc := 78) F dX7_taken_78 (by decide) ?_
              refine tq_reti (pc := 80) F dX7_taken_80 ?_ rfl rfl rfl
              refine ⟨?_, rfl⟩
              unfold takenZ
              rw [if_pos (by omega), if_pos (by omega)]
              first | (exfalso; omega) | (rw [if_pos (by omega)]; done) | (rw [if_neg (by omega)]; done)
            · refine x_iload_n (i := 3) (pc := 74) F dX7_taken_74 rfl rfl ?_
              refine x_goto (tgt := 80) (pc := 75) F dX7_taken_75 rfl ?_
              refine tq_reti (pc := 80) F dX7_taken_80 ?_ rfl rfl rfl
              refine ⟨?_, rfl⟩
              unfold takenZ
              rw [if_pos (by omega), if_pos (by omega)]
              first | (exfalso; omega) | (rw [if_pos (by omega)]; done) | (rw [if_neg (by omega)]; done)
    · try simp only [decide_eq_true_eq, decide_eq_false_iff_not, Bool.and_eq_true, Bool.or_eq_true, Bool.not_eq_true', Bool.not_eq_false', Bool.and_eq_false_iff, Bool.or_eq_false_iff] at h17
      refine x_bipush (pc := 20) F dX7_taken_20 (by decide) ?_
      refine tq_reti (pc := 22) F dX7_taken_22 ?_ rfl rfl rfl
      exact ⟨by unfold takenZ; rw [if_pos (by omega), if_neg (by omega)], rfl⟩
  · try simp only [decide_eq_true_eq, decide_eq_false_iff_not, Bool.and_eq_true, Bool.or_eq_true, Bool.not_eq_true', Bool.not_eq_false', Bool.and_eq_false_iff, Bool.or_eq_false_iff] at h6
    refine x_bipush (pc := 9) F dX7_taken_9 (by decide) ?_
    refine tq_reti (pc := 11) F dX7_taken_11 ?_ rfl rfl rfl
    exact ⟨by unfold takenZ; rw [if_neg (by omega)], rfl⟩
set_option maxRecDepth 20000 in
theorem c_X7_count (w : Int) (hw : -2147483648 ≤ w ∧ w < 2147483648) (hR0 : TR μ 0 T) (l : Launch) (E : Ev) (A : Nat → Prop) : Con l E 1 m_X7_count A (VC nh) ad μ [.ref (ad (0, 0, 0)), .int (I w)] (pi fun z μ' => z = countZ T (μ (0, 0, 0) 6) (μ (15, 0, 0) 1) (μ (0, 0, 0) 8) w ∧ μ = μ') := by
  have s1 := hR0.2.2.1.1
  have s2 := hR0.2.2.2.1.1
  have s3 := hR0.2.2.2.2.1.1
  have s4 := hR0.2.2.2.2.2.1
  refine con (own := RX7) (by decide +kernel) rfl rfl rfl (fun Γ F => ?_)
  refine x_iload_n (i := 1) (pc := 0) F dX7_count_0 rfl rfl ?_
  refine x_tab (ts := [44, 52, 57, 68, 79, 90, 98]) (dt := 103) (pc := 1) F dX7_count_1 rfl rfl (by omega) ⟨fun h1 => ?_, fun h1 => ?_, fun h1 => ?_, fun h1 => ?_, fun h1 => ?_, fun h1 => ?_, fun h1 => ?_, trivial⟩ (fun h1 => ?_)
  · refine x_aload_n (i := 0) (pc := 44) F dX7_count_44 rfl rfl ?_
    refine gf_X7_62 (pc := 45) F dX7_count_45 (v_0 (by omega)) ?_
    refine gf_X7_79 (pc := 48) F dX7_count_48 (v_1 (by omega)) ?_
    refine tq_reti (pc := 51) F dX7_count_51 ?_ rfl rfl rfl
    refine ⟨?_, rfl⟩
    unfold countZ
    (repeat' split) <;> first | omega | rfl | assumption
  · refine x_aload_n (i := 0) (pc := 52) F dX7_count_52 rfl rfl ?_
    refine gf_X7_169 (pc := 53) F dX7_count_53 (v_0 (by omega)) ?_
    refine tq_reti (pc := 56) F dX7_count_56 ?_ rfl rfl rfl
    refine ⟨?_, rfl⟩
    unfold countZ
    (repeat' split) <;> first | omega | rfl | assumption
  · refine x_aload_n (i := 0) (pc := 57) F dX7_count_57 rfl rfl ?_
    refine gf_X7_62 (pc := 58) F dX7_count_58 (v_0 (by omega)) ?_
    refine gf_X7_232 (pc := 61) F dX7_count_61 (v_1 (by omega)) ?_
    refine gf_X7_244 (pc := 64) F dX7_count_64 (v_6 (by omega)) ?_
    refine tq_reti (pc := 67) F dX7_count_67 ?_ rfl rfl rfl
    refine ⟨?_, rfl⟩
    unfold countZ
    (repeat' split) <;> first | omega | rfl | assumption
  · refine x_aload_n (i := 0) (pc := 68) F dX7_count_68 rfl rfl ?_
    refine gf_X7_62 (pc := 69) F dX7_count_69 (v_0 (by omega)) ?_
    refine gf_X7_278 (pc := 72) F dX7_count_72 (v_1 (by omega)) ?_
    refine gf_X7_244 (pc := 75) F dX7_count_75 (v_6 (by omega)) ?_
    refine tq_reti (pc := 78) F dX7_count_78 ?_ rfl rfl rfl
    refine ⟨?_, rfl⟩
    unfold countZ
    (repeat' split) <;> first | omega | rfl | assumption
  · refine x_aload_n (i := 0) (pc := 79) F dX7_count_79 rfl rfl ?_
    refine gf_X7_62 (pc := 80) F dX7_count_80 (v_0 (by omega)) ?_
    refine gf_X7_287 (pc := 83) F dX7_count_83 (v_1 (by omega)) ?_
    refine gf_X7_244 (pc := 86) F dX7_count_86 (v_6 (by omega)) ?_
    refine tq_reti (pc := 89) F dX7_count_89 ?_ rfl rfl rfl
    refine ⟨?_, rfl⟩
    unfold countZ
    (repeat' split) <;> first | omega | rfl | assumption
  · refine x_aload_n (i := 0) (pc := 90) F dX7_count_90 rfl rfl ?_
    refine gf_X7_12 (pc := 91) F dX7_count_91 (v_0 (by omega)) ?_
    refine gf_X7_162 (pc := 94) F dX7_count_94 (v_15 (by omega)) ?_
    refine tq_reti (pc := 97) F dX7_count_97 ?_ rfl rfl rfl
    refine ⟨?_, rfl⟩
    unfold countZ
    (repeat' split) <;> first | omega | rfl | assumption
  · refine x_aload_n (i := 0) (pc := 98) F dX7_count_98 rfl rfl ?_
    refine gf_X7_304 (pc := 99) F dX7_count_99 (v_0 (by omega)) ?_
    refine tq_reti (pc := 102) F dX7_count_102 ?_ rfl rfl rfl
    refine ⟨?_, rfl⟩
    unfold countZ
    (repeat' split) <;> first | omega | rfl | assumption
  · refine x_bipush (pc := 103) F dX7_count_103 (by decide) ?_
    refine tq_reti (pc := 105) F dX7_count_105 ?_ rfl rfl rfl
    refine ⟨?_, rfl⟩
    unfold countZ
    (repeat' split) <;> first | omega | rfl | assumption
theorem TPR_new {μ' : Me} {t a b : Int} (h : TPR μ st ln it) (ht : 0 ≤ t ∧ t < 6) (e1 : μ' (20, t, 0) 1 = a) (e2 : μ' (20, t, 0) 2 = b) (e3 : ∀ k, 0 ≤ k → k < 60 → μ' (21, t, 0) k = 0) (e4 : ∀ o, o ≠ (20, t, 0) → o ≠ (21, t, 0) → μ' o = μ o) : TPR μ' (upT st t a) (upT ln t b) (fun k => if 60 * t ≤ k ∧ k < 60 * t + 60 then 0 else it k) := fun t' x y => by
  by_cases q : t' = t
  · subst q
    refine ⟨by rw [upT_eq]; exact e1, by rw [upT_eq]; exact e2, fun k u v => ?_⟩
    rw [e3 k u v]; dsimp only; rw [if_pos (by omega)]
  · obtain ⟨h1, h2, h3⟩ := h t' x y
    rw [upT_ne q, upT_ne q, e4 (20, t', 0) (by simp [q]) (by simp), e4 (21, t', 0) (by simp) (by simp [q])]
    refine ⟨h1, h2, fun k u v => ?_⟩
    rw [h3 k u v]; dsimp only; rw [if_neg (by omega)]
set_option maxRecDepth 20000 in
theorem c_X7_tape (t s n : Int) (ht : -2147483648 ≤ t ∧ t < 2147483648) (hs : -2147483648 ≤ s ∧ s < 2147483648) (hn : -2147483648 ≤ n ∧ n < 2147483648) (hP : TPR μ st ln it) (l : Launch) (E : Ev) (A : Nat → Prop) : Con l E 3 m_X7_tape A (VC nh) ad μ [.ref (ad (0, 0, 0)), .int (I t), .int (I s), .int (I n)] (pi fun z μ' => z = tapeZ t s n ∧ TPR μ' (tapeS st t s n) (tapeN ln t s n) (tapeI it t s n) ∧ ∀ o, ¬ tapeO o → μ' o = μ o) := by
  refine con (own := RX7) (by decide +kernel) rfl rfl rfl (fun Γ F => ?_)
  refine x_iload_n (i := 1) (pc := 0) F dX7_tape_0 rfl rfl ?_
  refine x_bipush (pc := 1) F dX7_tape_1 (by decide) ?_
  refine x_S2z (pc := 3) F dX7_tape_3 lk_X7_83 rfl (c_isInW _ _ _ (by omega)) rfl rfl rfl ?_
  rintro _ _ ⟨rfl, rfl⟩
  refine x_if_neB (tgt := 11) (pc := 6) F dX7_tape_6 rfl (fun h6 => ?_) (fun h6 => ?_)
  · try simp only [decide_eq_true_eq, decide_eq_false_iff_not, Bool.and_eq_true, Bool.or_eq_true, Bool.not_eq_true', Bool.not_eq_false', Bool.and_eq_false_iff, Bool.or_eq_false_iff] at h6
    refine x_iload_n (i := 2) (pc := 11) F dX7_tape_11 rfl rfl ?_
    refine x_iconst (pc := 12) F dX7_tape_12 ?_
    refine x_icmp_ne (tgt := 29) (pc := 13) F dX7_tape_13 rfl (by omega) (fun h13 => ?_) (fun h13 => ?_)
    · refine x_iload_n (i := 2) (pc := 29) F dX7_tape_29 rfl rfl ?_
      refine x_iconst (pc := 30) F dX7_tape_30 ?_
      refine x_S2z (pc := 31) F dX7_tape_31 lk_X7_83 rfl (c_isInW _ _ _ (by omega)) rfl rfl rfl ?_
      rintro _ _ ⟨rfl, rfl⟩
      refine x_if_eqB (tgt := 43) (pc := 34) F dX7_tape_34 rfl (fun h34 => ?_) (fun h34 => ?_)
      · try simp only [decide_eq_true_eq, decide_eq_false_iff_not, Bool.and_eq_true, Bool.or_eq_true, Bool.not_eq_true', Bool.not_eq_false', Bool.and_eq_false_iff, Bool.or_eq_false_iff] at h34
        refine x_bipush (pc := 43) F dX7_tape_43 (by decide) ?_
        refine tq_reti (pc := 45) F dX7_tape_45 ?_ rfl rfl rfl
        have e : tapeZ t s n = -2 := by unfold tapeZ; rw [if_pos (by omega), if_neg (by omega), if_neg (by omega)]
        exact ⟨e.symm, by unfold tapeS tapeN tapeI; rw [if_neg (by omega), if_neg (by omega), if_neg (by omega)]; exact hP, fun o _ => rfl⟩
      · try simp only [decide_eq_true_eq, decide_eq_false_iff_not, Bool.and_eq_true, Bool.or_eq_true, Bool.not_eq_true', Bool.not_eq_false', Bool.and_eq_false_iff, Bool.or_eq_false_iff] at h34
        refine x_iload_n (i := 3) (pc := 37) F dX7_tape_37 rfl rfl ?_
        refine x_bipush (pc := 38) F dX7_tape_38 (by decide) ?_
        refine x_icmp_le (tgt := 46) (pc := 40) F dX7_tape_40 rfl (by omega) (fun h40 => ?_) (fun h40 => ?_)
        · refine x_iload_n (i := 3) (pc := 46) F dX7_tape_46 rfl rfl ?_
          refine x_if_ge (tgt := 53) (pc := 47) F dX7_tape_47 rfl (by omega) (fun h47 => ?_) (fun h47 => ?_)
          · refine x_aload_n (i := 0) (pc := 53) F dX7_tape_53 rfl rfl ?_
            refine gf_X7_30 (pc := 54) F dX7_tape_54 (v_0 (by omega)) ?_
            refine x_iload_n (i := 1) (pc := 57) F dX7_tape_57 rfl rfl ?_
            refine tq_ta (pc := 58) F dX7_tape_58 (v_19 (by omega)) (by omega) ?_
            refine x_iload_n (i := 2) (pc := 59) F dX7_tape_59 rfl rfl ?_
            refine x_iload_n (i := 3) (pc := 60) F dX7_tape_60 rfl rfl ?_
            refine x_V2v (ci := 5) (pc := 61) F dX7_tape_61 lk_X7_327 rfl (v_20 (by omega)) rfl rfl (c_X5_become s n (by omega)) rfl rfl rfl ?_
            rintro μ1 ⟨b1, b2, b3, b4⟩
            refine x_iconst (pc := 64) F dX7_tape_64 ?_
            refine tq_reti (pc := 65) F dX7_tape_65 ?_ rfl rfl rfl
            have e : tapeZ t s n = 1 := by unfold tapeZ; rw [if_pos (by omega), if_neg (by omega), if_pos (by omega), if_neg (by omega)]
            refine ⟨e.symm, ?_, fun o ho => b4 o (by rintro rfl; exact ho (Or.inl rfl)) (by rintro rfl; exact ho (Or.inr rfl))⟩
            unfold tapeS tapeN tapeI
            rw [if_pos e, if_pos e, if_pos e, if_neg (by omega)]
            exact TPR_new hP (by omega) b1 b2 b3 b4
          · refine x_bipush (pc := 50) F dX7_tape_50 (by decide) ?_
            refine tq_reti (pc := 52) F dX7_tape_52 ?_ rfl rfl rfl
            have e : tapeZ t s n = -14 := by unfold tapeZ; rw [if_pos (by omega), if_neg (by omega), if_pos (by omega), if_pos (by omega)]
            exact ⟨e.symm, by unfold tapeS tapeN tapeI; rw [if_neg (by omega), if_neg (by omega), if_neg (by omega)]; exact hP, fun o _ => rfl⟩
        · refine x_bipush (pc := 43) F dX7_tape_43 (by decide) ?_
          refine tq_reti (pc := 45) F dX7_tape_45 ?_ rfl rfl rfl
          have e : tapeZ t s n = -2 := by unfold tapeZ; rw [if_pos (by omega), if_neg (by omega), if_neg (by omega)]
          exact ⟨e.symm, by unfold tapeS tapeN tapeI; rw [if_neg (by omega), if_neg (by omega), if_neg (by omega)]; exact hP, fun o _ => rfl⟩
    · refine x_aload_n (i := 0) (pc := 16) F dX7_tape_16 rfl rfl ?_
      refine gf_X7_30 (pc := 17) F dX7_tape_17 (v_0 (by omega)) ?_
      refine x_iload_n (i := 1) (pc := 20) F dX7_tape_20 rfl rfl ?_
      refine tq_ta (pc := 21) F dX7_tape_21 (v_19 (by omega)) (by omega) ?_
      refine x_iconst (pc := 22) F dX7_tape_22 ?_
      refine x_iconst (pc := 23) F dX7_tape_23 ?_
      refine x_V2v (ci := 5) (pc := 24) F dX7_tape_24 lk_X7_327 rfl (v_20 (by omega)) rfl rfl (c_X5_become (-1) 0 (by omega)) rfl rfl rfl ?_
      rintro μ1 ⟨b1, b2, b3, b4⟩
      refine x_iconst (pc := 27) F dX7_tape_27 ?_
      refine tq_reti (pc := 28) F dX7_tape_28 ?_ rfl rfl rfl
      have e : tapeZ t s n = 1 := by unfold tapeZ; rw [if_pos (by omega), if_pos (by omega)]
      refine ⟨e.symm, ?_, fun o ho => b4 o (by rintro rfl; exact ho (Or.inl rfl)) (by rintro rfl; exact ho (Or.inr rfl))⟩
      unfold tapeS tapeN tapeI
      rw [if_pos e, if_pos e, if_pos e, if_pos (by omega)]
      exact TPR_new hP (by omega) (by omega) b2 b3 b4
  · try simp only [decide_eq_true_eq, decide_eq_false_iff_not, Bool.and_eq_true, Bool.or_eq_true, Bool.not_eq_true', Bool.not_eq_false', Bool.and_eq_false_iff, Bool.or_eq_false_iff] at h6
    refine x_iconst (pc := 9) F dX7_tape_9 ?_
    refine tq_reti (pc := 10) F dX7_tape_10 ?_ rfl rfl rfl
    have e : tapeZ t s n = -1 := by unfold tapeZ; rw [if_neg (by omega)]
    exact ⟨e.symm, by unfold tapeS tapeN tapeI; rw [if_neg (by omega), if_neg (by omega), if_neg (by omega)]; exact hP, fun o _ => rfl⟩
set_option maxRecDepth 20000 in
theorem c_X7_item (t i v : Int) (ht : -2147483648 ≤ t ∧ t < 2147483648) (hi : -2147483648 ≤ i ∧ i < 2147483648) (hP : TPR μ st ln it) (hQ : TPI st ln it) (l : Launch) (E : Ev) (A : Nat → Prop) : Con l E 3 m_X7_item A (VC nh) ad μ [.ref (ad (0, 0, 0)), .int (I t), .int (I i), .long (J v)] (pi fun z μ' => z = itemZ st ln t i ∧ TPR μ' st ln (itemI st ln it t i v) ∧ ∀ o, ¬ tapeO o → μ' o = μ o) := by
  refine con (own := RX7) (by decide +kernel) rfl rfl rfl (fun Γ F => ?_)
  refine x_iload_n (i := 1) (pc := 0) F dX7_item_0 rfl rfl ?_
  refine x_bipush (pc := 1) F dX7_item_1 (by decide) ?_
  refine x_S2z (pc := 3) F dX7_item_3 lk_X7_83 rfl (c_isInW _ _ _ (by omega)) rfl rfl rfl ?_
  rintro _ _ ⟨rfl, rfl⟩
  refine x_if_neB (tgt := 11) (pc := 6) F dX7_item_6 rfl (fun h6 => ?_) (fun h6 => ?_)
  · try simp only [decide_eq_true_eq, decide_eq_false_iff_not, Bool.and_eq_true, Bool.or_eq_true, Bool.not_eq_true', Bool.not_eq_false', Bool.and_eq_false_iff, Bool.or_eq_false_iff] at h6
    obtain ⟨p1, p2, p3⟩ := hP t (by omega) (by omega)
    obtain ⟨q1, q2, q3, q4⟩ := hQ t (by omega) (by omega)
    refine x_aload_n (i := 0) (pc := 11) F dX7_item_11 rfl rfl ?_
    refine gf_X7_30 (pc := 12) F dX7_item_12 (v_0 (by omega)) ?_
    refine x_iload_n (i := 1) (pc := 15) F dX7_item_15 rfl rfl ?_
    refine tq_ta (pc := 16) F dX7_item_16 (v_19 (by omega)) (by omega) ?_
    refine gf_X7_290 (pc := 17) F dX7_item_17 (v_20 (by omega)) ?_
    refine x_iconst (pc := 20) F dX7_item_20 ?_
    refine x_icmp_ne (tgt := 27) (pc := 21) F dX7_item_21 rfl (by omega) (fun h21 => ?_) (fun h21 => ?_)
    · refine x_aload_n (i := 0) (pc := 27) F dX7_item_27 rfl rfl ?_
      refine gf_X7_30 (pc := 28) F dX7_item_28 (v_0 (by omega)) ?_
      refine x_iload_n (i := 1) (pc := 31) F dX7_item_31 rfl rfl ?_
      refine tq_ta (pc := 32) F dX7_item_32 (v_19 (by omega)) (by omega) ?_
      refine x_iload_n (i := 2) (pc := 33) F dX7_item_33 rfl rfl ?_
      refine x_V1z (ci := 5) (pc := 34) F dX7_item_34 lk_X7_293 rfl (v_20 (by omega)) rfl rfl (c_X5_hasPlace _ (by omega) (by omega) (by omega)) rfl rfl rfl ?_
      rintro _ _ ⟨rfl, rfl⟩
      refine x_if_neB (tgt := 43) (pc := 37) F dX7_item_37 rfl (fun h37 => ?_) (fun h37 => ?_)
      · try simp only [decide_eq_true_eq, decide_eq_false_iff_not, Bool.and_eq_true, Bool.or_eq_true, Bool.not_eq_true', Bool.not_eq_false', Bool.and_eq_false_iff, Bool.or_eq_false_iff] at h37
        refine x_aload_n (i := 0) (pc := 43) F dX7_item_43 rfl rfl ?_
        refine gf_X7_30 (pc := 44) F dX7_item_44 (v_0 (by omega)) ?_
        refine x_iload_n (i := 1) (pc := 47) F dX7_item_47 rfl rfl ?_
        refine tq_ta (pc := 48) F dX7_item_48 (v_19 (by omega)) (by omega) ?_
        refine x_iload_n (i := 2) (pc := 49) F dX7_item_49 rfl rfl ?_
        refine x_lload_n (i := 3) (pc := 50) F dX7_item_50 rfl rfl ?_
        refine x_V2v (ci := 5) (pc := 51) F dX7_item_51 lk_X7_330 rfl (v_20 (by omega)) rfl rfl (c_X5_put i v (by omega) (by omega) (by omega) (by omega)) rfl rfl rfl ?_
        rintro μ1 h
        refine x_iconst (pc := 54) F dX7_item_54 ?_
        refine tq_reti (pc := 55) F dX7_item_55 ?_ rfl rfl rfl
        have e : itemZ st ln t i = 1 := by unfold itemZ; rw [if_pos (by omega), if_neg (by omega), if_pos (by omega)]
        rw [if_pos (by omega), p1] at h
        subst h
        refine ⟨e.symm, ?_, fun o ho => upM_ne (by rintro rfl; exact ho (Or.inr rfl))⟩
        unfold itemI
        rw [if_pos e]
        intro t' x y
        obtain ⟨h1, h2, h3⟩ := hP t' x y
        rw [upM_ne (show ((20, t', 0) : Ob) ≠ (21, t, 0) by simp)]
        refine ⟨h1, h2, fun k u w => ?_⟩
        by_cases q : t' = t
        · subst q
          rw [upM_i]
          by_cases r : k = i
          · rw [if_pos r, r, upT_eq]
          · rw [if_neg r, upT_ne (by omega)]; exact h3 k u w
        · rw [upM_ne (by simp [q]), upT_ne (by omega)]; exact h3 k u w
      · try simp only [decide_eq_true_eq, decide_eq_false_iff_not, Bool.and_eq_true, Bool.or_eq_true, Bool.not_eq_true', Bool.not_eq_false', Bool.and_eq_false_iff, Bool.or_eq_false_iff] at h37
        refine x_bipush (pc := 40) F dX7_item_40 (by decide) ?_
        refine tq_reti (pc := 42) F dX7_item_42 ?_ rfl rfl rfl
        have e : itemZ st ln t i = -13 := by unfold itemZ; rw [if_pos (by omega), if_neg (by omega), if_neg (by omega)]
        exact ⟨e.symm, by unfold itemI; rw [if_neg (by omega)]; exact hP, fun o _ => rfl⟩
    · refine x_bipush (pc := 24) F dX7_item_24 (by decide) ?_
      refine tq_reti (pc := 26) F dX7_item_26 ?_ rfl rfl rfl
      have e : itemZ st ln t i = -11 := by unfold itemZ; rw [if_pos (by omega), if_pos (by omega)]
      exact ⟨e.symm, by unfold itemI; rw [if_neg (by omega)]; exact hP, fun o _ => rfl⟩
  · try simp only [decide_eq_true_eq, decide_eq_false_iff_not, Bool.and_eq_true, Bool.or_eq_true, Bool.not_eq_true', Bool.not_eq_false', Bool.and_eq_false_iff, Bool.or_eq_false_iff] at h6
    refine x_iconst (pc := 9) F dX7_item_9 ?_
    refine tq_reti (pc := 10) F dX7_item_10 ?_ rfl rfl rfl
    have e : itemZ st ln t i = -1 := by unfold itemZ; rw [if_neg (by omega)]
    exact ⟨e.symm, by unfold itemI; rw [if_neg (by omega)]; exact hP, fun o _ => rfl⟩
set_option maxRecDepth 20000 in
theorem c_X7_read (t i : Int) (ht : -2147483648 ≤ t ∧ t < 2147483648) (hi : -2147483648 ≤ i ∧ i < 2147483648) (hP : TPR μ st ln it) (hQ : TPI st ln it) (l : Launch) (E : Ev) (A : Nat → Prop) : Con l E 3 m_X7_read A (VC nh) ad μ [.ref (ad (0, 0, 0)), .int (I t), .int (I i)] (pl fun z μ' => z = readZ ln it t i ∧ μ = μ') := by
  refine con (own := RX7) (by decide +kernel) rfl rfl rfl (fun Γ F => ?_)
  refine x_iload_n (i := 1) (pc := 0) F dX7_read_0 rfl rfl ?_
  refine x_bipush (pc := 1) F dX7_read_1 (by decide) ?_
  refine x_S2z (pc := 3) F dX7_read_3 lk_X7_83 rfl (c_isInW _ _ _ (by omega)) rfl rfl rfl ?_
  rintro _ _ ⟨rfl, rfl⟩
  refine x_if_eqB (tgt := 22) (pc := 6) F dX7_read_6 rfl (fun h6 => ?_) (fun h6 => ?_)
  · try simp only [decide_eq_true_eq, decide_eq_false_iff_not, Bool.and_eq_true, Bool.or_eq_true, Bool.not_eq_true', Bool.not_eq_false', Bool.and_eq_false_iff, Bool.or_eq_false_iff] at h6
    refine x_ldc2 (z := -9223372036854775808) (pc := 22) F dX7_read_22 kw_700 rfl ?_
    refine tq_retl (pc := 25) F dX7_read_25 ?_ rfl rfl rfl
    exact ⟨by unfold readZ; rw [if_neg (by omega)], rfl⟩
  · try simp only [decide_eq_true_eq, decide_eq_false_iff_not, Bool.and_eq_true, Bool.or_eq_true, Bool.not_eq_true', Bool.not_eq_false', Bool.and_eq_false_iff, Bool.or_eq_false_iff] at h6
    obtain ⟨p1, p2, p3⟩ := hP t (by omega) (by omega)
    obtain ⟨q1, q2, q3, q4⟩ := hQ t (by omega) (by omega)
    refine x_aload_n (i := 0) (pc := 9) F dX7_read_9 rfl rfl ?_
    refine gf_X7_30 (pc := 10) F dX7_read_10 (v_0 (by omega)) ?_
    refine x_iload_n (i := 1) (pc := 13) F dX7_read_13 rfl rfl ?_
    refine tq_ta (pc := 14) F dX7_read_14 (v_19 (by omega)) (by omega) ?_
    refine x_iload_n (i := 2) (pc := 15) F dX7_read_15 rfl rfl ?_
    refine x_V1z (ci := 5) (pc := 16) F dX7_read_16 lk_X7_293 rfl (v_20 (by omega)) rfl rfl (c_X5_hasPlace _ (by omega) (by omega) (by omega)) rfl rfl rfl ?_
    rintro _ _ ⟨rfl, rfl⟩
    refine x_if_neB (tgt := 26) (pc := 19) F dX7_read_19 rfl (fun h19 => ?_) (fun h19 => ?_)
    · try simp only [decide_eq_true_eq, decide_eq_false_iff_not, Bool.and_eq_true, Bool.or_eq_true, Bool.not_eq_true', Bool.not_eq_false', Bool.and_eq_false_iff, Bool.or_eq_false_iff] at h19
      refine x_aload_n (i := 0) (pc := 26) F dX7_read_26 rfl rfl ?_
      refine gf_X7_30 (pc := 27) F dX7_read_27 (v_0 (by omega)) ?_
      refine x_iload_n (i := 1) (pc := 30) F dX7_read_30 rfl rfl ?_
      refine tq_ta (pc := 31) F dX7_read_31 (v_19 (by omega)) (by omega) ?_
      refine gf_X7_296 (pc := 32) F dX7_read_32 (v_20 (by omega)) ?_
      refine x_iload_n (i := 2) (pc := 35) F dX7_read_35 rfl rfl ?_
      refine tq_la (pc := 36) F dX7_read_36 (v_21 (by omega)) rfl (fun _ => rfl) (by omega) ?_
      refine tq_retl (pc := 37) F dX7_read_37 ?_ rfl rfl rfl
      exact ⟨by unfold readZ; rw [if_pos (by omega)]; exact p3 i (by omega) (by omega), rfl⟩
    · try simp only [decide_eq_true_eq, decide_eq_false_iff_not, Bool.and_eq_true, Bool.or_eq_true, Bool.not_eq_true', Bool.not_eq_false', Bool.and_eq_false_iff, Bool.or_eq_false_iff] at h19
      refine x_ldc2 (z := -9223372036854775808) (pc := 22) F dX7_read_22 kw_700 rfl ?_
      refine tq_retl (pc := 25) F dX7_read_25 ?_ rfl rfl rfl
      exact ⟨by unfold readZ; rw [if_neg (by omega)], rfl⟩
set_option maxRecDepth 20000 in
theorem c_X7_shift (t i o j n : Int) (ht : -2147483648 ≤ t ∧ t < 2147483648) (hi : -2147483648 ≤ i ∧ i < 2147483648) (ho : -2147483648 ≤ o ∧ o < 2147483648) (hj : -2147483648 ≤ j ∧ j < 2147483648) (hn : -2147483648 ≤ n ∧ n < 2147483648) (hP : TPR μ st ln it) (hQ : TPI st ln it) (l : Launch) (E : Ev) (A : Nat → Prop) : Con l E 3 m_X7_shift A (VC nh) ad μ [.ref (ad (0, 0, 0)), .int (I t), .int (I i), .int (I o), .int (I j), .int (I n)] (pi fun z μ' => z = shiftZ st ln t i o j n ∧ TPR μ' st ln (shiftI st ln it t i o j n) ∧ ∀ o, ¬ tapeO o → μ' o = μ o) := by
  refine con (own := RX7) (by decide +kernel) rfl rfl rfl (fun Γ F => ?_)
  refine x_iload_n (i := 1) (pc := 0) F dX7_shift_0 rfl rfl ?_
  refine x_bipush (pc := 1) F dX7_shift_1 (by decide) ?_
  refine x_S2z (pc := 3) F dX7_shift_3 lk_X7_83 rfl (c_isInW _ _ _ (by omega)) rfl rfl rfl ?_
  rintro _ _ ⟨rfl, rfl⟩
  refine x_if_eqB (tgt := 18) (pc := 6) F dX7_shift_6 rfl (fun h6 => ?_) (fun h6 => ?_)
  · try simp only [decide_eq_true_eq, decide_eq_false_iff_not, Bool.and_eq_true, Bool.or_eq_true, Bool.not_eq_true', Bool.not_eq_false', Bool.and_eq_false_iff, Bool.or_eq_false_iff] at h6
    refine x_iconst (pc := 18) F dX7_shift_18 ?_
    refine tq_reti (pc := 19) F dX7_shift_19 ?_ rfl rfl rfl
    exact ⟨by unfold shiftZ; rw [if_neg (by omega)], by unfold shiftI; rw [if_neg (fun z => by unfold shOk at z; omega)]; exact hP, fun o _ => rfl⟩
  · try simp only [decide_eq_true_eq, decide_eq_false_iff_not, Bool.and_eq_true, Bool.or_eq_true, Bool.not_eq_true', Bool.not_eq_false', Bool.and_eq_false_iff, Bool.or_eq_false_iff] at h6
    refine x_iload_n (i := 3) (pc := 9) F dX7_shift_9 rfl rfl ?_
    refine x_bipush (pc := 10) F dX7_shift_10 (by decide) ?_
    refine x_S2z (pc := 12) F dX7_shift_12 lk_X7_83 rfl (c_isInW _ _ _ (by omega)) rfl rfl rfl ?_
    rintro _ _ ⟨rfl, rfl⟩
    refine x_if_neB (tgt := 20) (pc := 15) F dX7_shift_15 rfl (fun h15 => ?_) (fun h15 => ?_)
    · try simp only [decide_eq_true_eq, decide_eq_false_iff_not, Bool.and_eq_true, Bool.or_eq_true, Bool.not_eq_true', Bool.not_eq_false', Bool.and_eq_false_iff, Bool.or_eq_false_iff] at h15
      obtain ⟨p1, p2, p3⟩ := hP t (by omega) (by omega)
      obtain ⟨q1, q2, q3, q4⟩ := hQ t (by omega) (by omega)
      obtain ⟨u1, u2, u3⟩ := hP o (by omega) (by omega)
      obtain ⟨w1, w2, w3, w4⟩ := hQ o (by omega) (by omega)
      refine x_aload_n (i := 0) (pc := 20) F dX7_shift_20 rfl rfl ?_
      refine gf_X7_30 (pc := 21) F dX7_shift_21 (v_0 (by omega)) ?_
      refine x_iload_n (i := 1) (pc := 24) F dX7_shift_24 rfl rfl ?_
      refine tq_ta (pc := 25) F dX7_shift_25 (v_19 (by omega)) (by omega) ?_
      refine x_astore (i := 6) (pc := 26) F dX7_shift_26 rfl ?_
      refine x_aload_n (i := 0) (pc := 28) F dX7_shift_28 rfl rfl ?_
      refine gf_X7_30 (pc := 29) F dX7_shift_29 (v_0 (by omega)) ?_
      refine x_iload_n (i := 3) (pc := 32) F dX7_shift_32 rfl rfl ?_
      refine tq_ta (pc := 33) F dX7_shift_33 (v_19 (by omega)) (by omega) ?_
      refine x_astore (i := 7) (pc := 34) F dX7_shift_34 rfl ?_
      refine x_aload (i := 6) (pc := 36) F dX7_shift_36 rfl ?_
      refine gf_X7_290 (pc := 38) F dX7_shift_38 (v_20 (by omega)) ?_
      refine x_iconst (pc := 41) F dX7_shift_41 ?_
      refine x_icmp_eq (tgt := 54) (pc := 42) F dX7_shift_42 rfl (by omega) (fun h42 => ?_) (fun h42 => ?_)
      · refine x_bipush (pc := 54) F dX7_shift_54 (by decide) ?_
        refine tq_reti (pc := 56) F dX7_shift_56 ?_ rfl rfl rfl
        exact ⟨by unfold shiftZ; rw [if_pos (by omega), if_pos (by omega)], by unfold shiftI; rw [if_neg (fun z => by unfold shOk at z; omega)]; exact hP, fun o _ => rfl⟩
      · refine x_aload (i := 7) (pc := 45) F dX7_shift_45 rfl ?_
        refine gf_X7_290 (pc := 47) F dX7_shift_47 (v_20 (by omega)) ?_
        refine x_iconst (pc := 50) F dX7_shift_50 ?_
        refine x_icmp_ne (tgt := 57) (pc := 51) F dX7_shift_51 rfl (by omega) (fun h51 => ?_) (fun h51 => ?_)
        · refine x_aload (i := 6) (pc := 57) F dX7_shift_57 rfl ?_
          refine gf_X7_290 (pc := 59) F dX7_shift_59 (v_20 (by omega)) ?_
          refine x_aload (i := 7) (pc := 62) F dX7_shift_62 rfl ?_
          refine gf_X7_290 (pc := 64) F dX7_shift_64 (v_20 (by omega)) ?_
          refine x_icmp_eq (tgt := 73) (pc := 67) F dX7_shift_67 rfl (by omega) (fun h67 => ?_) (fun h67 => ?_)
          · refine x_aload (i := 6) (pc := 73) F dX7_shift_73 rfl ?_
            refine x_iload_n (i := 2) (pc := 75) F dX7_shift_75 rfl rfl ?_
            refine x_iload (i := 5) (pc := 76) F dX7_shift_76 rfl ?_
            refine x_V2z (ci := 5) (pc := 78) F dX7_shift_78 lk_X7_334 rfl (v_20 (by omega)) rfl rfl (c_X5_hasPlaces _ _ (by omega) (by omega) (by omega) (by omega)) rfl rfl rfl ?_
            rintro _ _ ⟨rfl, rfl⟩
            refine x_if_eqB (tgt := 96) (pc := 81) F dX7_shift_81 rfl (fun h81 => ?_) (fun h81 => ?_)
            · try simp only [decide_eq_true_eq, decide_eq_false_iff_not, Bool.and_eq_true, Bool.or_eq_true, Bool.not_eq_true', Bool.not_eq_false', Bool.and_eq_false_iff, Bool.or_eq_false_iff] at h81
              refine x_bipush (pc := 96) F dX7_shift_96 (by decide) ?_
              refine tq_reti (pc := 98) F dX7_shift_98 ?_ rfl rfl rfl
              exact ⟨by unfold shiftZ; rw [if_pos (by omega), if_neg (by omega), if_pos (by omega), if_neg (by omega)], by unfold shiftI; rw [if_neg (fun z => by unfold shOk at z; omega)]; exact hP, fun o _ => rfl⟩
            · try simp only [decide_eq_true_eq, decide_eq_false_iff_not, Bool.and_eq_true, Bool.or_eq_true, Bool.not_eq_true', Bool.not_eq_false', Bool.and_eq_false_iff, Bool.or_eq_false_iff] at h81
              refine x_aload (i := 7) (pc := 84) F dX7_shift_84 rfl ?_
              refine x_iload (i := 4) (pc := 86) F dX7_shift_86 rfl ?_
              refine x_iload (i := 5) (pc := 88) F dX7_shift_88 rfl ?_
              refine x_V2z (ci := 5) (pc := 90) F dX7_shift_90 lk_X7_334 rfl (v_20 (by omega)) rfl rfl (c_X5_hasPlaces _ _ (by omega) (by omega) (by omega) (by omega)) rfl rfl rfl ?_
              rintro _ _ ⟨rfl, rfl⟩
              refine x_if_neB (tgt := 99) (pc := 93) F dX7_shift_93 rfl (fun h93 => ?_) (fun h93 => ?_)
              · try simp only [decide_eq_true_eq, decide_eq_false_iff_not, Bool.and_eq_true, Bool.or_eq_true, Bool.not_eq_true', Bool.not_eq_false', Bool.and_eq_false_iff, Bool.or_eq_false_iff] at h93
                refine x_aload (i := 6) (pc := 99) F dX7_shift_99 rfl ?_
                refine gf_X7_296 (pc := 101) F dX7_shift_101 (v_20 (by omega)) ?_
                refine x_iload_n (i := 2) (pc := 104) F dX7_shift_104 rfl rfl ?_
                refine x_aload (i := 7) (pc := 105) F dX7_shift_105 rfl ?_
                refine gf_X7_296 (pc := 107) F dX7_shift_107 (v_20 (by omega)) ?_
                refine x_iload (i := 4) (pc := 110) F dX7_shift_110 rfl ?_
                refine x_iload (i := 5) (pc := 112) F dX7_shift_112 rfl ?_
                refine tq_copy (pc := 114) F dX7_shift_114 kw_819 kw_430 kw_429 kw_83 rfl (v_21 (by omega)) (v_21 (by omega)) rfl rfl (Or.inr ⟨rfl, rfl⟩) (fun _ => rfl) (fun _ => rfl) (by omega) rfl ?_
                refine x_iload (i := 5) (pc := 117) F dX7_shift_117 rfl ?_
                refine tq_reti (pc := 119) F dX7_shift_119 ?_ rfl rfl rfl
                refine ⟨by unfold shiftZ; rw [if_pos (by omega), if_neg (by omega), if_pos (by omega), if_pos (by omega)], ?_, fun b hb => ?_⟩
                · unfold shiftI
                  rw [if_pos (by unfold shOk; omega)]
                  intro t' x y
                  obtain ⟨h1, h2, h3⟩ := hP t' x y
                  refine ⟨by unfold cpM; rw [if_neg (by simp)]; exact h1, by unfold cpM; rw [if_neg (by simp)]; exact h2, fun k v z => ?_⟩
                  unfold cpM; dsimp only
                  by_cases q : t' = o
                  · subst q
                    by_cases r : j ≤ k ∧ k < j + n
                    · rw [if_pos ⟨rfl, r⟩, if_pos (by omega), p3 _ (by omega) (by omega)]; congr 1; omega
                    · rw [if_neg (fun z => r z.2), if_neg (by omega)]; exact h3 k v z
                  · rw [if_neg (fun z => q (by have := z.1; simp at this; exact this)), if_neg (by omega)]; exact h3 k v z
                · funext k
                  unfold cpM
                  rw [if_neg (fun z => hb (by rw [z.1]; exact Or.inr rfl))]
              · try simp only [decide_eq_true_eq, decide_eq_false_iff_not, Bool.and_eq_true, Bool.or_eq_true, Bool.not_eq_true', Bool.not_eq_false', Bool.and_eq_false_iff, Bool.or_eq_false_iff] at h93
                refine x_bipush (pc := 96) F dX7_shift_96 (by decide) ?_
                refine tq_reti (pc := 98) F dX7_shift_98 ?_ rfl rfl rfl
                exact ⟨by unfold shiftZ; rw [if_pos (by omega), if_neg (by omega), if_pos (by omega), if_neg (by omega)], by unfold shiftI; rw [if_neg (fun z => by unfold shOk at z; omega)]; exact hP, fun o _ => rfl⟩
          · refine x_bipush (pc := 70) F dX7_shift_70 (by decide) ?_
            refine tq_reti (pc := 72) F dX7_shift_72 ?_ rfl rfl rfl
            exact ⟨by unfold shiftZ; rw [if_pos (by omega), if_neg (by omega), if_neg (by omega)], by unfold shiftI; rw [if_neg (fun z => by unfold shOk at z; omega)]; exact hP, fun o _ => rfl⟩
        · refine x_bipush (pc := 54) F dX7_shift_54 (by decide) ?_
          refine tq_reti (pc := 56) F dX7_shift_56 ?_ rfl rfl rfl
          exact ⟨by unfold shiftZ; rw [if_pos (by omega), if_pos (by omega)], by unfold shiftI; rw [if_neg (fun z => by unfold shOk at z; omega)]; exact hP, fun o _ => rfl⟩
    · try simp only [decide_eq_true_eq, decide_eq_false_iff_not, Bool.and_eq_true, Bool.or_eq_true, Bool.not_eq_true', Bool.not_eq_false', Bool.and_eq_false_iff, Bool.or_eq_false_iff] at h15
      refine x_iconst (pc := 18) F dX7_shift_18 ?_
      refine tq_reti (pc := 19) F dX7_shift_19 ?_ rfl rfl rfl
      exact ⟨by unfold shiftZ; rw [if_neg (by omega)], by unfold shiftI; rw [if_neg (fun z => by unfold shOk at z; omega)]; exact hP, fun o _ => rfl⟩
set_option maxRecDepth 20000 in
theorem c_X7_judge (t i : Int) (ht : -2147483648 ≤ t ∧ t < 2147483648) (hi : -2147483648 ≤ i ∧ i < 2147483648) (hR0 : TR μ 0 T) (hI : TI T) (hP : TPR μ st ln it) (hQ : TPI st ln it) (l : Launch) (E : Ev) (A : Nat → Prop) : Con l E 3 m_X7_judge A (VC nh) ad μ [.ref (ad (0, 0, 0)), .int (I t), .int (I i)] (pi fun z μ' => z = judgeZ st ln it T t i ∧ μ = μ') := by
  have h76 := hI.2.2.1
  have s1 := hR0.2.2.1.1
  refine con (own := RX7) (by decide +kernel) rfl rfl rfl (fun Γ F => ?_)
  have loop : 0 ≤ t ∧ t < 6 → st t = -1 ∨ st t = 1 → ∀ (N : Nat) (n : Nat), T 76 - n < N → n ≤ T 76 → judgeZ st ln it T t i = judgeL ln it T t i ((T 76).toNat - n) n → XX Γ 5 (VC nh) ad (vl ad μ) 0 0 40 [(0, .ref (ad (0, 0, 0))), (1, .int (I t)), (2, .int (I i)), (3, .ref (ad (20, t, 0))), (4, .int (I n))] [] := by
    intro tt ss N
    obtain ⟨p1, p2, p3⟩ := hP t (by omega) (by omega)
    obtain ⟨q1, q2, q3, q4⟩ := hQ t (by omega) (by omega)
    induction N with
    | zero => intro n a1 a2; omega
    | succ N ih =>
      intro n a1 a2 a3
      refine x_iload (i := 4) (pc := 40) F dX7_judge_40 rfl ?_
      refine x_aload_n (i := 0) (pc := 42) F dX7_judge_42 rfl rfl ?_
      refine gf_X7_62 (pc := 43) F dX7_judge_43 (v_0 (by omega)) ?_
      refine gf_X7_79 (pc := 46) F dX7_judge_46 (v_1 (by omega)) ?_
      refine x_icmp_ge (tgt := 113) (pc := 49) F dX7_judge_49 rfl (by omega) (fun h49 => ?_) (fun h49 => ?_)
      · refine x_bipush (pc := 113) F dX7_judge_113 (by decide) ?_
        refine tq_reti (pc := 115) F dX7_judge_115 ?_ rfl rfl rfl
        rw [show (T 76).toNat - n = 0 by omega] at a3
        exact ⟨a3.symm, rfl⟩
      · obtain ⟨f, hf⟩ : ∃ f, (T 76).toNat - n = f + 1 := ⟨(T 76).toNat - n - 1, by omega⟩
        rw [hf] at a3
        have hf2 : (T 76).toNat - (n + 1) = f := by omega
        refine x_aload_n (i := 3) (pc := 52) F dX7_judge_52 rfl rfl ?_
        refine x_iload_n (i := 2) (pc := 53) F dX7_judge_53 rfl rfl ?_
        refine x_V1z (ci := 5) (pc := 54) F dX7_judge_54 lk_X7_293 rfl (v_20 (by omega)) rfl rfl (c_X5_hasPlace _ (by omega) (by omega) (by omega)) rfl rfl rfl ?_
        rintro _ _ ⟨rfl, rfl⟩
        refine x_if_eqB (tgt := 71) (pc := 57) F dX7_judge_57 rfl (fun h57 => ?_) (fun h57 => ?_)
        · try simp only [decide_eq_true_eq, decide_eq_false_iff_not, Bool.and_eq_true, Bool.or_eq_true, Bool.not_eq_true', Bool.not_eq_false', Bool.and_eq_false_iff, Bool.or_eq_false_iff] at h57
          refine x_bipush (pc := 71) F dX7_judge_71 (by decide) ?_
          refine x_iload (i := 4) (pc := 73) F dX7_judge_73 rfl ?_
          refine x_iadd (pc := 75) F dX7_judge_75 ?_
          refine tq_reti (pc := 76) F dX7_judge_76 ?_ rfl rfl rfl
          unfold judgeL at a3
          rw [jdL_a (by omega)] at a3
          exact ⟨by omega, rfl⟩
        · try simp only [decide_eq_true_eq, decide_eq_false_iff_not, Bool.and_eq_true, Bool.or_eq_true, Bool.not_eq_true', Bool.not_eq_false', Bool.and_eq_false_iff, Bool.or_eq_false_iff] at h57
          refine x_aload_n (i := 3) (pc := 60) F dX7_judge_60 rfl rfl ?_
          refine x_iload_n (i := 2) (pc := 61) F dX7_judge_61 rfl rfl ?_
          refine x_iload (i := 4) (pc := 62) F dX7_judge_62 rfl ?_
          refine x_iadd (pc := 64) F dX7_judge_64 ?_
          refine x_V1z (ci := 5) (pc := 65) F dX7_judge_65 lk_X7_293 rfl (v_20 (by omega)) rfl rfl (c_X5_hasPlace _ (by omega) (by omega) (by omega)) rfl rfl rfl ?_
          rintro _ _ ⟨rfl, rfl⟩
          refine x_if_neB (tgt := 77) (pc := 68) F dX7_judge_68 rfl (fun h68 => ?_) (fun h68 => ?_)
          · try simp only [decide_eq_true_eq, decide_eq_false_iff_not, Bool.and_eq_true, Bool.or_eq_true, Bool.not_eq_true', Bool.not_eq_false', Bool.and_eq_false_iff, Bool.or_eq_false_iff] at h68
            have hit := p3 (i + n) (by omega) (by omega)
            have hir := q4 (i + n) (by omega) (by omega)
            have hwk : μ (4, 0, (n : Int)) 3 = T (18 + 10 * n) := (hR0.2.1 n (by omega) (by omega)).2.2.2.1
            have hwr := (hI.2.1 n (by omega) (by omega)).2.2.1
            refine x_aload_n (i := 3) (pc := 77) F dX7_judge_77 rfl rfl ?_
            refine gf_X7_296 (pc := 78) F dX7_judge_78 (v_20 (by omega)) ?_
            refine x_iload_n (i := 2) (pc := 81) F dX7_judge_81 rfl rfl ?_
            refine x_iload (i := 4) (pc := 82) F dX7_judge_82 rfl ?_
            refine x_iadd (pc := 84) F dX7_judge_84 ?_
            refine tq_la (pc := 85) F dX7_judge_85 (v_21 (by omega)) rfl (fun _ => rfl) (by omega) ?_
            rw [hit]
            refine x_aload_n (i := 0) (pc := 86) F dX7_judge_86 rfl rfl ?_
            refine gf_X7_62 (pc := 87) F dX7_judge_87 (v_0 (by omega)) ?_
            refine gf_X7_94 (pc := 90) F dX7_judge_90 (v_1 (by omega)) ?_
            refine x_iload (i := 4) (pc := 93) F dX7_judge_93 rfl ?_
            refine tq_pa (pc := 95) F dX7_judge_95 (v_11 (by omega)) (by omega) ?_
            refine gf_X7_120 (pc := 96) F dX7_judge_96 (v_4 (by omega)) ?_
            rw [hwk]
            refine x_i2l (pc := 99) F dX7_judge_99 (by omega) ?_
            refine tq_lcmp (pc := 100) F dX7_judge_100 ?_
            have hlr := lcS_rg (it (60 * t + (i + n))) (T (18 + 10 * n))
            refine x_if_eq (tgt := 107) (pc := 101) F dX7_judge_101 rfl (by omega) (fun h101 => ?_) (fun h101 => ?_)
            · refine x_iinc (pc := 107) F dX7_judge_107 rfl rfl ?_
              refine x_goto (tgt := 40) (pc := 110) F dX7_judge_110 rfl ?_
              rw [lcS_0, J_eq (by omega)] at h101
              unfold judgeL at a3
              rw [jdL_n (by omega) (by rw [← h101]; congr 1; omega)] at a3
              exact x_sub (L' := [(0, .ref (ad (0, 0, 0))), (1, .int (I t)), (2, .int (I i)), (3, .ref (ad (20, t, 0))), (4, .int (I ((n + 1 : Nat) : Int)))]) ⟨rfl, rfl, rfl, rfl, rfl, trivial⟩ (ih (n + 1) (by omega) (by omega) (by rw [hf2]; exact a3))
            · refine x_iload (i := 4) (pc := 104) F dX7_judge_104 rfl ?_
              refine tq_reti (pc := 106) F dX7_judge_106 ?_ rfl rfl rfl
              rw [lcS_0, J_eq (by omega)] at h101
              unfold judgeL at a3
              rw [jdL_b (by omega) (fun z => h101 (by rw [← z]; congr 1; omega))] at a3
              exact ⟨by omega, rfl⟩
          · try simp only [decide_eq_true_eq, decide_eq_false_iff_not, Bool.and_eq_true, Bool.or_eq_true, Bool.not_eq_true', Bool.not_eq_false', Bool.and_eq_false_iff, Bool.or_eq_false_iff] at h68
            refine x_bipush (pc := 71) F dX7_judge_71 (by decide) ?_
            refine x_iload (i := 4) (pc := 73) F dX7_judge_73 rfl ?_
            refine x_iadd (pc := 75) F dX7_judge_75 ?_
            refine tq_reti (pc := 76) F dX7_judge_76 ?_ rfl rfl rfl
            unfold judgeL at a3
            rw [jdL_a (by omega)] at a3
            exact ⟨by omega, rfl⟩
  refine x_iload_n (i := 1) (pc := 0) F dX7_judge_0 rfl rfl ?_
  refine x_bipush (pc := 1) F dX7_judge_1 (by decide) ?_
  refine x_S2z (pc := 3) F dX7_judge_3 lk_X7_83 rfl (c_isInW _ _ _ (by omega)) rfl rfl rfl ?_
  rintro _ _ ⟨rfl, rfl⟩
  refine x_if_neB (tgt := 11) (pc := 6) F dX7_judge_6 rfl (fun h6 => ?_) (fun h6 => ?_)
  · try simp only [decide_eq_true_eq, decide_eq_false_iff_not, Bool.and_eq_true, Bool.or_eq_true, Bool.not_eq_true', Bool.not_eq_false', Bool.and_eq_false_iff, Bool.or_eq_false_iff] at h6
    obtain ⟨p1, p2, p3⟩ := hP t (by omega) (by omega)
    obtain ⟨q1, q2, q3, q4⟩ := hQ t (by omega) (by omega)
    refine x_aload_n (i := 0) (pc := 11) F dX7_judge_11 rfl rfl ?_
    refine gf_X7_30 (pc := 12) F dX7_judge_12 (v_0 (by omega)) ?_
    refine x_iload_n (i := 1) (pc := 15) F dX7_judge_15 rfl rfl ?_
    refine tq_ta (pc := 16) F dX7_judge_16 (v_19 (by omega)) (by omega) ?_
    refine x_astore_n (i := 3) (pc := 17) F dX7_judge_17 rfl rfl ?_
    refine x_aload_n (i := 3) (pc := 18) F dX7_judge_18 rfl rfl ?_
    refine gf_X7_290 (pc := 19) F dX7_judge_19 (v_20 (by omega)) ?_
    refine x_iconst (pc := 22) F dX7_judge_22 ?_
    refine x_icmp_eq (tgt := 37) (pc := 23) F dX7_judge_23 rfl (by omega) (fun h23 => ?_) (fun h23 => ?_)
    · refine x_iconst (pc := 37) F dX7_judge_37 ?_
      refine x_istore (i := 4) (pc := 38) F dX7_judge_38 rfl ?_
      exact x_sub (L' := [(0, .ref (ad (0, 0, 0))), (1, .int (I t)), (2, .int (I i)), (3, .ref (ad (20, t, 0))), (4, .int (I ((0 : Nat) : Int)))]) ⟨rfl, rfl, rfl, rfl, rfl, trivial⟩ (loop (by omega) (by omega) 7 0 (by omega) (by omega) (by unfold judgeZ; rw [if_pos (by omega), if_pos (by omega), Nat.sub_zero]))
    · refine x_aload_n (i := 3) (pc := 26) F dX7_judge_26 rfl rfl ?_
      refine gf_X7_290 (pc := 27) F dX7_judge_27 (v_20 (by omega)) ?_
      refine x_iconst (pc := 30) F dX7_judge_30 ?_
      refine x_icmp_eq (tgt := 37) (pc := 31) F dX7_judge_31 rfl (by omega) (fun h31 => ?_) (fun h31 => ?_)
      · refine x_iconst (pc := 37) F dX7_judge_37 ?_
        refine x_istore (i := 4) (pc := 38) F dX7_judge_38 rfl ?_
        exact x_sub (L' := [(0, .ref (ad (0, 0, 0))), (1, .int (I t)), (2, .int (I i)), (3, .ref (ad (20, t, 0))), (4, .int (I ((0 : Nat) : Int)))]) ⟨rfl, rfl, rfl, rfl, rfl, trivial⟩ (loop (by omega) (by omega) 7 0 (by omega) (by omega) (by unfold judgeZ; rw [if_pos (by omega), if_pos (by omega), Nat.sub_zero]))
      · refine x_bipush (pc := 34) F dX7_judge_34 (by decide) ?_
        refine tq_reti (pc := 36) F dX7_judge_36 ?_ rfl rfl rfl
        exact ⟨by unfold judgeZ; rw [if_pos (by omega), if_neg (by omega)], rfl⟩
  · try simp only [decide_eq_true_eq, decide_eq_false_iff_not, Bool.and_eq_true, Bool.or_eq_true, Bool.not_eq_true', Bool.not_eq_false', Bool.and_eq_false_iff, Bool.or_eq_false_iff] at h6
    refine x_iconst (pc := 9) F dX7_judge_9 ?_
    refine tq_reti (pc := 10) F dX7_judge_10 ?_ rfl rfl rfl
    exact ⟨by unfold judgeZ; rw [if_neg (by omega)], rfl⟩
/-- the text that is fed -/
def TX (μ : Me) (tx : Tn) (tl : Int) : Prop := (μ (15, 0, 0) 1 = tl ∧ 0 ≤ tl ∧ tl ≤ 100) ∧ ∀ k, 0 ≤ k → k < tl → μ (16, 0, 0) k = tx k ∧ 0 ≤ tx k ∧ tx k < 128
set_option maxRecDepth 20000 in
theorem c_X7_feed (s : Int) {tx : Tn} {tl : Int} (hs : -2147483648 ≤ s ∧ s < 2147483648) (hX : TX μ tx tl) (l : Launch) (E : Ev) (A : Nat → Prop) : Con l E 3 m_X7_feed A (VC nh) ad μ [.ref (ad (0, 0, 0)), .int (I s)] (pi fun z μ' => z = feedZ tl s ∧ TX μ' (feedT tx tl s) (feedN tl s) ∧ (∀ k, k ≠ 1 → μ' (15, 0, 0) k = μ (15, 0, 0) k) ∧ ∀ o, o ≠ (15, 0, 0) → o ≠ (16, 0, 0) → μ' o = μ o) := by
  obtain ⟨⟨x1, x2, x3⟩, x4⟩ := id hX
  refine con (own := RX7) (by decide +kernel) rfl rfl rfl (fun Γ F => ?_)
  refine x_iload_n (i := 1) (pc := 0) F dX7_feed_0 rfl rfl ?_
  refine x_sipush (pc := 1) F dX7_feed_1 (by decide) ?_
  refine x_S2z (pc := 4) F dX7_feed_4 lk_X7_83 rfl (c_isInW _ _ _ (by omega)) rfl rfl rfl ?_
  rintro _ _ ⟨rfl, rfl⟩
  refine x_if_neB (tgt := 13) (pc := 7) F dX7_feed_7 rfl (fun h7 => ?_) (fun h7 => ?_)
  · try simp only [decide_eq_true_eq, decide_eq_false_iff_not, Bool.and_eq_true, Bool.or_eq_true, Bool.not_eq_true', Bool.not_eq_false', Bool.and_eq_false_iff, Bool.or_eq_false_iff] at h7
    refine x_aload_n (i := 0) (pc := 13) F dX7_feed_13 rfl rfl ?_
    refine gf_X7_12 (pc := 14) F dX7_feed_14 (v_0 (by omega)) ?_
    refine gf_X7_162 (pc := 17) F dX7_feed_17 (v_15 (by omega)) ?_
    refine x_bipush (pc := 20) F dX7_feed_20 (by decide) ?_
    refine x_icmp_lt (tgt := 28) (pc := 22) F dX7_feed_22 rfl (by omega) (fun h22 => ?_) (fun h22 => ?_)
    · refine x_aload_n (i := 0) (pc := 28) F dX7_feed_28 rfl rfl ?_
      refine gf_X7_12 (pc := 29) F dX7_feed_29 (v_0 (by omega)) ?_
      refine gf_X7_165 (pc := 32) F dX7_feed_32 (v_15 (by omega)) ?_
      refine x_aload_n (i := 0) (pc := 35) F dX7_feed_35 rfl rfl ?_
      refine gf_X7_12 (pc := 36) F dX7_feed_36 (v_0 (by omega)) ?_
      refine gf_X7_162 (pc := 39) F dX7_feed_39 (v_15 (by omega)) ?_
      refine x_iload_n (i := 1) (pc := 42) F dX7_feed_42 rfl rfl ?_
      refine tq_i2b (pc := 43) F dX7_feed_43 ?_
      rw [b8_id (by omega)]
      refine tq_bas (pc := 44) F dX7_feed_44 (v_16 (by omega)) rfl (fun _ => rfl) (by omega) (by omega) ?_
      refine x_aload_n (i := 0) (pc := 45) F dX7_feed_45 rfl rfl ?_
      refine gf_X7_12 (pc := 46) F dX7_feed_46 (v_0 (by omega)) ?_
      refine x_dup (pc := 49) F dX7_feed_49 rfl ?_
      refine gf_X7_162 (pc := 50) F dX7_feed_50 (v_15 (by omega)) ?_
      rw [show upM μ (16, 0, 0) (μ (15, 0, 0) 1) s (15, 0, 0) 1 = tl from by rw [upM_ne (by simp)]; exact x1]
      refine x_iconst (pc := 53) F dX7_feed_53 ?_
      refine x_iadd (pc := 54) F dX7_feed_54 ?_
      refine pf_X7_162 (pc := 55) F dX7_feed_55 (v_15 (by omega)) ?_
      refine x_aload_n (i := 0) (pc := 58) F dX7_feed_58 rfl rfl ?_
      refine gf_X7_12 (pc := 59) F dX7_feed_59 (v_0 (by omega)) ?_
      refine gf_X7_162 (pc := 62) F dX7_feed_62 (v_15 (by omega)) ?_
      refine tq_reti (pc := 65) F dX7_feed_65 ?_ rfl rfl rfl
      refine ⟨by unfold feedZ; rw [if_pos (by omega), if_neg (by omega), upM_i, if_pos rfl], ?_, fun k hk => by rw [upM_i, if_neg hk, upM_ne (by simp)], fun o h1 h2 => by rw [upM_ne h1, upM_ne h2]⟩
      unfold feedT feedN
      rw [if_pos (by omega), if_pos (by omega)]
      refine ⟨⟨by rw [upM_i, if_pos rfl], by omega, by omega⟩, fun k a b => ?_⟩
      rw [upM_ne (by simp), upM_i]
      by_cases q : k = tl
      · rw [if_pos (by omega), q, upT_eq]; omega
      · rw [if_neg (by omega), upT_ne q]; exact x4 k a (by omega)
    · refine x_bipush (pc := 25) F dX7_feed_25 (by decide) ?_
      refine tq_reti (pc := 27) F dX7_feed_27 ?_ rfl rfl rfl
      exact ⟨by unfold feedZ; rw [if_pos (by omega), if_pos (by omega)], by unfold feedT feedN; rw [if_neg (by omega), if_neg (by omega)]; exact hX, fun k _ => rfl, fun o _ _ => rfl⟩
  · try simp only [decide_eq_true_eq, decide_eq_false_iff_not, Bool.and_eq_true, Bool.or_eq_true, Bool.not_eq_true', Bool.not_eq_false', Bool.and_eq_false_iff, Bool.or_eq_false_iff] at h7
    refine x_bipush (pc := 10) F dX7_feed_10 (by decide) ?_
    refine tq_reti (pc := 12) F dX7_feed_12 ?_ rfl rfl rfl
    exact ⟨by unfold feedZ; rw [if_neg (by omega)], by unfold feedT feedN; rw [if_neg (by omega), if_neg (by omega)]; exact hX, fun k _ => rfl, fun o _ _ => rfl⟩
end CLS9
