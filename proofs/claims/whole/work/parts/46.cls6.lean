/-! ===== the class: what is seen, plans, books ===== -/
theorem pI_1 {P : Prop} : pI P = 1 ↔ P := by
  rcases Classical.em P with h | h
  · rw [pI_t h]; exact ⟨fun _ => h, fun _ => rfl⟩
  · rw [pI_f h]; exact ⟨fun z => by omega, fun z => absurd z h⟩
noncomputable def seeZ (T : Tn) (c g : Int) : Int := if c = -1 then 0 else if (0 ≤ c ∧ c < T 76) ∧ 0 ≤ g ∧ g < 4 then (if T 79 = 5 then -4 else T 79 + 1) else -1
noncomputable def seeT (T : Tn) (c g b : Int) : Tn := if c = -1 then upT T 79 0 else if ((0 ≤ c ∧ c < T 76) ∧ 0 ≤ g ∧ g < 4) ∧ T 79 < 5 then upT (upT (upT (upT T (80 + 3 * T 79) c) (81 + 3 * T 79) g) (82 + 3 * T 79) b) 79 (T 79 + 1) else T
noncomputable def planZ (T : Tn) (a n : Int) : Int := if a = -1 then 0 else @ite Int (PI1 T a n) (Classical.propDecidable _) (if T 95 = 10 then -4 else T 95 + 1) (-1)
noncomputable def planT (T : Tn) (a n : Int) : Tn := if a = -1 then upT T 95 0 else @ite Tn (PI1 T a n ∧ T 95 < 10) (Classical.propDecidable _) (upT (upT (upT T (96 + 2 * T 95) a) (97 + 2 * T 95) n) 95 (T 95 + 1)) T
noncomputable def bookZ (T : Tn) (c n : Int) : Int := if c = -1 then 0 else if 0 ≤ c ∧ c < T 76 then (if 0 ≤ n ∧ n < 10000 then (if T 116 = 8 then -4 else T 116 + 1) else -2) else -1
noncomputable def bookT (T : Tn) (c n : Int) : Tn := if c = -1 then upT T 116 0 else if ((0 ≤ c ∧ c < T 76) ∧ 0 ≤ n ∧ n < 10000) ∧ T 116 < 8 then upT (upT (upT T (117 + 2 * T 116) c) (118 + 2 * T 116) n) 116 (T 116 + 1) else T
def soP (S : Hs) (T : Tn) (r : Int) : Prop := LTg S T (T (80 + 3 * r)) (T (81 + 3 * r)) ↔ T (82 + 3 * r) = 1
noncomputable def wrongZ (S : Hs) (T : Tn) : Int := firstF (fun r => ¬ soP S T r) (T 79).toNat 0
noncomputable def lookedZ (T : Tn) : Int := firstF (fun r => T (21 + 10 * T (117 + 2 * (r : Int))) ≠ T (118 + 2 * (r : Int))) (T 116).toNat 0
section CLS6
variable {ad : Ob → Nat} {μ : Me} {nh : Int} {T : Tn} {S : Hs}
theorem TR_rr {μ' : Me} {t : Int} {T' : Tn} (h : TR μ t T) (hf : ∀ o : Ob, 1 ≤ o.1 → o.1 ≤ 5 → μ' o = μ o) (e : ∀ k, k < 79 → T' k = T k) (r : RR μ' t T') : TR μ' t T' :=
  ⟨fun g a b => GR_eq (GR_fr (h.1 g a b) (hf _ (by simp) (by simp)) (hf _ (by simp) (by simp))) (fun k x y => e k (by omega)), fun p a b => CR_eq (CR_fr (h.2.1 p a b) (hf _ (by simp) (by simp)) (hf _ (by simp) (by simp))) (fun k x y => e k (by omega)), by
    obtain ⟨s1, s2, s3⟩ := h.2.2.1
    refine ⟨?_, ?_, ?_⟩
    · rw [e 76 (by decide), hf _ (by simp) (by simp)]; exact s1
    · rw [e 77 (by decide), hf _ (by simp) (by simp)]; exact s2
    · rw [e 78 (by decide), hf _ (by simp) (by simp)]; exact s3, r⟩
/-- a row added -/
def AddR (μ μ' : Me) (j a b c : Int) : Prop := μ' (6, 0, j) 3 = μ (6, 0, j) 3 + 1 ∧ (∀ k, μ' (7, 0, j) k = (if k = μ (6, 0, j) 3 then a else μ (7, 0, j) k) ∧ μ' (8, 0, j) k = (if k = μ (6, 0, j) 3 then b else μ (8, 0, j) k) ∧ μ' (9, 0, j) k = (if k = μ (6, 0, j) 3 then c else μ (9, 0, j) k)) ∧ ∀ o, o ≠ (6, 0, j) → o ≠ (7, 0, j) → o ≠ (8, 0, j) → o ≠ (9, 0, j) → μ' o = μ o
theorem up4 {T : Tn} {i1 z1 i2 z2 i3 z3 i4 z4 k : Int} : upT (upT (upT (upT T i1 z1) i2 z2) i3 z3) i4 z4 k = if k = i4 then z4 else if k = i3 then z3 else if k = i2 then z2 else if k = i1 then z1 else T k := rfl
theorem up3 {T : Tn} {i1 z1 i2 z2 i3 z3 k : Int} : upT (upT (upT T i1 z1) i2 z2) i3 z3 k = if k = i3 then z3 else if k = i2 then z2 else if k = i1 then z1 else T k := rfl
theorem TR_see {μ' : Me} {c g b : Int} (h : TR μ 0 T) (hI : TI T) (h5 : T 79 < 5) (u : AddR μ μ' 0 c g b) : TR μ' 0 (upT (upT (upT (upT T (80 + 3 * T 79) c) (81 + 3 * T 79) g) (82 + 3 * T 79) b) 79 (T 79 + 1)) := by
  obtain ⟨u1, u2, u3⟩ := u
  obtain ⟨⟨r1, r2⟩, ⟨r3, r4⟩, r5, r6⟩ := h.2.2.2
  have h0 := hI.2.2.2.2.2.1
  have e : ∀ k, k < 79 ∨ 94 < k → upT (upT (upT (upT T (80 + 3 * T 79) c) (81 + 3 * T 79) g) (82 + 3 * T 79) b) 79 (T 79 + 1) k = T k := fun k hk => by rw [up4, if_neg (by omega), if_neg (by omega), if_neg (by omega), if_neg (by omega)]
  refine TR_rr h (fun o a b => u3 o (by rintro rfl; simp at b) (by rintro rfl; simp at b) (by rintro rfl; simp at b) (by rintro rfl; simp at b)) (fun k hk => e k (by omega)) ⟨⟨?_, fun k x y => ?_⟩, ⟨?_, fun k x y => ?_⟩, ?_, fun k x y => ?_⟩
  · rw [u1, r1]; rfl
  · obtain ⟨v1, v2, v3⟩ := u2 k
    obtain ⟨w1, w2, w3⟩ := r2 k x y
    rw [r1] at v1 v2 v3
    rw [v1, v2, v3, up4, up4, up4, w1, w2, w3]
    by_cases q : k = T 79
    · refine ⟨?_, ?_, ?_⟩
      · rw [if_pos q, if_neg (by omega), if_neg (by omega), if_neg (by omega), if_pos (by omega)]
      · rw [if_pos q, if_neg (by omega), if_neg (by omega), if_pos (by omega)]
      · rw [if_pos q, if_neg (by omega), if_pos (by omega)]
    · refine ⟨?_, ?_, ?_⟩ <;> rw [if_neg q, if_neg (by omega), if_neg (by omega), if_neg (by omega), if_neg (by omega)]
  · rw [e _ (by omega), u3 _ (by simp) (by simp) (by simp) (by simp)]; exact r3
  · rw [e _ (by omega), e _ (by omega), u3 _ (by simp) (by simp) (by simp) (by simp), u3 _ (by simp) (by simp) (by simp) (by simp)]; exact r4 k x y
  · rw [e _ (by omega), u3 _ (by simp) (by simp) (by simp) (by simp)]; exact r5
  · rw [e _ (by omega), e _ (by omega), u3 _ (by simp) (by simp) (by simp) (by simp), u3 _ (by simp) (by simp) (by simp) (by simp)]; exact r6 k x y
theorem TR_plan {μ' : Me} {c g b : Int} (h : TR μ 0 T) (hI : TI T) (h5 : T 95 < 10) (u : AddR μ μ' 1 c g b) : TR μ' 0 (upT (upT (upT T (96 + 2 * T 95) c) (97 + 2 * T 95) g) 95 (T 95 + 1)) := by
  obtain ⟨u1, u2, u3⟩ := u
  obtain ⟨⟨r1, r2⟩, ⟨r3, r4⟩, r5, r6⟩ := h.2.2.2
  have h0 := hI.2.2.2.2.2.2.2.1
  have e : ∀ k, k < 95 ∨ 115 < k → upT (upT (upT T (96 + 2 * T 95) c) (97 + 2 * T 95) g) 95 (T 95 + 1) k = T k := fun k hk => by rw [up3, if_neg (by omega), if_neg (by omega), if_neg (by omega)]
  refine TR_rr h (fun o a b => u3 o (by rintro rfl; simp at b) (by rintro rfl; simp at b) (by rintro rfl; simp at b) (by rintro rfl; simp at b)) (fun k hk => e k (by omega)) ⟨⟨?_, fun k x y => ?_⟩, ⟨?_, fun k x y => ?_⟩, ?_, fun k x y => ?_⟩
  · rw [e _ (by omega), u3 _ (by simp) (by simp) (by simp) (by simp)]; exact r1
  · rw [e _ (by omega), e _ (by omega), e _ (by omega), u3 _ (by simp) (by simp) (by simp) (by simp), u3 _ (by simp) (by simp) (by simp) (by simp), u3 _ (by simp) (by simp) (by simp) (by simp)]; exact r2 k x y
  · rw [u1, r3]; rfl
  · obtain ⟨v1, v2, v3⟩ := u2 k
    obtain ⟨w1, w2⟩ := r4 k x y
    rw [r3] at v1 v2
    rw [v1, v2, up3, up3, w1, w2]
    by_cases q : k = T 95
    · refine ⟨?_, ?_⟩
      · rw [if_pos q, if_neg (by omega), if_neg (by omega), if_pos (by omega)]
      · rw [if_pos q, if_neg (by omega), if_pos (by omega)]
    · refine ⟨?_, ?_⟩ <;> rw [if_neg q, if_neg (by omega), if_neg (by omega), if_neg (by omega)]
  · rw [e _ (by omega), u3 _ (by simp) (by simp) (by simp) (by simp)]; exact r5
  · rw [e _ (by omega), e _ (by omega), u3 _ (by simp) (by simp) (by simp) (by simp), u3 _ (by simp) (by simp) (by simp) (by simp)]; exact r6 k x y
theorem TR_book {μ' : Me} {c g b : Int} (h : TR μ 0 T) (hI : TI T) (h5 : T 116 < 8) (u : AddR μ μ' 2 c g b) : TR μ' 0 (upT (upT (upT T (117 + 2 * T 116) c) (118 + 2 * T 116) g) 116 (T 116 + 1)) := by
  obtain ⟨u1, u2, u3⟩ := u
  obtain ⟨⟨r1, r2⟩, ⟨r3, r4⟩, r5, r6⟩ := h.2.2.2
  have h0 := hI.2.2.2.2.2.2.2.2.2.1
  have e : ∀ k, k < 116 → upT (upT (upT T (117 + 2 * T 116) c) (118 + 2 * T 116) g) 116 (T 116 + 1) k = T k := fun k hk => by rw [up3, if_neg (by omega), if_neg (by omega), if_neg (by omega)]
  refine TR_rr h (fun o a b => u3 o (by rintro rfl; simp at b) (by rintro rfl; simp at b) (by rintro rfl; simp at b) (by rintro rfl; simp at b)) (fun k hk => e k (by omega)) ⟨⟨?_, fun k x y => ?_⟩, ⟨?_, fun k x y => ?_⟩, ?_, fun k x y => ?_⟩
  · rw [e _ (by omega), u3 _ (by simp) (by simp) (by simp) (by simp)]; exact r1
  · rw [e _ (by omega), e _ (by omega), e _ (by omega), u3 _ (by simp) (by simp) (by simp) (by simp), u3 _ (by simp) (by simp) (by simp) (by simp), u3 _ (by simp) (by simp) (by simp) (by simp)]; exact r2 k x y
  · rw [e _ (by omega), u3 _ (by simp) (by simp) (by simp) (by simp)]; exact r3
  · rw [e _ (by omega), e _ (by omega), u3 _ (by simp) (by simp) (by simp) (by simp), u3 _ (by simp) (by simp) (by simp) (by simp)]; exact r4 k x y
  · rw [u1, r5]; rfl
  · obtain ⟨v1, v2, v3⟩ := u2 k
    obtain ⟨w1, w2⟩ := r6 k x y
    rw [r5] at v1 v2
    rw [v1, v2, up3, up3, w1, w2]
    by_cases q : k = T 116
    · refine ⟨?_, ?_⟩
      · rw [if_pos q, if_neg (by omega), if_neg (by omega), if_pos (by omega)]
      · rw [if_pos q, if_neg (by omega), if_pos (by omega)]
    · refine ⟨?_, ?_⟩ <;> rw [if_neg q, if_neg (by omega), if_neg (by omega), if_neg (by omega)]
theorem TR_clr {j k : Int} (h : TR μ 0 T) (hj : j = 0 ∧ k = 79 ∨ j = 1 ∧ k = 95 ∨ j = 2 ∧ k = 116) : TR (upM μ (6, 0, j) 3 0) 0 (upT T k 0) := by
  obtain ⟨⟨r1, r2⟩, ⟨r3, r4⟩, r5, r6⟩ := h.2.2.2
  have e : ∀ i, i ≠ k → upT T k 0 i = T i := fun i hi => if_neg hi
  have u : ∀ o, o ≠ (6, 0, j) → upM μ (6, 0, j) 3 0 o = μ o := fun o ho => upM_ne ho
  have u6 : ∀ i, i ≠ j → upM μ (6, 0, j) 3 0 (6, 0, i) = μ (6, 0, i) := fun i hi => upM_ne (by intro q; simp at q; exact hi q)
  refine TR_rr h (fun o a b => u o (by rintro rfl; simp at b)) (fun i hi => e i (by omega)) ⟨⟨?_, fun i x y => ?_⟩, ⟨?_, fun i x y => ?_⟩, ?_, fun i x y => ?_⟩
  · by_cases q : j = 0
    · rw [q, upM_i, if_pos rfl, show k = 79 by omega, upT_eq]
    · rw [u6 _ (by omega), e _ (by omega)]; exact r1
  · rw [e _ (by omega), e _ (by omega), e _ (by omega), u _ (by simp), u _ (by simp), u _ (by simp)]; exact r2 i x y
  · by_cases q : j = 1
    · rw [q, upM_i, if_pos rfl, show k = 95 by omega, upT_eq]
    · rw [u6 _ (by omega), e _ (by omega)]; exact r3
  · rw [e _ (by omega), e _ (by omega), u _ (by simp), u _ (by simp)]; exact r4 i x y
  · by_cases q : j = 2
    · rw [q, upM_i, if_pos rfl, show k = 116 by omega, upT_eq]
    · rw [u6 _ (by omega), e _ (by omega)]; exact r5
  · rw [e _ (by omega), e _ (by omega), u _ (by simp), u _ (by simp)]; exact r6 i x y
set_option maxRecDepth 20000 in
theorem c_X7_see (c g b : Int) (hc : -2147483648 ≤ c ∧ c < 2147483648) (hg : -2147483648 ≤ g ∧ g < 2147483648) (hb : 0 ≤ b ∧ b ≤ 1) (hR0 : TR μ 0 T) (hI : TI T) (l : Launch) (E : Ev) (A : Nat → Prop) : Con l E 3 m_X7_see A (VC nh) ad μ [.ref (ad (0, 0, 0)), .int (I c), .int (I g), .int (I b)] (pi fun z μ' => z = seeZ T c g ∧ TR μ' 0 (seeT T c g b) ∧ ∀ o, ¬ nwO o → μ' o = μ o) := by
  have hr1 := hR0.2.2.2.1.1
  have h0 := hI.2.2.2.2.2.1
  have hrs : rsz 0 = 5 := rfl
  refine con (own := RX7) (by decide +kernel) rfl rfl rfl (fun Γ F => ?_)
  refine x_iload_n (i := 1) (pc := 0) F dX7_see_0 rfl rfl ?_
  refine x_iconst (pc := 1) F dX7_see_1 ?_
  refine x_icmp_ne (tgt := 16) (pc := 2) F dX7_see_2 rfl (by omega) (fun h2 => ?_) (fun h2 => ?_)
  · refine x_aload_n (i := 0) (pc := 16) F dX7_see_16 rfl rfl ?_
    refine x_iload_n (i := 1) (pc := 17) F dX7_see_17 rfl rfl ?_
    refine x_V1z (ci := 7) (pc := 18) F dX7_see_18 lk_X7_102 rfl (v_0 (by omega)) rfl rfl (c_X7_isComer _ (by omega) hR0 hI) rfl rfl rfl ?_
    rintro _ _ ⟨rfl, rfl⟩
    refine x_if_eqB (tgt := 32) (pc := 21) F dX7_see_21 rfl (fun h21 => ?_) (fun h21 => ?_)
    · try simp only [decide_eq_true_eq, decide_eq_false_iff_not, Bool.and_eq_true, Bool.or_eq_true, Bool.not_eq_true', Bool.not_eq_false', Bool.and_eq_false_iff, Bool.or_eq_false_iff] at h21
      refine x_iconst (pc := 32) F dX7_see_32 ?_
      refine tq_reti (pc := 33) F dX7_see_33 ?_ rfl rfl rfl
      exact ⟨by unfold seeZ; rw [if_neg (by omega), if_neg (by omega)], by unfold seeT; rw [if_neg (by omega), if_neg (by omega)]; exact hR0, fun o _ => rfl⟩
    · try simp only [decide_eq_true_eq, decide_eq_false_iff_not, Bool.and_eq_true, Bool.or_eq_true, Bool.not_eq_true', Bool.not_eq_false', Bool.and_eq_false_iff, Bool.or_eq_false_iff] at h21
      refine x_iload_n (i := 2) (pc := 24) F dX7_see_24 rfl rfl ?_
      refine x_iconst (pc := 25) F dX7_see_25 ?_
      refine x_S2z (pc := 26) F dX7_see_26 lk_X7_83 rfl (c_isInW _ _ _ (by omega)) rfl rfl rfl ?_
      rintro _ _ ⟨rfl, rfl⟩
      refine x_if_neB (tgt := 34) (pc := 29) F dX7_see_29 rfl (fun h29 => ?_) (fun h29 => ?_)
      · try simp only [decide_eq_true_eq, decide_eq_false_iff_not, Bool.and_eq_true, Bool.or_eq_true, Bool.not_eq_true', Bool.not_eq_false', Bool.and_eq_false_iff, Bool.or_eq_false_iff] at h29
        refine x_aload_n (i := 0) (pc := 34) F dX7_see_34 rfl rfl ?_
        refine gf_X7_62 (pc := 35) F dX7_see_35 (v_0 (by omega)) ?_
        refine gf_X7_232 (pc := 38) F dX7_see_38 (v_1 (by omega)) ?_
        refine x_iload_n (i := 1) (pc := 41) F dX7_see_41 rfl rfl ?_
        refine x_iload_n (i := 2) (pc := 42) F dX7_see_42 rfl rfl ?_
        refine x_iload_n (i := 3) (pc := 43) F dX7_see_43 rfl rfl ?_
        refine x_if_eq (tgt := 51) (pc := 44) F dX7_see_44 rfl (by omega) (fun h44 => ?_) (fun h44 => ?_)
        · refine x_iconst (pc := 51) F dX7_see_51 ?_
          refine x_V3i (ci := 4) (pc := 52) F dX7_see_52 lk_X7_241 rfl (v_6 (by omega)) rfl rfl (c_X4_add c g 0 (by omega) (by omega)) rfl rfl rfl ?_
          rintro z μ1 h
          refine tq_reti (pc := 55) F dX7_see_55 ?_ rfl rfl rfl
          first | have hb1 : b = 1 := (by omega) | have hb1 : b = 0 := (by omega)
          rw [hb1]
          rcases h with ⟨a1, rfl, rfl⟩ | ⟨a1, rfl, u⟩
          · exact ⟨by unfold seeZ; rw [if_neg (by omega), if_pos (by omega), if_pos (by omega)], by unfold seeT; rw [if_neg (by omega), if_neg (by omega)]; exact hR0, fun o _ => rfl⟩
          · exact ⟨by unfold seeZ; rw [if_neg (by omega), if_pos (by omega), if_neg (by omega)]; omega, by unfold seeT; rw [if_neg (by omega), if_pos (by omega)]; exact TR_see hR0 hI (by omega) u, fun o ho => u.2.2 o (by rintro rfl; exact ho ⟨by simp, by simp, rfl⟩) (by rintro rfl; exact ho ⟨by simp, by simp, rfl⟩) (by rintro rfl; exact ho ⟨by simp, by simp, rfl⟩) (by rintro rfl; exact ho ⟨by simp, by simp, rfl⟩)⟩
        · refine x_iconst (pc := 47) F dX7_see_47 ?_
          refine x_goto (tgt := 52) (pc := 48) F dX7_see_48 rfl ?_
          refine x_V3i (ci := 4) (pc := 52) F dX7_see_52 lk_X7_241 rfl (v_6 (by omega)) rfl rfl (c_X4_add c g 1 (by omega) (by omega)) rfl rfl rfl ?_
          rintro z μ1 h
          refine tq_reti (pc := 55) F dX7_see_55 ?_ rfl rfl rfl
          first | have hb1 : b = 1 := (by omega) | have hb1 : b = 0 := (by omega)
          rw [hb1]
          rcases h with ⟨a1, rfl, rfl⟩ | ⟨a1, rfl, u⟩
          · exact ⟨by unfold seeZ; rw [if_neg (by omega), if_pos (by omega), if_pos (by omega)], by unfold seeT; rw [if_neg (by omega), if_neg (by omega)]; exact hR0, fun o _ => rfl⟩
          · exact ⟨by unfold seeZ; rw [if_neg (by omega), if_pos (by omega), if_neg (by omega)]; omega, by unfold seeT; rw [if_neg (by omega), if_pos (by omega)]; exact TR_see hR0 hI (by omega) u, fun o ho => u.2.2 o (by rintro rfl; exact ho ⟨by simp, by simp, rfl⟩) (by rintro rfl; exact ho ⟨by simp, by simp, rfl⟩) (by rintro rfl; exact ho ⟨by simp, by simp, rfl⟩) (by rintro rfl; exact ho ⟨by simp, by simp, rfl⟩)⟩
      · try simp only [decide_eq_true_eq, decide_eq_false_iff_not, Bool.and_eq_true, Bool.or_eq_true, Bool.not_eq_true', Bool.not_eq_false', Bool.and_eq_false_iff, Bool.or_eq_false_iff] at h29
        refine x_iconst (pc := 32) F dX7_see_32 ?_
        refine tq_reti (pc := 33) F dX7_see_33 ?_ rfl rfl rfl
        exact ⟨by unfold seeZ; rw [if_neg (by omega), if_neg (by omega)], by unfold seeT; rw [if_neg (by omega), if_neg (by omega)]; exact hR0, fun o _ => rfl⟩
  · refine x_aload_n (i := 0) (pc := 5) F dX7_see_5 rfl rfl ?_
    refine gf_X7_62 (pc := 6) F dX7_see_6 (v_0 (by omega)) ?_
    refine gf_X7_232 (pc := 9) F dX7_see_9 (v_1 (by omega)) ?_
    refine x_V0i (ci := 4) (pc := 12) F dX7_see_12 lk_X7_236 rfl (v_6 (by omega)) rfl rfl (c_X4_clear (by omega)) rfl rfl rfl ?_
    rintro _ _ ⟨rfl, rfl⟩
    refine tq_reti (pc := 15) F dX7_see_15 ?_ rfl rfl rfl
    refine ⟨by unfold seeZ; rw [if_pos (by omega)], by unfold seeT; rw [if_pos (by omega)]; exact TR_clr hR0 (Or.inl ⟨rfl, rfl⟩), fun o ho => upM_ne (by rintro rfl; exact ho ⟨by simp, by simp, rfl⟩)⟩
set_option maxRecDepth 20000 in
theorem c_X7_book (c n : Int) (hc : -2147483648 ≤ c ∧ c < 2147483648) (hn : -2147483648 ≤ n ∧ n < 2147483648) (hR0 : TR μ 0 T) (hI : TI T) (l : Launch) (E : Ev) (A : Nat → Prop) : Con l E 3 m_X7_book A (VC nh) ad μ [.ref (ad (0, 0, 0)), .int (I c), .int (I n)] (pi fun z μ' => z = bookZ T c n ∧ TR μ' 0 (bookT T c n) ∧ ∀ o, ¬ nwO o → μ' o = μ o) := by
  have hr1 := hR0.2.2.2.2.2.1
  have h0 := hI.2.2.2.2.2.2.2.2.2.1
  have hrs : rsz 2 = 8 := rfl
  refine con (own := RX7) (by decide +kernel) rfl rfl rfl (fun Γ F => ?_)
  refine x_iload_n (i := 1) (pc := 0) F dX7_book_0 rfl rfl ?_
  refine x_iconst (pc := 1) F dX7_book_1 ?_
  refine x_icmp_ne (tgt := 16) (pc := 2) F dX7_book_2 rfl (by omega) (fun h2 => ?_) (fun h2 => ?_)
  · refine x_aload_n (i := 0) (pc := 16) F dX7_book_16 rfl rfl ?_
    refine x_iload_n (i := 1) (pc := 17) F dX7_book_17 rfl rfl ?_
    refine x_V1z (ci := 7) (pc := 18) F dX7_book_18 lk_X7_102 rfl (v_0 (by omega)) rfl rfl (c_X7_isComer _ (by omega) hR0 hI) rfl rfl rfl ?_
    rintro _ _ ⟨rfl, rfl⟩
    refine x_if_neB (tgt := 26) (pc := 21) F dX7_book_21 rfl (fun h21 => ?_) (fun h21 => ?_)
    · try simp only [decide_eq_true_eq, decide_eq_false_iff_not, Bool.and_eq_true, Bool.or_eq_true, Bool.not_eq_true', Bool.not_eq_false', Bool.and_eq_false_iff, Bool.or_eq_false_iff] at h21
      refine x_iload_n (i := 2) (pc := 26) F dX7_book_26 rfl rfl ?_
      refine x_sipush (pc := 27) F dX7_book_27 (by decide) ?_
      refine x_S2z (pc := 30) F dX7_book_30 lk_X7_83 rfl (c_isInW _ _ _ (by omega)) rfl rfl rfl ?_
      rintro _ _ ⟨rfl, rfl⟩
      refine x_if_neB (tgt := 39) (pc := 33) F dX7_book_33 rfl (fun h33 => ?_) (fun h33 => ?_)
      · try simp only [decide_eq_true_eq, decide_eq_false_iff_not, Bool.and_eq_true, Bool.or_eq_true, Bool.not_eq_true', Bool.not_eq_false', Bool.and_eq_false_iff, Bool.or_eq_false_iff] at h33
        refine x_aload_n (i := 0) (pc := 39) F dX7_book_39 rfl rfl ?_
        refine gf_X7_62 (pc := 40) F dX7_book_40 (v_0 (by omega)) ?_
        refine gf_X7_287 (pc := 43) F dX7_book_43 (v_1 (by omega)) ?_
        refine x_iload_n (i := 1) (pc := 46) F dX7_book_46 rfl rfl ?_
        refine x_iload_n (i := 2) (pc := 47) F dX7_book_47 rfl rfl ?_
        refine x_iconst (pc := 48) F dX7_book_48 ?_
        refine x_V3i (ci := 4) (pc := 49) F dX7_book_49 lk_X7_241 rfl (v_6 (by omega)) rfl rfl (c_X4_add c n 0 (by omega) (by omega)) rfl rfl rfl ?_
        rintro z μ1 h
        refine tq_reti (pc := 52) F dX7_book_52 ?_ rfl rfl rfl
        rcases h with ⟨a1, rfl, rfl⟩ | ⟨a1, rfl, u⟩
        · exact ⟨by unfold bookZ; rw [if_neg (by omega), if_pos (by omega), if_pos (by omega), if_pos (by omega)], by unfold bookT; rw [if_neg (by omega), if_neg (by omega)]; exact hR0, fun o _ => rfl⟩
        · exact ⟨by unfold bookZ; rw [if_neg (by omega), if_pos (by omega), if_pos (by omega), if_neg (by omega)]; omega, by unfold bookT; rw [if_neg (by omega), if_pos (by omega)]; exact TR_book hR0 hI (by omega) u, fun o ho => u.2.2 o (by rintro rfl; exact ho ⟨by simp, by simp, rfl⟩) (by rintro rfl; exact ho ⟨by simp, by simp, rfl⟩) (by rintro rfl; exact ho ⟨by simp, by simp, rfl⟩) (by rintro rfl; exact ho ⟨by simp, by simp, rfl⟩)⟩
      · try simp only [decide_eq_true_eq, decide_eq_false_iff_not, Bool.and_eq_true, Bool.or_eq_true, Bool.not_eq_true', Bool.not_eq_false', Bool.and_eq_false_iff, Bool.or_eq_false_iff] at h33
        refine x_bipush (pc := 36) F dX7_book_36 (by decide) ?_
        refine tq_reti (pc := 38) F dX7_book_38 ?_ rfl rfl rfl
        exact ⟨by unfold bookZ; rw [if_neg (by omega), if_pos (by omega), if_neg (by omega)], by unfold bookT; rw [if_neg (by omega), if_neg (by omega)]; exact hR0, fun o _ => rfl⟩
    · try simp only [decide_eq_true_eq, decide_eq_false_iff_not, Bool.and_eq_true, Bool.or_eq_true, Bool.not_eq_true', Bool.not_eq_false', Bool.and_eq_false_iff, Bool.or_eq_false_iff] at h21
      refine x_iconst (pc := 24) F dX7_book_24 ?_
      refine tq_reti (pc := 25) F dX7_book_25 ?_ rfl rfl rfl
      exact ⟨by unfold bookZ; rw [if_neg (by omega), if_neg (by omega)], by unfold bookT; rw [if_neg (by omega), if_neg (by omega)]; exact hR0, fun o _ => rfl⟩
  · refine x_aload_n (i := 0) (pc := 5) F dX7_book_5 rfl rfl ?_
    refine gf_X7_62 (pc := 6) F dX7_book_6 (v_0 (by omega)) ?_
    refine gf_X7_287 (pc := 9) F dX7_book_9 (v_1 (by omega)) ?_
    refine x_V0i (ci := 4) (pc := 12) F dX7_book_12 lk_X7_236 rfl (v_6 (by omega)) rfl rfl (c_X4_clear (by omega)) rfl rfl rfl ?_
    rintro _ _ ⟨rfl, rfl⟩
    refine tq_reti (pc := 15) F dX7_book_15 ?_ rfl rfl rfl
    refine ⟨by unfold bookZ; rw [if_pos (by omega)], by unfold bookT; rw [if_pos (by omega)]; exact TR_clr hR0 (Or.inr (Or.inr ⟨rfl, rfl⟩)), fun o ho => upM_ne (by rintro rfl; exact ho ⟨by simp, by simp, rfl⟩)⟩
set_option maxRecDepth 20000 in
theorem c_X7_isInPlan (a n : Int) (hc : -2147483648 ≤ a ∧ a < 2147483648) (hn : -2147483648 ≤ n ∧ n < 2147483648) (hR0 : TR μ 0 T) (hI : TI T) (l : Launch) (E : Ev) (A : Nat → Prop) : Con l E 2 m_X7_isInPlan A (VC nh) ad μ [.ref (ad (0, 0, 0)), .int (I a), .int (I n)] (pz fun z μ' => (z = true ↔ PI1 T a n) ∧ μ = μ') := by
  have h76 := hI.2.2.1
  refine con (own := RX7) (by decide +kernel) rfl rfl rfl (fun Γ F => ?_)
  refine x_iload_n (i := 1) (pc := 0) F dX7_isInPlan_0 rfl rfl ?_
  refine x_tab (ts := [32, 34, 60, 66]) (dt := 72) (pc := 1) F dX7_isInPlan_1 rfl rfl (by omega) ⟨fun h1 => ?_, fun h1 => ?_, fun h1 => ?_, fun h1 => ?_, trivial⟩ (fun h1 => ?_)
  · refine x_iconst (pc := 32) F dX7_isInPlan_32 ?_
    refine tq_retz (b := true) (pc := 33) F dX7_isInPlan_33 ?_ rfl rfl rfl
    exact ⟨⟨fun _ => Or.inl (by omega), fun _ => rfl⟩, rfl⟩
  · refine x_iload_n (i := 2) (pc := 34) F dX7_isInPlan_34 rfl rfl ?_
    refine x_bipush (pc := 35) F dX7_isInPlan_35 (by decide) ?_
    refine x_S2z (pc := 37) F dX7_isInPlan_37 lk_X7_83 rfl (c_isInW _ _ _ (by omega)) rfl rfl rfl ?_
    rintro _ _ ⟨rfl, rfl⟩
    refine x_if_eqB (tgt := 58) (pc := 40) F dX7_isInPlan_40 rfl (fun h40 => ?_) (fun h40 => ?_)
    · try simp only [decide_eq_true_eq, decide_eq_false_iff_not, Bool.and_eq_true, Bool.or_eq_true, Bool.not_eq_true', Bool.not_eq_false', Bool.and_eq_false_iff, Bool.or_eq_false_iff] at h40
      refine x_iconst (pc := 58) F dX7_isInPlan_58 ?_
      refine tq_retz (b := false) (pc := 59) F dX7_isInPlan_59 ?_ rfl rfl rfl
      first | exact ⟨⟨fun _ => by unfold PI1; omega, fun _ => rfl⟩, rfl⟩ | exact ⟨⟨fun z => (by cases z), fun z => (by unfold PI1 at z; omega)⟩, rfl⟩
    · try simp only [decide_eq_true_eq, decide_eq_false_iff_not, Bool.and_eq_true, Bool.or_eq_true, Bool.not_eq_true', Bool.not_eq_false', Bool.and_eq_false_iff, Bool.or_eq_false_iff] at h40
      refine x_aload_n (i := 0) (pc := 43) F dX7_isInPlan_43 rfl rfl ?_
      refine x_iload_n (i := 2) (pc := 44) F dX7_isInPlan_44 rfl rfl ?_
      refine x_bipush (pc := 45) F dX7_isInPlan_45 (by decide) ?_
      refine tq_irem (pc := 47) F dX7_isInPlan_47 (by omega) ?_
      refine x_V1z (ci := 7) (pc := 48) F dX7_isInPlan_48 lk_X7_102 rfl (v_0 (by omega)) rfl rfl (c_X7_isComer _ (by omega) hR0 hI) rfl rfl rfl ?_
      rintro _ _ ⟨rfl, rfl⟩
      refine x_if_eqB (tgt := 58) (pc := 51) F dX7_isInPlan_51 rfl (fun h51 => ?_) (fun h51 => ?_)
      · try simp only [decide_eq_true_eq, decide_eq_false_iff_not, Bool.and_eq_true, Bool.or_eq_true, Bool.not_eq_true', Bool.not_eq_false', Bool.and_eq_false_iff, Bool.or_eq_false_iff] at h51
        refine x_iconst (pc := 58) F dX7_isInPlan_58 ?_
        refine tq_retz (b := false) (pc := 59) F dX7_isInPlan_59 ?_ rfl rfl rfl
        first | exact ⟨⟨fun _ => by unfold PI1; omega, fun _ => rfl⟩, rfl⟩ | exact ⟨⟨fun z => (by cases z), fun z => (by unfold PI1 at z; omega)⟩, rfl⟩
      · try simp only [decide_eq_true_eq, decide_eq_false_iff_not, Bool.and_eq_true, Bool.or_eq_true, Bool.not_eq_true', Bool.not_eq_false', Bool.and_eq_false_iff, Bool.or_eq_false_iff] at h51
        refine x_iconst (pc := 54) F dX7_isInPlan_54 ?_
        refine x_goto (tgt := 59) (pc := 55) F dX7_isInPlan_55 rfl ?_
        refine tq_retz (b := true) (pc := 59) F dX7_isInPlan_59 ?_ rfl rfl rfl
        first | exact ⟨⟨fun _ => by unfold PI1; omega, fun _ => rfl⟩, rfl⟩ | exact ⟨⟨fun z => (by cases z), fun z => (by unfold PI1 at z; omega)⟩, rfl⟩
  · refine x_iload_n (i := 2) (pc := 60) F dX7_isInPlan_60 rfl rfl ?_
    refine x_iconst (pc := 61) F dX7_isInPlan_61 ?_
    refine x_S2z (pc := 62) F dX7_isInPlan_62 lk_X7_83 rfl (c_isInW _ _ _ (by omega)) rfl rfl rfl ?_
    rintro _ _ ⟨rfl, rfl⟩
    refine tq_retz (pc := 65) F dX7_isInPlan_65 ?_ rfl rfl rfl
    exact ⟨by rw [decide_eq_true_eq]; unfold PI1; omega, rfl⟩
  · refine x_aload_n (i := 0) (pc := 66) F dX7_isInPlan_66 rfl rfl ?_
    refine x_iload_n (i := 2) (pc := 67) F dX7_isInPlan_67 rfl rfl ?_
    refine x_V1z (ci := 7) (pc := 68) F dX7_isInPlan_68 lk_X7_102 rfl (v_0 (by omega)) rfl rfl (c_X7_isComer _ (by omega) hR0 hI) rfl rfl rfl ?_
    rintro _ _ ⟨rfl, rfl⟩
    refine tq_retz (pc := 71) F dX7_isInPlan_71 ?_ rfl rfl rfl
    exact ⟨by rw [decide_eq_true_eq]; unfold PI1; omega, rfl⟩
  · refine x_iconst (pc := 72) F dX7_isInPlan_72 ?_
    refine tq_retz (b := false) (pc := 73) F dX7_isInPlan_73 ?_ rfl rfl rfl
    exact ⟨⟨fun z => (by cases z), fun z => (by unfold PI1 at z; omega)⟩, rfl⟩
set_option maxRecDepth 20000 in
theorem c_X7_plan (a n : Int) (hc : -2147483648 ≤ a ∧ a < 2147483648) (hn : -2147483648 ≤ n ∧ n < 2147483648) (hR0 : TR μ 0 T) (hI : TI T) (l : Launch) (E : Ev) (A : Nat → Prop) : Con l E 3 m_X7_plan A (VC nh) ad μ [.ref (ad (0, 0, 0)), .int (I a), .int (I n)] (pi fun z μ' => z = planZ T a n ∧ TR μ' 0 (planT T a n) ∧ ∀ o, ¬ nwO o → μ' o = μ o) := by
  have hr1 := hR0.2.2.2.2.1.1
  have h0 := hI.2.2.2.2.2.2.2.1
  have hrs : rsz 1 = 10 := rfl
  refine con (own := RX7) (by decide +kernel) rfl rfl rfl (fun Γ F => ?_)
  refine x_iload_n (i := 1) (pc := 0) F dX7_plan_0 rfl rfl ?_
  refine x_iconst (pc := 1) F dX7_plan_1 ?_
  refine x_icmp_ne (tgt := 16) (pc := 2) F dX7_plan_2 rfl (by omega) (fun h2 => ?_) (fun h2 => ?_)
  · refine x_aload_n (i := 0) (pc := 16) F dX7_plan_16 rfl rfl ?_
    refine x_iload_n (i := 1) (pc := 17) F dX7_plan_17 rfl rfl ?_
    refine x_iload_n (i := 2) (pc := 18) F dX7_plan_18 rfl rfl ?_
    refine x_V2z (ci := 7) (pc := 19) F dX7_plan_19 lk_X7_281 rfl (v_0 (by omega)) rfl rfl (c_X7_isInPlan a n hc hn hR0 hI) rfl rfl rfl ?_
    rintro b _ ⟨hb, rfl⟩
    refine x_if_neB (tgt := 27) (pc := 22) F dX7_plan_22 rfl (fun h22 => ?_) (fun h22 => ?_)
    · try simp only [decide_eq_true_eq, decide_eq_false_iff_not, Bool.and_eq_true, Bool.or_eq_true, Bool.not_eq_true', Bool.not_eq_false', Bool.and_eq_false_iff, Bool.or_eq_false_iff] at h22
      refine x_aload_n (i := 0) (pc := 27) F dX7_plan_27 rfl rfl ?_
      refine gf_X7_62 (pc := 28) F dX7_plan_28 (v_0 (by omega)) ?_
      refine gf_X7_278 (pc := 31) F dX7_plan_31 (v_1 (by omega)) ?_
      refine x_iload_n (i := 1) (pc := 34) F dX7_plan_34 rfl rfl ?_
      refine x_iload_n (i := 2) (pc := 35) F dX7_plan_35 rfl rfl ?_
      refine x_iconst (pc := 36) F dX7_plan_36 ?_
      refine x_V3i (ci := 4) (pc := 37) F dX7_plan_37 lk_X7_241 rfl (v_6 (by omega)) rfl rfl (c_X4_add a n 0 (by omega) (by omega)) rfl rfl rfl ?_
      rintro z μ1 h
      refine tq_reti (pc := 40) F dX7_plan_40 ?_ rfl rfl rfl
      have hp := hb.mp h22
      rcases h with ⟨a1, rfl, rfl⟩ | ⟨a1, rfl, u⟩
      · exact ⟨by unfold planZ; rw [if_neg (by omega), if_pos hp, if_pos (by omega)], by unfold planT; rw [if_neg (by omega), if_neg (fun z => by omega)]; exact hR0, fun o _ => rfl⟩
      · exact ⟨by unfold planZ; rw [if_neg (by omega), if_pos hp, if_neg (by omega)]; omega, by unfold planT; rw [if_neg (by omega), if_pos ⟨hp, by omega⟩]; exact TR_plan hR0 hI (by omega) u, fun o ho => u.2.2 o (by rintro rfl; exact ho ⟨by simp, by simp, rfl⟩) (by rintro rfl; exact ho ⟨by simp, by simp, rfl⟩) (by rintro rfl; exact ho ⟨by simp, by simp, rfl⟩) (by rintro rfl; exact ho ⟨by simp, by simp, rfl⟩)⟩
    · try simp only [decide_eq_true_eq, decide_eq_false_iff_not, Bool.and_eq_true, Bool.or_eq_true, Bool.not_eq_true', Bool.not_eq_false', Bool.and_eq_false_iff, Bool.or_eq_false_iff] at h22
      refine x_iconst (pc := 25) F dX7_plan_25 ?_
      refine tq_reti (pc := 26) F dX7_plan_26 ?_ rfl rfl rfl
      have hp : ¬ PI1 T a n := fun z => by have := hb.mpr z; rw [h22] at this; cases this
      exact ⟨by unfold planZ; rw [if_neg (by omega), if_neg hp], by unfold planT; rw [if_neg (by omega), if_neg (fun z => hp z.1)]; exact hR0, fun o _ => rfl⟩
  · refine x_aload_n (i := 0) (pc := 5) F dX7_plan_5 rfl rfl ?_
    refine gf_X7_62 (pc := 6) F dX7_plan_6 (v_0 (by omega)) ?_
    refine gf_X7_278 (pc := 9) F dX7_plan_9 (v_1 (by omega)) ?_
    refine x_V0i (ci := 4) (pc := 12) F dX7_plan_12 lk_X7_236 rfl (v_6 (by omega)) rfl rfl (c_X4_clear (by omega)) rfl rfl rfl ?_
    rintro _ _ ⟨rfl, rfl⟩
    refine tq_reti (pc := 15) F dX7_plan_15 ?_ rfl rfl rfl
    refine ⟨by unfold planZ; rw [if_pos (by omega)], by unfold planT; rw [if_pos (by omega)]; exact TR_clr hR0 (Or.inr (Or.inl ⟨rfl, rfl⟩)), fun o ho => upM_ne (by rintro rfl; exact ho ⟨by simp, by simp, rfl⟩)⟩
set_option maxRecDepth 20000 in
theorem c_X7_wrong (hR0 : TR μ 0 T) (hI : TI T) (hH : HRel μ nh (T 78) S) (hd : T 77 ≤ 9999) (l : Launch) (E : Ev) (A : Nat → Prop) : Con l E 5 m_X7_wrong A (VC nh) ad μ [.ref (ad (0, 0, 0))] (pi fun z μ' => z = wrongZ S T ∧ μ = μ') := by
  have h76 := hI.2.2.1
  have h79 := hI.2.2.2.2.2.1
  obtain ⟨r1, r2⟩ := hR0.2.2.2.1
  have hrs : rsz 0 = 5 := rfl
  refine con (own := RX7) (by decide +kernel) rfl rfl rfl (fun Γ F => ?_)
  have loop : ∀ (N : Nat) (n : Nat), T 79 - n < N → n ≤ T 79 → wrongZ S T = firstF (fun r => ¬ soP S T r) ((T 79).toNat - n) n → XX Γ 4 (VC nh) ad (vl ad μ) 0 0 10 [(0, .ref (ad (0, 0, 0))), (1, .ref (ad (6, 0, 0))), (2, .int (I n))] [] := by
    intro N
    induction N with
    | zero => intro n a1 a2; omega
    | succ N ih =>
      intro n a1 a2 a3
      refine x_iload_n (i := 2) (pc := 10) F dX7_wrong_10 rfl rfl ?_
      refine x_aload_n (i := 1) (pc := 11) F dX7_wrong_11 rfl rfl ?_
      refine gf_X7_244 (pc := 12) F dX7_wrong_12 (v_6 (by omega)) ?_
      refine x_icmp_ge (tgt := 73) (pc := 15) F dX7_wrong_15 rfl (by omega) (fun h15 => ?_) (fun h15 => ?_)
      · refine x_bipush (pc := 73) F dX7_wrong_73 (by decide) ?_
        refine tq_reti (pc := 75) F dX7_wrong_75 ?_ rfl rfl rfl
        rw [show (T 79).toNat - n = 0 by omega] at a3
        exact ⟨a3.symm, rfl⟩
      · refine x_aload_n (i := 0) (pc := 18) F dX7_wrong_18 rfl rfl ?_
        refine gf_X7_62 (pc := 19) F dX7_wrong_19 (v_0 (by omega)) ?_
        refine x_aload_n (i := 0) (pc := 22) F dX7_wrong_22 rfl rfl ?_
        refine gf_X7_62 (pc := 23) F dX7_wrong_23 (v_0 (by omega)) ?_
        refine gf_X7_94 (pc := 26) F dX7_wrong_26 (v_1 (by omega)) ?_
        refine x_aload_n (i := 1) (pc := 29) F dX7_wrong_29 rfl rfl ?_
        refine gf_X7_245 (pc := 30) F dX7_wrong_30 (v_6 (by omega)) ?_
        refine x_iload_n (i := 2) (pc := 33) F dX7_wrong_33 rfl rfl ?_
        obtain ⟨w1, w2, w3⟩ := r2 n (by omega) (by omega)
        obtain ⟨i1, i2, i3⟩ := hI.2.2.2.2.2.2.1 n (by omega) (by omega)
        refine tq_ia (pc := 34) F dX7_wrong_34 (v_7 (by omega)) sh_7 (fun _ => rfl) (by omega) ?_
        rw [w1]
        refine tq_pa (pc := 35) F dX7_wrong_35 (v_11 (by omega)) (by omega) ?_
        refine x_aload_n (i := 1) (pc := 36) F dX7_wrong_36 rfl rfl ?_
        refine gf_X7_248 (pc := 37) F dX7_wrong_37 (v_6 (by omega)) ?_
        refine x_iload_n (i := 2) (pc := 40) F dX7_wrong_40 rfl rfl ?_
        refine tq_ia (pc := 41) F dX7_wrong_41 (v_8 (by omega)) sh_8 (fun _ => rfl) (by omega) ?_
        rw [w2]
        refine x_V2z (ci := 6) (pc := 42) F dX7_wrong_42 lk_X7_106 rfl (v_1 (by omega)) rfl rfl (c_X6_letsBy (hR0.town hI hH (by omega) (by omega)) (hR0.comer hI (by omega) (by omega) (by omega)) (by omega) (hR0.gate hI (by omega))) rfl rfl rfl ?_
        rintro b _ ⟨hb, rfl⟩
        rw [hR0.let hH hI (by omega) (by omega)] at hb
        have hpb := pI_b hb
        have hbr := bI_rg b
        refine x_istore_n (i := 3) (pc := 45) F dX7_wrong_45 rfl rfl ?_
        refine x_iload_n (i := 3) (pc := 46) F dX7_wrong_46 rfl rfl ?_
        refine x_aload_n (i := 1) (pc := 47) F dX7_wrong_47 rfl rfl ?_
        refine gf_X7_251 (pc := 48) F dX7_wrong_48 (v_6 (by omega)) ?_
        refine x_iload_n (i := 2) (pc := 51) F dX7_wrong_51 rfl rfl ?_
        refine tq_ia (pc := 52) F dX7_wrong_52 (v_9 (by omega)) sh_9 (fun _ => rfl) (by omega) ?_
        rw [w3]
        refine x_iconst (pc := 53) F dX7_wrong_53 ?_
        refine x_icmp_ne (tgt := 61) (pc := 54) F dX7_wrong_54 rfl (by omega) (fun h54 => ?_) (fun h54 => ?_)
        · refine x_iconst (pc := 61) F dX7_wrong_61 ?_
          refine x_icmp_eq (tgt := 67) (pc := 62) F dX7_wrong_62 rfl (by omega) (fun h62 => ?_) (fun h62 => ?_)
          · have hf := firstF_f (P := fun r : Nat => ¬ soP S T r) (f := (T 79).toNat - (n + 1)) (n := n)
            rw [show (T 79).toNat - (n + 1) + 1 = (T 79).toNat - n by omega] at hf
            have hso : soP S T n := by unfold soP; rw [← pI_1 (P := LTg S T _ _)]; omega
            refine x_iinc (pc := 67) F dX7_wrong_67 rfl rfl ?_
            refine x_goto (tgt := 10) (pc := 70) F dX7_wrong_70 rfl ?_
            rw [hf (fun q => q hso)] at a3
            exact x_sub (L' := [(0, .ref (ad (0, 0, 0))), (1, .ref (ad (6, 0, 0))), (2, .int (I ((n + 1 : Nat) : Int)))]) ⟨rfl, rfl, rfl, trivial⟩ (ih (n + 1) (by omega) (by omega) a3)
          · have ht := firstF_t (P := fun r : Nat => ¬ soP S T r) (f := (T 79).toNat - (n + 1)) (n := n)
            rw [show (T 79).toNat - (n + 1) + 1 = (T 79).toNat - n by omega] at ht
            have hso : ¬ soP S T n := by unfold soP; rw [← pI_1 (P := LTg S T _ _)]; omega
            refine x_iload_n (i := 2) (pc := 65) F dX7_wrong_65 rfl rfl ?_
            refine tq_reti (pc := 66) F dX7_wrong_66 ?_ rfl rfl rfl
            rw [ht hso] at a3
            exact ⟨a3.symm, rfl⟩
        · refine x_iconst (pc := 57) F dX7_wrong_57 ?_
          refine x_goto (tgt := 62) (pc := 58) F dX7_wrong_58 rfl ?_
          refine x_icmp_eq (tgt := 67) (pc := 62) F dX7_wrong_62 rfl (by omega) (fun h62 => ?_) (fun h62 => ?_)
          · have hf := firstF_f (P := fun r : Nat => ¬ soP S T r) (f := (T 79).toNat - (n + 1)) (n := n)
            rw [show (T 79).toNat - (n + 1) + 1 = (T 79).toNat - n by omega] at hf
            have hso : soP S T n := by unfold soP; rw [← pI_1 (P := LTg S T _ _)]; omega
            refine x_iinc (pc := 67) F dX7_wrong_67 rfl rfl ?_
            refine x_goto (tgt := 10) (pc := 70) F dX7_wrong_70 rfl ?_
            rw [hf (fun q => q hso)] at a3
            exact x_sub (L' := [(0, .ref (ad (0, 0, 0))), (1, .ref (ad (6, 0, 0))), (2, .int (I ((n + 1 : Nat) : Int)))]) ⟨rfl, rfl, rfl, trivial⟩ (ih (n + 1) (by omega) (by omega) a3)
          · have ht := firstF_t (P := fun r : Nat => ¬ soP S T r) (f := (T 79).toNat - (n + 1)) (n := n)
            rw [show (T 79).toNat - (n + 1) + 1 = (T 79).toNat - n by omega] at ht
            have hso : ¬ soP S T n := by unfold soP; rw [← pI_1 (P := LTg S T _ _)]; omega
            refine x_iload_n (i := 2) (pc := 65) F dX7_wrong_65 rfl rfl ?_
            refine tq_reti (pc := 66) F dX7_wrong_66 ?_ rfl rfl rfl
            rw [ht hso] at a3
            exact ⟨a3.symm, rfl⟩
  refine x_aload_n (i := 0) (pc := 0) F dX7_wrong_0 rfl rfl ?_
  refine gf_X7_62 (pc := 1) F dX7_wrong_1 (v_0 (by omega)) ?_
  refine gf_X7_232 (pc := 4) F dX7_wrong_4 (v_1 (by omega)) ?_
  refine x_astore_n (i := 1) (pc := 7) F dX7_wrong_7 rfl rfl ?_
  refine x_iconst (pc := 8) F dX7_wrong_8 ?_
  refine x_istore_n (i := 2) (pc := 9) F dX7_wrong_9 rfl rfl ?_
  exact x_sub (L' := [(0, .ref (ad (0, 0, 0))), (1, .ref (ad (6, 0, 0))), (2, .int (I ((0 : Nat) : Int)))]) ⟨rfl, rfl, rfl, trivial⟩ (loop 6 0 (by omega) (by omega) (by rw [Nat.sub_zero]; rfl))
set_option maxRecDepth 20000 in
theorem c_X7_looked (hR0 : TR μ 0 T) (hI : TI T) (hd : T 77 ≤ 9999) (l : Launch) (E : Ev) (A : Nat → Prop) : Con l E 1 m_X7_looked A (VC nh) ad μ [.ref (ad (0, 0, 0))] (pi fun z μ' => z = lookedZ T ∧ μ = μ') := by
  have h76 := hI.2.2.1
  have h79 := hI.2.2.2.2.2.2.2.2.2.1
  obtain ⟨r1, r2⟩ := hR0.2.2.2.2.2
  have hrs : rsz 2 = 8 := rfl
  refine con (own := RX7) (by decide +kernel) rfl rfl rfl (fun Γ F => ?_)
  have loop : ∀ (N : Nat) (n : Nat), T 116 - n < N → n ≤ T 116 → lookedZ T = firstF (fun r => T (21 + 10 * T (117 + 2 * (r : Int))) ≠ T (118 + 2 * (r : Int))) ((T 116).toNat - n) n → XX Γ 3 (VC nh) ad (vl ad μ) 0 0 10 [(0, .ref (ad (0, 0, 0))), (1, .ref (ad (6, 0, 2))), (2, .int (I n))] [] := by
    intro N
    induction N with
    | zero => intro n a1 a2; omega
    | succ N ih =>
      intro n a1 a2 a3
      refine x_iload_n (i := 2) (pc := 10) F dX7_looked_10 rfl rfl ?_
      refine x_aload_n (i := 1) (pc := 11) F dX7_looked_11 rfl rfl ?_
      refine gf_X7_244 (pc := 12) F dX7_looked_12 (v_6 (by omega)) ?_
      refine x_icmp_ge (tgt := 52) (pc := 15) F dX7_looked_15 rfl (by omega) (fun h15 => ?_) (fun h15 => ?_)
      · refine x_bipush (pc := 52) F dX7_looked_52 (by decide) ?_
        refine tq_reti (pc := 54) F dX7_looked_54 ?_ rfl rfl rfl
        rw [show (T 116).toNat - n = 0 by omega] at a3
        exact ⟨a3.symm, rfl⟩
      · refine x_aload_n (i := 0) (pc := 18) F dX7_looked_18 rfl rfl ?_
        refine gf_X7_62 (pc := 19) F dX7_looked_19 (v_0 (by omega)) ?_
        refine gf_X7_94 (pc := 22) F dX7_looked_22 (v_1 (by omega)) ?_
        refine x_aload_n (i := 1) (pc := 25) F dX7_looked_25 rfl rfl ?_
        refine gf_X7_245 (pc := 26) F dX7_looked_26 (v_6 (by omega)) ?_
        refine x_iload_n (i := 2) (pc := 29) F dX7_looked_29 rfl rfl ?_
        obtain ⟨w1, w2⟩ := r2 n (by omega) (by omega)
        obtain ⟨i1, i3⟩ := hI.2.2.2.2.2.2.2.2.2.2 n (by omega) (by omega)
        have hps := (hR0.2.1 (T (117 + 2 * n)) (by omega) (by omega)).2.2.2.2.2.2.1
        have hpr := (hI.2.1 (T (117 + 2 * n)) (by omega) (by omega)).2.2.2.2.2.1
        refine tq_ia (pc := 30) F dX7_looked_30 (v_7 (by omega)) sh_7 (fun _ => rfl) (by omega) ?_
        rw [w1]
        refine tq_pa (pc := 31) F dX7_looked_31 (v_11 (by omega)) (by omega) ?_
        refine gf_X7_129 (pc := 32) F dX7_looked_32 (v_4 (by omega)) ?_
        refine x_aload_n (i := 1) (pc := 35) F dX7_looked_35 rfl rfl ?_
        refine gf_X7_248 (pc := 36) F dX7_looked_36 (v_6 (by omega)) ?_
        refine x_iload_n (i := 2) (pc := 39) F dX7_looked_39 rfl rfl ?_
        refine tq_ia (pc := 40) F dX7_looked_40 (v_8 (by omega)) sh_8 (fun _ => rfl) (by omega) ?_
        rw [w2, hps]
        refine x_icmp_eq (tgt := 46) (pc := 41) F dX7_looked_41 rfl (by omega) (fun h41 => ?_) (fun h41 => ?_)
        · have hf := firstF_f (P := fun r : Nat => T (21 + 10 * T (117 + 2 * (r : Int))) ≠ T (118 + 2 * (r : Int))) (f := (T 116).toNat - (n + 1)) (n := n)
          rw [show (T 116).toNat - (n + 1) + 1 = (T 116).toNat - n by omega] at hf
          refine x_iinc (pc := 46) F dX7_looked_46 rfl rfl ?_
          refine x_goto (tgt := 10) (pc := 49) F dX7_looked_49 rfl ?_
          rw [hf (fun q => q h41)] at a3
          exact x_sub (L' := [(0, .ref (ad (0, 0, 0))), (1, .ref (ad (6, 0, 2))), (2, .int (I ((n + 1 : Nat) : Int)))]) ⟨rfl, rfl, rfl, trivial⟩ (ih (n + 1) (by omega) (by omega) a3)
        · have ht := firstF_t (P := fun r : Nat => T (21 + 10 * T (117 + 2 * (r : Int))) ≠ T (118 + 2 * (r : Int))) (f := (T 116).toNat - (n + 1)) (n := n)
          rw [show (T 116).toNat - (n + 1) + 1 = (T 116).toNat - n by omega] at ht
          refine x_iload_n (i := 2) (pc := 44) F dX7_looked_44 rfl rfl ?_
          refine tq_reti (pc := 45) F dX7_looked_45 ?_ rfl rfl rfl
          rw [ht h41] at a3
          exact ⟨a3.symm, rfl⟩
  refine x_aload_n (i := 0) (pc := 0) F dX7_looked_0 rfl rfl ?_
  refine gf_X7_62 (pc := 1) F dX7_looked_1 (v_0 (by omega)) ?_
  refine gf_X7_287 (pc := 4) F dX7_looked_4 (v_1 (by omega)) ?_
  refine x_astore_n (i := 1) (pc := 7) F dX7_looked_7 rfl rfl ?_
  refine x_iconst (pc := 8) F dX7_looked_8 ?_
  refine x_istore_n (i := 2) (pc := 9) F dX7_looked_9 rfl rfl ?_
  exact x_sub (L' := [(0, .ref (ad (0, 0, 0))), (1, .ref (ad (6, 0, 2))), (2, .int (I ((0 : Nat) : Int)))]) ⟨rfl, rfl, rfl, trivial⟩ (loop 9 0 (by omega) (by omega) (by rw [Nat.sub_zero]; rfl))
end CLS6
