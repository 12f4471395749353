/-! ===== the class: lessons ===== -/
/-- the town behind r lessons at g; the row's last place is the last lesson -/
def teL (T : Tn) (g m : Int) : Nat → Int → Tn
  | 0, _ => T
  | r + 1, row => tauT (teL T g m r (row / m)) g (T (18 + 10 * (row % m)))
theorem teL_o {T : Tn} {g m k : Int} (h : k < 4 * g ∨ 4 * g + 3 < k) : ∀ (r : Nat) (row : Int), teL T g m r row k = T k
  | 0, _ => rfl
  | r + 1, row => by
    simp only [teL]
    rw [tauT_o h, teL_o h r]
theorem teL_TI {T : Tn} {g m : Int} (h : TI T) (hg : 0 ≤ g ∧ g < 4) (hm : 0 < m ∧ m ≤ 6) : ∀ (r : Nat) (row : Int), TI (teL T g m r row)
  | 0, _ => h
  | r + 1, row => by
    have h1 := Int.emod_nonneg row (show m ≠ 0 by omega)
    have h2 := Int.emod_lt_of_pos row (show 0 < m by omega)
    exact tauT_TI (teL_TI h hg hm r _) hg (h.2.1 (row % m) h1 (by omega)).2.2.1
/-- row, its last j places cut off -/
def divN (row m : Int) : Nat → Int
  | 0 => row
  | j + 1 => divN row m j / m
theorem divN_rg {row m : Int} (h : 0 ≤ row) (hm : 0 < m) : ∀ j : Nat, 0 ≤ divN row m j ∧ divN row m j ≤ row
  | 0 => ⟨h, Int.le_refl _⟩
  | j + 1 => by
    have ih := divN_rg h hm j
    simp only [divN]
    have h1 := Int.ediv_nonneg ih.1 (show 0 ≤ m by omega)
    have h2 := Int.ediv_le_self m ih.1
    omega
noncomputable def lesF (S : Hs) (T : Tn) (g : Int) (n : Nat) (row : Int) : Int := cntP (fun p => LTg S (teL T g (T 76) n row) p g) (T 76).toNat
noncomputable def lesB (S : Hs) (T : Tn) (g : Int) (n : Nat) : Int × Int := maxL (lesF S T g n) ((T 76).toNat ^ n)
noncomputable def lessonsZ (S : Hs) (T : Tn) (g n k : Int) : Int := if (0 ≤ g ∧ g < 4) ∧ -1 ≤ k ∧ k < 3 then (if 1 ≤ n ∧ n ≤ 3 then (if T 76 = 0 then (if k = -1 then 0 else -5) else if k = -1 then (lesB S T g n.toNat).2 else if k < n then divN (lesB S T g n.toNat).1 (T 76) (n - 1 - k).toNat % T 76 else -5) else -2) else -1
theorem lesF_rg {S : Hs} {T : Tn} (g : Int) (n : Nat) (row : Int) (h : 0 ≤ T 76) : 0 ≤ lesF S T g n row ∧ lesF S T g n row ≤ T 76 := by
  have := cntP_rg (fun p => LTg S (teL T g (T 76) n row) p g) (T 76).toNat
  unfold lesF
  omega
theorem lkT_c {S : Hs} {T X : Tn} {p g w : Int} (h : ∀ k, 16 ≤ k → X k = T k) (hp : 0 ≤ p) (hg : 0 ≤ g) : lkT S X p g w = lkT S T p g w := by
  unfold lkT lbT vsT
  simp only [h _ (show (16 : Int) ≤ 77 by decide), h (16 + 10 * p) (by omega), h (17 + 10 * p) (by omega), h (18 + 10 * p) (by omega), h (19 + 10 * p) (by omega), h (20 + 10 * p) (by omega), h (22 + 10 * p + g) (by omega)]
/-- the trial Gate is the town X's gate g -/
def TG (μ : Me) (X : Tn) (g : Int) : Prop := μ (2, 3, 0) 1 = X (4 * g) ∧ ∀ k, 0 ≤ k → k < 3 → μ (3, 3, 0) k = X (4 * g + 1 + k)
theorem TG_tau {μ μ' : Me} {X : Tn} {g w : Int} (h : TG μ X g) (e1 : μ' (2, 3, 0) 1 = lernK (μ (2, 3, 0) 1)) (e2 : ∀ k, 0 ≤ k → k < 3 → μ' (3, 3, 0) k = lernG (μ (2, 3, 0) 1) (μ (3, 3, 0)) w k) : TG μ' (tauT X g w) g := by
  obtain ⟨g0, g1⟩ := h
  refine ⟨?_, fun k x y => ?_⟩
  · unfold tauT; rw [if_pos rfl, e1, g0]
  · unfold tauT
    rw [if_neg (by omega), if_pos (by omega), e2 k x y, g0, show 4 * g + 1 + k - (4 * g + 1) = k by omega]
    exact lernG_c g1 ⟨x, y⟩
section CLS5
variable {ad : Ob → Nat} {μ : Me} {nh : Int} {T : Tn} {S : Hs}
set_option maxRecDepth 20000 in
theorem c_X7_pupil (row k : Int) (n : Nat) (hr : 0 ≤ row ∧ row < 1000) (hn : n ≤ 3) (hk : 0 ≤ k ∧ k < n) (hR0 : TR μ 0 T) (hI : TI T) (hm0 : 0 < T 76) (l : Launch) (E : Ev) (A : Nat → Prop) : Con l E 1 m_X7_pupil A (VC nh) ad μ [.ref (ad (0, 0, 0)), .int (I row), .int (I n), .int (I k)] (pi fun z μ' => z = divN row (T 76) (n - 1 - k).toNat % T 76 ∧ μ = μ') := by
  have h76 := hI.2.2.1
  have hm : μ (1, 0, 0) 5 = T 76 := hR0.2.2.1.1
  refine con (own := RX7) (by decide +kernel) rfl rfl rfl (fun Γ F => ?_)
  have loop : ∀ (N : Nat) (j : Nat), n - (k + 1 + j) < N → k + 1 + j ≤ n → XX Γ 6 (VC nh) ad (vl ad μ) 0 0 20 [(0, .ref (ad (0, 0, 0))), (1, .int (I row)), (2, .int (I n)), (3, .int (I k)), (4, .int (I (divN row (T 76) j))), (5, .int (I (k + 1 + j)))] [] := by
    intro N
    induction N with
    | zero => intro j a1 a2; omega
    | succ N ih =>
      intro j a1 a2
      have hdr := divN_rg hr.1 hm0 j
      refine x_iload (i := 5) (pc := 20) F dX7_pupil_20 rfl ?_
      refine x_iload_n (i := 2) (pc := 22) F dX7_pupil_22 rfl rfl ?_
      refine x_icmp_ge (tgt := 44) (pc := 23) F dX7_pupil_23 rfl (by omega) (fun h23 => ?_) (fun h23 => ?_)
      · refine x_iload (i := 4) (pc := 44) F dX7_pupil_44 rfl ?_
        refine x_aload_n (i := 0) (pc := 46) F dX7_pupil_46 rfl rfl ?_
        refine gf_X7_62 (pc := 47) F dX7_pupil_47 (v_0 (by omega)) ?_
        refine gf_X7_79 (pc := 50) F dX7_pupil_50 (v_1 (by omega)) ?_
        refine tq_irem (pc := 53) F dX7_pupil_53 (by omega) ?_
        refine tq_reti (pc := 54) F dX7_pupil_54 ?_ rfl rfl rfl
        exact ⟨by rw [show (n - 1 - k).toNat = j by omega, hm], rfl⟩
      · refine x_iload (i := 4) (pc := 26) F dX7_pupil_26 rfl ?_
        refine x_aload_n (i := 0) (pc := 28) F dX7_pupil_28 rfl rfl ?_
        refine gf_X7_62 (pc := 29) F dX7_pupil_29 (v_0 (by omega)) ?_
        refine gf_X7_79 (pc := 32) F dX7_pupil_32 (v_1 (by omega)) ?_
        refine tq_idiv (pc := 35) F dX7_pupil_35 (by omega) ?_
        refine x_istore (i := 4) (pc := 36) F dX7_pupil_36 rfl ?_
        refine x_iinc (pc := 38) F dX7_pupil_38 rfl rfl ?_
        refine x_goto (tgt := 20) (pc := 41) F dX7_pupil_41 rfl ?_
        refine x_sub (L' := [(0, .ref (ad (0, 0, 0))), (1, .int (I row)), (2, .int (I n)), (3, .int (I k)), (4, .int (I (divN row (T 76) (j + 1)))), (5, .int (I (k + 1 + ((j + 1 : Nat) : Int))))]) ⟨rfl, rfl, rfl, rfl, lk_i rfl ?_, lk_i rfl (by omega), trivial⟩ (ih (j + 1) (by omega) (by omega))
        simp only [divN, hm]
  refine x_aload_n (i := 0) (pc := 0) F dX7_pupil_0 rfl rfl ?_
  refine gf_X7_62 (pc := 1) F dX7_pupil_1 (v_0 (by omega)) ?_
  refine gf_X7_79 (pc := 4) F dX7_pupil_4 (v_1 (by omega)) ?_
  refine x_if_ne (tgt := 12) (pc := 7) F dX7_pupil_7 rfl (by omega) (fun h7 => ?_) (fun h7 => ?_)
  · refine x_iload_n (i := 1) (pc := 12) F dX7_pupil_12 rfl rfl ?_
    refine x_istore (i := 4) (pc := 13) F dX7_pupil_13 rfl ?_
    refine x_iload_n (i := 3) (pc := 15) F dX7_pupil_15 rfl rfl ?_
    refine x_iconst (pc := 16) F dX7_pupil_16 ?_
    refine x_iadd (pc := 17) F dX7_pupil_17 ?_
    refine x_istore (i := 5) (pc := 18) F dX7_pupil_18 rfl ?_
    exact x_sub (L' := [(0, .ref (ad (0, 0, 0))), (1, .int (I row)), (2, .int (I n)), (3, .int (I k)), (4, .int (I (divN row (T 76) 0))), (5, .int (I (k + 1 + ((0 : Nat) : Int))))]) ⟨rfl, rfl, rfl, rfl, rfl, lk_i rfl (by omega), trivial⟩ (loop 4 0 (by omega) (by omega))
  · refine x_iconst (pc := 10) F dX7_pupil_10 ?_
    refine tq_reti (pc := 11) F dX7_pupil_11 ?_ rfl rfl rfl
    exfalso; omega
set_option maxRecDepth 20000 in
theorem c_X7_letByLessons (g row : Int) (n : Nat) (hg : 0 ≤ g ∧ g < 4) (hr : 0 ≤ row ∧ row < 1000) (hn : n ≤ 3) (hB : NB μ S T g) (hR0 : TR μ 0 T) (hI : TI T) (hm0 : 0 < T 76) (l : Launch) (E : Ev) (A : Nat → Prop) : Con l E 4 m_X7_letByLessons A (VC nh) ad μ [.ref (ad (0, 0, 0)), .int (I g), .int (I n), .int (I row)] (pi fun z μ' => z = lesF S T g n row ∧ ∀ o, o ≠ (2, 3, 0) → o ≠ (3, 3, 0) → μ' o = μ o) := by
  have h76 := hI.2.2.1
  have hTI := teL_TI (g := g) (m := T 76) hI hg (by omega)
  refine con (own := RX7) (by decide +kernel) rfl rfl rfl (fun Γ F => ?_)
  have loop2 : ∀ (N : Nat) (p : Nat) (μ1 : Me), T 76 - p < N → p ≤ T 76 → TG μ1 (teL T g (T 76) n row) g → (∀ o, o ≠ (2, 3, 0) → o ≠ (3, 3, 0) → μ1 o = μ o) → XX Γ 6 (VC nh) ad (vl ad μ1) 0 0 64 [(0, .ref (ad (0, 0, 0))), (1, .int (I g)), (2, .int (I n)), (3, .int (I row)), (4, .int (I (cntP (fun p => LTg S (teL T g (T 76) n row) p g) p))), (5, .int (I p))] [] := by
    intro N
    induction N with
    | zero => intro p μ1 a1 a2; omega
    | succ N ih =>
      intro p μ1 a1 a2 a3 a4
      have hR1 : TR μ1 0 T := TR_fr hR0 (fun o a b c => a4 o (by rintro rfl; simp at c) (by rintro rfl; simp at c))
      have hm : μ1 (1, 0, 0) 5 = T 76 := hR1.2.2.1.1
      have hc := cntP_rg (fun p => LTg S (teL T g (T 76) n row) p g) p
      have hgi := (hTI n row).1 g hg.1 hg.2
      have hnb : μ1 (22, 0, 0) = μ (22, 0, 0) := a4 _ (by simp) (by simp)
      refine x_iload (i := 5) (pc := 64) F dX7_letByLessons_64 rfl ?_
      refine x_aload_n (i := 0) (pc := 66) F dX7_letByLessons_66 rfl rfl ?_
      refine gf_X7_62 (pc := 67) F dX7_letByLessons_67 (v_0 (by omega)) ?_
      refine gf_X7_79 (pc := 70) F dX7_letByLessons_70 (v_1 (by omega)) ?_
      refine x_icmp_ge (tgt := 115) (pc := 73) F dX7_letByLessons_73 rfl (by omega) (fun h73 => ?_) (fun h73 => ?_)
      · refine x_iload (i := 4) (pc := 115) F dX7_letByLessons_115 rfl ?_
        refine tq_reti (pc := 117) F dX7_letByLessons_117 ?_ rfl rfl rfl
        exact ⟨by unfold lesF; rw [show (T 76).toNat = p by omega], a4⟩
      · refine x_aload_n (i := 0) (pc := 76) F dX7_letByLessons_76 rfl rfl ?_
        refine gf_X7_37 (pc := 77) F dX7_letByLessons_77 (v_0 (by omega)) ?_
        refine x_aload_n (i := 0) (pc := 80) F dX7_letByLessons_80 rfl rfl ?_
        refine gf_X7_62 (pc := 81) F dX7_letByLessons_81 (v_0 (by omega)) ?_
        refine gf_X7_94 (pc := 84) F dX7_letByLessons_84 (v_1 (by omega)) ?_
        refine x_iload (i := 5) (pc := 87) F dX7_letByLessons_87 rfl ?_
        refine tq_pa (pc := 89) F dX7_letByLessons_89 (v_11 (by omega)) (by omega) ?_
        have hwk : μ1 (4, 0, (p : Int)) 3 = T (18 + 10 * p) := (hR1.2.1 p (by omega) (by omega)).2.2.2.1
        have hwr := (hI.2.1 p (by omega) (by omega)).2.2.1
        have hmn := hB p (by omega) (by omega)
        refine gf_X7_120 (pc := 90) F dX7_letByLessons_90 (v_4 (by omega)) ?_
        rw [hwk]
        refine x_aload_n (i := 0) (pc := 93) F dX7_letByLessons_93 rfl rfl ?_
        refine gf_X7_50 (pc := 94) F dX7_letByLessons_94 (v_0 (by omega)) ?_
        refine x_iload (i := 5) (pc := 97) F dX7_letByLessons_97 rfl ?_
        refine tq_ia (pc := 99) F dX7_letByLessons_99 (v_22 (by omega)) rfl (fun _ => rfl) (by omega) ?_
        rw [hnb]
        refine x_V2z (ci := 1) (pc := 100) F dX7_letByLessons_100 lk_X7_229 rfl (v_2 (by omega)) rfl rfl (c_X1_knowsAlike _ _ (Or.inr ⟨rfl, rfl⟩) (by rw [a3.1]; exact hgi.1) (fun k x y => by rw [a3.2 k x y]; exact hgi.2 k x y) (by omega) ⟨hmn.1, hmn.2.1⟩) rfl rfl rfl ?_
        rintro b _ ⟨hb, rfl⟩
        have hb2 : b = true ↔ LTg S (teL T g (T 76) n row) p g := by
          rw [hb, a3.1]
          unfold LTg
          refine exists_congr fun k => and_congr_right fun k1 => and_congr_right fun k2 => ?_
          have hg1 := hgi.1
          rw [a3.2 k k1 (by omega), lkT_c (fun k h => teL_o (by omega) n row) (by omega) hg.1, hmn.2.2 _ (alk_rg _ _).1 (alk_rg _ _).2]
          rfl
        refine x_if_eqB (tgt := 109) (pc := 103) F dX7_letByLessons_103 rfl (fun h103 => ?_) (fun h103 => ?_)
        · try simp only [decide_eq_true_eq, decide_eq_false_iff_not, Bool.and_eq_true, Bool.or_eq_true, Bool.not_eq_true', Bool.not_eq_false', Bool.and_eq_false_iff, Bool.or_eq_false_iff] at h103
          refine x_iinc (pc := 109) F dX7_letByLessons_109 rfl rfl ?_
          refine x_goto (tgt := 64) (pc := 112) F dX7_letByLessons_112 rfl ?_
          refine x_sub (L' := [(0, .ref (ad (0, 0, 0))), (1, .int (I g)), (2, .int (I n)), (3, .int (I row)), (4, .int (I (cntP (fun p => LTg S (teL T g (T 76) n row) p g) (p + 1)))), (5, .int (I ((p + 1 : Nat) : Int)))]) ⟨rfl, rfl, rfl, rfl, lk_i rfl ?_, rfl, trivial⟩ (ih (p + 1) μ1 (by omega) (by omega) a3 a4)
          simp only [cntP]
          first | (rw [pI_t (hb2.mp h103)]; done) | (rw [pI_f (fun z => by have := hb2.mpr z; rw [h103] at this; cases this)]; omega)
        · try simp only [decide_eq_true_eq, decide_eq_false_iff_not, Bool.and_eq_true, Bool.or_eq_true, Bool.not_eq_true', Bool.not_eq_false', Bool.and_eq_false_iff, Bool.or_eq_false_iff] at h103
          refine x_iinc (pc := 106) F dX7_letByLessons_106 rfl rfl ?_
          refine x_iinc (pc := 109) F dX7_letByLessons_109 rfl rfl ?_
          refine x_goto (tgt := 64) (pc := 112) F dX7_letByLessons_112 rfl ?_
          refine x_sub (L' := [(0, .ref (ad (0, 0, 0))), (1, .int (I g)), (2, .int (I n)), (3, .int (I row)), (4, .int (I (cntP (fun p => LTg S (teL T g (T 76) n row) p g) (p + 1)))), (5, .int (I ((p + 1 : Nat) : Int)))]) ⟨rfl, rfl, rfl, rfl, lk_i rfl ?_, rfl, trivial⟩ (ih (p + 1) μ1 (by omega) (by omega) a3 a4)
          simp only [cntP]
          first | (rw [pI_t (hb2.mp h103)]; done) | (rw [pI_f (fun z => by have := hb2.mpr z; rw [h103] at this; cases this)]; omega)
  have loop : ∀ (N : Nat) (k : Nat) (μ1 : Me), (n : Int) - k < N → k ≤ n → TG μ1 (teL T g (T 76) k (divN row (T 76) (n - k))) g → (∀ o, o ≠ (2, 3, 0) → o ≠ (3, 3, 0) → μ1 o = μ o) → XX Γ 6 (VC nh) ad (vl ad μ1) 0 0 19 [(0, .ref (ad (0, 0, 0))), (1, .int (I g)), (2, .int (I n)), (3, .int (I row)), (4, .int (I k))] [] := by
    intro N
    induction N with
    | zero => intro k μ1 a1 a2; omega
    | succ N ih =>
      intro k μ1 a1 a2 a3 a4
      have hR1 : TR μ1 0 T := TR_fr hR0 (fun o a b c => a4 o (by rintro rfl; simp at c) (by rintro rfl; simp at c))
      have hgi := (hTI k (divN row (T 76) (n - k))).1 g hg.1 hg.2
      refine x_iload (i := 4) (pc := 19) F dX7_letByLessons_19 rfl ?_
      refine x_iload_n (i := 2) (pc := 21) F dX7_letByLessons_21 rfl rfl ?_
      refine x_icmp_ge (tgt := 58) (pc := 22) F dX7_letByLessons_22 rfl (by omega) (fun h22 => ?_) (fun h22 => ?_)
      · refine x_iconst (pc := 58) F dX7_letByLessons_58 ?_
        refine x_istore (i := 4) (pc := 59) F dX7_letByLessons_59 rfl ?_
        refine x_iconst (pc := 61) F dX7_letByLessons_61 ?_
        refine x_istore (i := 5) (pc := 62) F dX7_letByLessons_62 rfl ?_
        exact x_sub (L' := [(0, .ref (ad (0, 0, 0))), (1, .int (I g)), (2, .int (I n)), (3, .int (I row)), (4, .int (I (cntP (fun p => LTg S (teL T g (T 76) n row) p g) 0))), (5, .int (I ((0 : Nat) : Int)))]) ⟨rfl, rfl, rfl, rfl, rfl, rfl, trivial⟩ (loop2 7 0 μ1 (by omega) (by omega) (by have e : k = n := (by omega); rw [e, Nat.sub_self] at a3; exact a3) a4)
      · refine x_aload_n (i := 0) (pc := 25) F dX7_letByLessons_25 rfl rfl ?_
        refine gf_X7_37 (pc := 26) F dX7_letByLessons_26 (v_0 (by omega)) ?_
        refine x_aload_n (i := 0) (pc := 29) F dX7_letByLessons_29 rfl rfl ?_
        refine gf_X7_62 (pc := 30) F dX7_letByLessons_30 (v_0 (by omega)) ?_
        refine gf_X7_94 (pc := 33) F dX7_letByLessons_33 (v_1 (by omega)) ?_
        refine x_aload_n (i := 0) (pc := 36) F dX7_letByLessons_36 rfl rfl ?_
        refine x_iload_n (i := 3) (pc := 37) F dX7_letByLessons_37 rfl rfl ?_
        refine x_iload_n (i := 2) (pc := 38) F dX7_letByLessons_38 rfl rfl ?_
        refine x_iload (i := 4) (pc := 39) F dX7_letByLessons_39 rfl ?_
        refine x_V3i (ci := 7) (pc := 41) F dX7_letByLessons_41 lk_X7_223 rfl (v_0 (by omega)) rfl rfl (c_X7_pupil row k n hr hn (by omega) hR1 hI hm0) rfl rfl rfl ?_
        rintro _ _ ⟨rfl, rfl⟩
        have q1 := Int.emod_nonneg (divN row (T 76) ((n : Int) - 1 - k).toNat) (show T 76 ≠ 0 by omega)
        have q2 := Int.emod_lt_of_pos (divN row (T 76) ((n : Int) - 1 - k).toNat) (show 0 < T 76 by omega)
        generalize hq : divN row (T 76) ((n : Int) - 1 - k).toNat % T 76 = q at q1 q2 ⊢
        refine tq_pa (pc := 44) F dX7_letByLessons_44 (v_11 (by omega)) (by omega) ?_
        have hwk : μ1 (4, 0, q) 3 = T (18 + 10 * q) := (hR1.2.1 q (by omega) (by omega)).2.2.2.1
        have hwr := (hI.2.1 q (by omega) (by omega)).2.2.1
        refine gf_X7_120 (pc := 45) F dX7_letByLessons_45 (v_4 (by omega)) ?_
        rw [hwk]
        refine x_V1i (ci := 1) (pc := 48) F dX7_letByLessons_48 lk_X7_156 rfl (v_2 (by omega)) rfl rfl (c_X1_learn _ (Or.inr ⟨rfl, rfl⟩) (by rw [a3.1]; exact hgi.1) (fun k x y => by rw [a3.2 k x y]; exact hgi.2 k x y) (by omega)) rfl rfl rfl ?_
        rintro _ μ2 ⟨rfl, e1, e2, e3⟩
        refine x_pop (pc := 51) F dX7_letByLessons_51 rfl ?_
        refine x_iinc (pc := 52) F dX7_letByLessons_52 rfl rfl ?_
        refine x_goto (tgt := 19) (pc := 55) F dX7_letByLessons_55 rfl ?_
        refine x_sub (L' := [(0, .ref (ad (0, 0, 0))), (1, .int (I g)), (2, .int (I n)), (3, .int (I row)), (4, .int (I ((k + 1 : Nat) : Int)))]) ⟨rfl, rfl, rfl, rfl, rfl, trivial⟩ (ih (k + 1) μ2 (by omega) (by omega) ?_ (fun o h1 h2 => by rw [e3 o h1 h2, a4 o h1 h2]))
        have hs : n - k = (n - (k + 1)) + 1 := by omega
        rw [hs] at a3
        have hz := TG_tau a3 e1 e2
        rw [← hq, show ((n : Int) - 1 - k).toNat = n - (k + 1) by omega] at hz
        exact hz
  refine x_aload_n (i := 0) (pc := 0) F dX7_letByLessons_0 rfl rfl ?_
  refine gf_X7_37 (pc := 1) F dX7_letByLessons_1 (v_0 (by omega)) ?_
  refine x_aload_n (i := 0) (pc := 4) F dX7_letByLessons_4 rfl rfl ?_
  refine gf_X7_62 (pc := 5) F dX7_letByLessons_5 (v_0 (by omega)) ?_
  refine gf_X7_135 (pc := 8) F dX7_letByLessons_8 (v_1 (by omega)) ?_
  refine x_iload_n (i := 1) (pc := 11) F dX7_letByLessons_11 rfl rfl ?_
  refine tq_ga (pc := 12) F dX7_letByLessons_12 (v_10 (by omega)) (by omega) ?_
  refine x_V1v (ci := 1) (pc := 13) F dX7_letByLessons_13 lk_X7_226 rfl (v_2 (by omega)) rfl rfl (c_X1_become (Or.inr ⟨rfl, rfl⟩) (by omega)) rfl rfl rfl ?_
  rintro μ1 ⟨b1, b2, b3⟩
  refine x_iconst (pc := 16) F dX7_letByLessons_16 ?_
  refine x_istore (i := 4) (pc := 17) F dX7_letByLessons_17 rfl ?_
  obtain ⟨g0, g1⟩ := hR0.1 g hg.1 hg.2
  exact x_sub (L' := [(0, .ref (ad (0, 0, 0))), (1, .int (I g)), (2, .int (I n)), (3, .int (I row)), (4, .int (I ((0 : Nat) : Int)))]) ⟨rfl, rfl, rfl, rfl, rfl, trivial⟩ (loop 4 0 μ1 (by omega) (by omega) ⟨by rw [b1, g0]; rfl, fun k x y => by rw [b2 k x y, g1 k x y]; rfl⟩ b3)
set_option maxRecDepth 20000 in
theorem c_X7_bestLessons (g : Int) (n : Nat) (hg : 0 ≤ g ∧ g < 4) (hn : n ≤ 3) (hR0 : TR μ 0 T) (hI : TI T) (hH : HRel μ nh (T 78) S) (hd : T 77 ≤ 9999) (hm0 : 0 < T 76) (l : Launch) (E : Ev) (A : Nat → Prop) : Con l E 5 m_X7_bestLessons A (VC nh) ad μ [.ref (ad (0, 0, 0)), .int (I g), .int (I n)] (pi fun z μ' => z = (lesB S T g n).1 ∧ NB μ' S T g ∧ ∀ o, ¬ scO o → μ' o = μ o) := by
  have h76 := hI.2.2.1
  have hpw : ((T 76).toNat ^ n : Nat) ≤ 216 := Nat.le_trans (Nat.pow_le_pow_left (show (T 76).toNat ≤ 6 by omega) n) (Nat.pow_le_pow_right (show 0 < 6 by decide) hn)
  have hfr := fun row => lesF_rg (S := S) (T := T) g n row h76.1
  refine con (own := RX7) (by decide +kernel) rfl rfl rfl (fun Γ F => ?_)
  have loop2 : ∀ (N : Nat) (r : Nat) (μ1 : Me), (((T 76).toNat ^ n : Nat) : Int) - r < N → r ≤ (T 76).toNat ^ n → NB μ1 S T g → (∀ o, ¬ scO o → μ1 o = μ o) → XX Γ 8 (VC nh) ad (vl ad μ1) 0 0 41 [(0, .ref (ad (0, 0, 0))), (1, .int (I g)), (2, .int (I n)), (3, .int (I (((T 76).toNat ^ n : Nat) : Int))), (4, .int (I (maxL (lesF S T g n) r).1)), (5, .int (I (maxL (lesF S T g n) r).2)), (6, .int (I r))] [] := by
    intro N
    induction N with
    | zero => intro p μ1 a1 a2; omega
    | succ N ih =>
      intro r μ1 a1 a2 a3 a4
      have hR1 : TR μ1 0 T := TR_sc hR0 (Or.inl rfl) a4
      have hb := maxL_b (f := lesF S T g n) (B := T 76) ((T 76).toNat ^ n) (fun k _ _ => hfr k) r a2
      have hr := maxL_rg (lesF S T g n) r
      have hq := hfr r
      have hnx : maxL (lesF S T g n) (r + 1) = if (maxL (lesF S T g n) r).2 < lesF S T g n r then ((r : Int), lesF S T g n r) else maxL (lesF S T g n) r := rfl
      have hend : r = (T 76).toNat ^ n → (maxL (lesF S T g n) r).1 = (lesB S T g n).1 := fun h => by unfold lesB; rw [h]
      generalize hs : maxL (lesF S T g n) r = s at hb hr hnx hend ⊢
      refine x_iload (i := 6) (pc := 41) F dX7_bestLessons_41 rfl ?_
      refine x_iload_n (i := 3) (pc := 43) F dX7_bestLessons_43 rfl rfl ?_
      refine x_icmp_ge (tgt := 78) (pc := 44) F dX7_bestLessons_44 rfl (by omega) (fun h44 => ?_) (fun h44 => ?_)
      · refine x_iload (i := 4) (pc := 78) F dX7_bestLessons_78 rfl ?_
        refine tq_reti (pc := 80) F dX7_bestLessons_80 ?_ rfl rfl rfl
        exact ⟨hend (by omega), a3, a4⟩
      · refine x_aload_n (i := 0) (pc := 47) F dX7_bestLessons_47 rfl rfl ?_
        refine x_iload_n (i := 1) (pc := 48) F dX7_bestLessons_48 rfl rfl ?_
        refine x_iload_n (i := 2) (pc := 49) F dX7_bestLessons_49 rfl rfl ?_
        refine x_iload (i := 6) (pc := 50) F dX7_bestLessons_50 rfl ?_
        refine x_V3i (ci := 7) (pc := 52) F dX7_bestLessons_52 lk_X7_219 rfl (v_0 (by omega)) rfl rfl (c_X7_letByLessons g r n hg (by omega) hn a3 hR1 hI hm0) rfl rfl rfl ?_
        rintro _ μ2 ⟨rfl, e1⟩
        refine x_istore (i := 7) (pc := 55) F dX7_bestLessons_55 rfl ?_
        refine x_iload (i := 7) (pc := 57) F dX7_bestLessons_57 rfl ?_
        refine x_iload (i := 5) (pc := 59) F dX7_bestLessons_59 rfl ?_
        refine x_icmp_le (tgt := 72) (pc := 61) F dX7_bestLessons_61 rfl (by omega) (fun h61 => ?_) (fun h61 => ?_)
        · refine x_iinc (pc := 72) F dX7_bestLessons_72 rfl rfl ?_
          refine x_goto (tgt := 41) (pc := 75) F dX7_bestLessons_75 rfl ?_
          refine x_sub (L' := [(0, .ref (ad (0, 0, 0))), (1, .int (I g)), (2, .int (I n)), (3, .int (I (((T 76).toNat ^ n : Nat) : Int))), (4, .int (I (maxL (lesF S T g n) (r + 1)).1)), (5, .int (I (maxL (lesF S T g n) (r + 1)).2)), (6, .int (I ((r + 1 : Nat) : Int)))]) ⟨rfl, rfl, rfl, rfl, lk_i rfl ?_, lk_i rfl ?_, rfl, trivial⟩ (ih (r + 1) μ2 (by omega) (by omega) (fun p x y => by rw [e1 _ (by simp) (by simp)]; exact a3 p x y) (fun o ho => by rw [e1 o (by rintro rfl; exact ho (by simp [scO])) (by rintro rfl; exact ho (by simp [scO])), a4 o ho]))
          all_goals rw [hnx]
          all_goals first | (rw [if_pos (by omega)]; done) | (rw [if_neg (by omega)]; done)
        · refine x_iload (i := 7) (pc := 64) F dX7_bestLessons_64 rfl ?_
          refine x_istore (i := 5) (pc := 66) F dX7_bestLessons_66 rfl ?_
          refine x_iload (i := 6) (pc := 68) F dX7_bestLessons_68 rfl ?_
          refine x_istore (i := 4) (pc := 70) F dX7_bestLessons_70 rfl ?_
          refine x_iinc (pc := 72) F dX7_bestLessons_72 rfl rfl ?_
          refine x_goto (tgt := 41) (pc := 75) F dX7_bestLessons_75 rfl ?_
          refine x_sub (L' := [(0, .ref (ad (0, 0, 0))), (1, .int (I g)), (2, .int (I n)), (3, .int (I (((T 76).toNat ^ n : Nat) : Int))), (4, .int (I (maxL (lesF S T g n) (r + 1)).1)), (5, .int (I (maxL (lesF S T g n) (r + 1)).2)), (6, .int (I ((r + 1 : Nat) : Int)))]) ⟨rfl, rfl, rfl, rfl, lk_i rfl ?_, lk_i rfl ?_, rfl, trivial⟩ (ih (r + 1) μ2 (by omega) (by omega) (fun p x y => by rw [e1 _ (by simp) (by simp)]; exact a3 p x y) (fun o ho => by rw [e1 o (by rintro rfl; exact ho (by simp [scO])) (by rintro rfl; exact ho (by simp [scO])), a4 o ho]))
          all_goals rw [hnx]
          all_goals first | (rw [if_pos (by omega)]; done) | (rw [if_neg (by omega)]; done)
  have loop : ∀ (N : Nat) (k : Nat) (μ1 : Me), (n : Int) - k < N → k ≤ n → NB μ1 S T g → (∀ o, ¬ scO o → μ1 o = μ o) → XX Γ 8 (VC nh) ad (vl ad μ1) 0 0 10 [(0, .ref (ad (0, 0, 0))), (1, .int (I g)), (2, .int (I n)), (3, .int (I (((T 76).toNat ^ k : Nat) : Int))), (4, .int (I k))] [] := by
    intro N
    induction N with
    | zero => intro k μ1 a1 a2; omega
    | succ N ih =>
      intro k μ1 a1 a2 a3 a4
      have hR1 : TR μ1 0 T := TR_sc hR0 (Or.inl rfl) a4
      have hm : μ1 (1, 0, 0) 5 = T 76 := hR1.2.2.1.1
      have hpk : ((T 76).toNat ^ k : Nat) ≤ 216 := Nat.le_trans (Nat.pow_le_pow_left (show (T 76).toNat ≤ 6 by omega) k) (Nat.pow_le_pow_right (show 0 < 6 by decide) (show k ≤ 3 by omega))
      have hps : (((T 76).toNat ^ k : Nat) : Int) * T 76 = (((T 76).toNat ^ (k + 1) : Nat) : Int) := by
        rw [Nat.pow_succ, Int.natCast_mul, toNat_c h76.1]
      have hp2 : ((T 76).toNat ^ (k + 1) : Nat) ≤ 1296 := Nat.le_trans (Nat.pow_le_pow_left (show (T 76).toNat ≤ 6 by omega) (k + 1)) (Nat.pow_le_pow_right (show 0 < 6 by decide) (show k + 1 ≤ 4 by omega))
      refine x_iload (i := 4) (pc := 10) F dX7_bestLessons_10 rfl ?_
      refine x_iload_n (i := 2) (pc := 12) F dX7_bestLessons_12 rfl rfl ?_
      refine x_icmp_ge (tgt := 32) (pc := 13) F dX7_bestLessons_13 rfl (by omega) (fun h13 => ?_) (fun h13 => ?_)
      · refine x_iconst (pc := 32) F dX7_bestLessons_32 ?_
        refine x_istore (i := 4) (pc := 33) F dX7_bestLessons_33 rfl ?_
        refine x_iconst (pc := 35) F dX7_bestLessons_35 ?_
        refine x_istore (i := 5) (pc := 36) F dX7_bestLessons_36 rfl ?_
        refine x_iconst (pc := 38) F dX7_bestLessons_38 ?_
        refine x_istore (i := 6) (pc := 39) F dX7_bestLessons_39 rfl ?_
        have e : k = n := by omega
        subst e
        exact x_sub (L' := [(0, .ref (ad (0, 0, 0))), (1, .int (I g)), (2, .int (I k)), (3, .int (I (((T 76).toNat ^ k : Nat) : Int))), (4, .int (I (maxL (lesF S T g k) 0).1)), (5, .int (I (maxL (lesF S T g k) 0).2)), (6, .int (I ((0 : Nat) : Int)))]) ⟨rfl, rfl, rfl, rfl, rfl, rfl, rfl, trivial⟩ (loop2 217 0 μ1 (by omega) (by omega) a3 a4)
      · refine x_iload_n (i := 3) (pc := 16) F dX7_bestLessons_16 rfl rfl ?_
        refine x_aload_n (i := 0) (pc := 17) F dX7_bestLessons_17 rfl rfl ?_
        refine gf_X7_62 (pc := 18) F dX7_bestLessons_18 (v_0 (by omega)) ?_
        refine gf_X7_79 (pc := 21) F dX7_bestLessons_21 (v_1 (by omega)) ?_
        rw [hm]
        refine x_imul (pc := 24) F dX7_bestLessons_24 ?_
        refine x_istore_n (i := 3) (pc := 25) F dX7_bestLessons_25 rfl rfl ?_
        refine x_iinc (pc := 26) F dX7_bestLessons_26 rfl rfl ?_
        refine x_goto (tgt := 10) (pc := 29) F dX7_bestLessons_29 rfl ?_
        refine x_sub (L' := [(0, .ref (ad (0, 0, 0))), (1, .int (I g)), (2, .int (I n)), (3, .int (I (((T 76).toNat ^ (k + 1) : Nat) : Int))), (4, .int (I ((k + 1 : Nat) : Int)))]) ⟨rfl, rfl, rfl, lk_i rfl hps, rfl, trivial⟩ (ih (k + 1) μ1 (by omega) (by omega) a3 a4)
  refine x_aload_n (i := 0) (pc := 0) F dX7_bestLessons_0 rfl rfl ?_
  refine x_iload_n (i := 1) (pc := 1) F dX7_bestLessons_1 rfl rfl ?_
  refine x_V1v (ci := 7) (pc := 2) F dX7_bestLessons_2 lk_X7_205 rfl (v_0 (by omega)) rfl rfl (c_X7_askNeededByComer _ (by omega) hR0 hI hH hd) rfl rfl rfl ?_
  rintro μ1 ⟨b1, b2⟩
  refine x_iconst (pc := 5) F dX7_bestLessons_5 ?_
  refine x_istore_n (i := 3) (pc := 6) F dX7_bestLessons_6 rfl rfl ?_
  refine x_iconst (pc := 7) F dX7_bestLessons_7 ?_
  refine x_istore (i := 4) (pc := 8) F dX7_bestLessons_8 rfl ?_
  exact x_sub (L' := [(0, .ref (ad (0, 0, 0))), (1, .int (I g)), (2, .int (I n)), (3, .int (I (((T 76).toNat ^ 0 : Nat) : Int))), (4, .int (I ((0 : Nat) : Int)))]) ⟨rfl, rfl, rfl, lk_i rfl (by rw [Nat.pow_zero]; rfl), rfl, trivial⟩ (loop 4 0 μ1 (by omega) (by omega) b1 (fun o ho => b2 o (by rintro rfl; exact ho (by simp [scO]))))
set_option maxRecDepth 20000 in
theorem c_X7_lessons (g n k : Int) (hg : -2147483648 ≤ g ∧ g < 2147483648) (hn : -2147483648 ≤ n ∧ n < 2147483648) (hk : -2147483648 ≤ k ∧ k < 2147483648) (hR0 : TR μ 0 T) (hI : TI T) (hH : HRel μ nh (T 78) S) (hd : T 77 ≤ 9999) (l : Launch) (E : Ev) (A : Nat → Prop) : Con l E 6 m_X7_lessons A (VC nh) ad μ [.ref (ad (0, 0, 0)), .int (I g), .int (I n), .int (I k)] (pi fun z μ' => z = lessonsZ S T g n k ∧ ∀ o, ¬ scO o → μ' o = μ o) := by
  have h76 := hI.2.2.1
  have hm : μ (1, 0, 0) 5 = T 76 := hR0.2.2.1.1
  refine con (own := RX7) (by decide +kernel) rfl rfl rfl (fun Γ F => ?_)
  refine x_iload_n (i := 1) (pc := 0) F dX7_lessons_0 rfl rfl ?_
  refine x_iconst (pc := 1) F dX7_lessons_1 ?_
  refine x_S2z (pc := 2) F dX7_lessons_2 lk_X7_83 rfl (c_isInW _ _ _ (by omega)) rfl rfl rfl ?_
  rintro _ _ ⟨rfl, rfl⟩
  refine x_if_eqB (tgt := 18) (pc := 5) F dX7_lessons_5 rfl (fun h5 => ?_) (fun h5 => ?_)
  · try simp only [decide_eq_true_eq, decide_eq_false_iff_not, Bool.and_eq_true, Bool.or_eq_true, Bool.not_eq_true', Bool.not_eq_false', Bool.and_eq_false_iff, Bool.or_eq_false_iff] at h5
    refine x_iconst (pc := 18) F dX7_lessons_18 ?_
    refine tq_reti (pc := 19) F dX7_lessons_19 ?_ rfl rfl rfl
    exact ⟨by unfold lessonsZ; rw [if_neg (by omega)], fun o _ => rfl⟩
  · try simp only [decide_eq_true_eq, decide_eq_false_iff_not, Bool.and_eq_true, Bool.or_eq_true, Bool.not_eq_true', Bool.not_eq_false', Bool.and_eq_false_iff, Bool.or_eq_false_iff] at h5
    refine x_iload_n (i := 3) (pc := 8) F dX7_lessons_8 rfl rfl ?_
    refine x_iconst (pc := 9) F dX7_lessons_9 ?_
    refine x_icmp_lt (tgt := 18) (pc := 10) F dX7_lessons_10 rfl (by omega) (fun h10 => ?_) (fun h10 => ?_)
    · refine x_iconst (pc := 18) F dX7_lessons_18 ?_
      refine tq_reti (pc := 19) F dX7_lessons_19 ?_ rfl rfl rfl
      exact ⟨by unfold lessonsZ; rw [if_neg (by omega)], fun o _ => rfl⟩
    · refine x_iload_n (i := 3) (pc := 13) F dX7_lessons_13 rfl rfl ?_
      refine x_iconst (pc := 14) F dX7_lessons_14 ?_
      refine x_icmp_lt (tgt := 20) (pc := 15) F dX7_lessons_15 rfl (by omega) (fun h15 => ?_) (fun h15 => ?_)
      · refine x_iload_n (i := 2) (pc := 20) F dX7_lessons_20 rfl rfl ?_
        refine x_iconst (pc := 21) F dX7_lessons_21 ?_
        refine x_icmp_lt (tgt := 30) (pc := 22) F dX7_lessons_22 rfl (by omega) (fun h22 => ?_) (fun h22 => ?_)
        · refine x_bipush (pc := 30) F dX7_lessons_30 (by decide) ?_
          refine tq_reti (pc := 32) F dX7_lessons_32 ?_ rfl rfl rfl
          exact ⟨by unfold lessonsZ; rw [if_pos (by omega), if_neg (by omega)], fun o _ => rfl⟩
        · refine x_iload_n (i := 2) (pc := 25) F dX7_lessons_25 rfl rfl ?_
          refine x_iconst (pc := 26) F dX7_lessons_26 ?_
          refine x_icmp_le (tgt := 33) (pc := 27) F dX7_lessons_27 rfl (by omega) (fun h27 => ?_) (fun h27 => ?_)
          · refine x_aload_n (i := 0) (pc := 33) F dX7_lessons_33 rfl rfl ?_
            refine gf_X7_62 (pc := 34) F dX7_lessons_34 (v_0 (by omega)) ?_
            refine gf_X7_79 (pc := 37) F dX7_lessons_37 (v_1 (by omega)) ?_
            refine x_if_ne (tgt := 55) (pc := 40) F dX7_lessons_40 rfl (by omega) (fun h40 => ?_) (fun h40 => ?_)
            · refine x_iload_n (i := 3) (pc := 55) F dX7_lessons_55 rfl rfl ?_
              refine x_iload_n (i := 2) (pc := 56) F dX7_lessons_56 rfl rfl ?_
              refine x_icmp_lt (tgt := 63) (pc := 57) F dX7_lessons_57 rfl (by omega) (fun h57 => ?_) (fun h57 => ?_)
              · refine x_aload_n (i := 0) (pc := 63) F dX7_lessons_63 rfl rfl ?_
                refine x_iload_n (i := 1) (pc := 64) F dX7_lessons_64 rfl rfl ?_
                refine x_iload_n (i := 2) (pc := 65) F dX7_lessons_65 rfl rfl ?_
                obtain ⟨n', rfl⟩ : ∃ n' : Nat, n = n' := ⟨n.toNat, by omega⟩
                have hfr := fun row => lesF_rg (S := S) (T := T) g n' row h76.1
                have hpw : ((T 76).toNat ^ n' : Nat) ≤ 216 := Nat.le_trans (Nat.pow_le_pow_left (show (T 76).toNat ≤ 6 by omega) n') (Nat.pow_le_pow_right (show 0 < 6 by decide) (show n' ≤ 3 by omega))
                have hpp : 0 < (T 76).toNat ^ n' := Nat.pow_pos (by omega)
                have hb := maxL_b (f := lesF S T g n') (B := T 76) ((T 76).toNat ^ n') (fun k _ _ => hfr k) _ (Nat.le_refl _)
                have hb2 := (hb.2.2 hpp).2
                have hr : 0 ≤ (lesB S T g n').1 ∧ (lesB S T g n').1 < 1000 := by have := maxL_rg (lesF S T g n') ((T 76).toNat ^ n'); unfold lesB; omega
                refine x_V2i (ci := 7) (pc := 66) F dX7_lessons_66 lk_X7_216 rfl (v_0 (by omega)) rfl rfl (c_X7_bestLessons g n' (by omega) (by omega) hR0 hI hH hd (by omega)) rfl rfl rfl ?_
                rintro _ μ1 ⟨rfl, b1, b2⟩
                have hR1 : TR μ1 0 T := TR_sc hR0 (Or.inl rfl) b2
                refine x_istore (i := 4) (pc := 69) F dX7_lessons_69 rfl ?_
                refine x_iload_n (i := 3) (pc := 71) F dX7_lessons_71 rfl rfl ?_
                refine x_iconst (pc := 72) F dX7_lessons_72 ?_
                refine x_icmp_ne (tgt := 87) (pc := 73) F dX7_lessons_73 rfl (by omega) (fun h73 => ?_) (fun h73 => ?_)
                · refine x_aload_n (i := 0) (pc := 87) F dX7_lessons_87 rfl rfl ?_
                  refine x_iload (i := 4) (pc := 88) F dX7_lessons_88 rfl ?_
                  refine x_iload_n (i := 2) (pc := 90) F dX7_lessons_90 rfl rfl ?_
                  refine x_iload_n (i := 3) (pc := 91) F dX7_lessons_91 rfl rfl ?_
                  refine x_V3i (ci := 7) (pc := 92) F dX7_lessons_92 lk_X7_223 rfl (v_0 (by omega)) rfl rfl (c_X7_pupil _ k n' hr (by omega) (by omega) hR1 hI (by omega)) rfl rfl rfl ?_
                  rintro _ _ ⟨rfl, rfl⟩
                  refine tq_reti (pc := 95) F dX7_lessons_95 ?_ rfl rfl rfl
                  first | (refine ⟨?_, fun o ho => by rw [e1 o (by rintro rfl; exact ho (by simp [scO])) (by rintro rfl; exact ho (by simp [scO])), b2 o ho]⟩; unfold lessonsZ; rw [if_pos (by omega), if_pos (by omega), if_neg (by omega), if_pos (by omega)]; exact hb2.symm) | (refine ⟨?_, b2⟩; unfold lessonsZ; rw [if_pos (by omega), if_pos (by omega), if_neg (by omega), if_neg (by omega), if_pos (by omega)]; rfl)
                · refine x_aload_n (i := 0) (pc := 76) F dX7_lessons_76 rfl rfl ?_
                  refine x_iload_n (i := 1) (pc := 77) F dX7_lessons_77 rfl rfl ?_
                  refine x_iload_n (i := 2) (pc := 78) F dX7_lessons_78 rfl rfl ?_
                  refine x_iload (i := 4) (pc := 79) F dX7_lessons_79 rfl ?_
                  refine x_V3i (ci := 7) (pc := 81) F dX7_lessons_81 lk_X7_219 rfl (v_0 (by omega)) rfl rfl (c_X7_letByLessons g _ n' (by omega) hr (by omega) b1 hR1 hI (by omega)) rfl rfl rfl ?_
                  rintro _ μ2 ⟨rfl, e1⟩
                  refine x_goto (tgt := 95) (pc := 84) F dX7_lessons_84 rfl ?_
                  refine tq_reti (pc := 95) F dX7_lessons_95 ?_ rfl rfl rfl
                  first | (refine ⟨?_, fun o ho => by rw [e1 o (by rintro rfl; exact ho (by simp [scO])) (by rintro rfl; exact ho (by simp [scO])), b2 o ho]⟩; unfold lessonsZ; rw [if_pos (by omega), if_pos (by omega), if_neg (by omega), if_pos (by omega)]; exact hb2.symm) | (refine ⟨?_, b2⟩; unfold lessonsZ; rw [if_pos (by omega), if_pos (by omega), if_neg (by omega), if_neg (by omega), if_pos (by omega)]; rfl)
              · refine x_bipush (pc := 60) F dX7_lessons_60 (by decide) ?_
                refine tq_reti (pc := 62) F dX7_lessons_62 ?_ rfl rfl rfl
                exact ⟨by unfold lessonsZ; rw [if_pos (by omega), if_pos (by omega), if_neg (by omega), if_neg (by omega), if_neg (by omega)], fun o _ => rfl⟩
            · refine x_iload_n (i := 3) (pc := 43) F dX7_lessons_43 rfl rfl ?_
              refine x_iconst (pc := 44) F dX7_lessons_44 ?_
              refine x_icmp_ne (tgt := 52) (pc := 45) F dX7_lessons_45 rfl (by omega) (fun h45 => ?_) (fun h45 => ?_)
              · refine x_bipush (pc := 52) F dX7_lessons_52 (by decide) ?_
                refine tq_reti (pc := 54) F dX7_lessons_54 ?_ rfl rfl rfl
                refine ⟨?_, fun o _ => rfl⟩
                unfold lessonsZ
                rw [if_pos (by omega), if_pos (by omega), if_pos (by omega)]
                first | (rw [if_pos (by omega)]; done) | (rw [if_neg (by omega)]; done)
              · refine x_iconst (pc := 48) F dX7_lessons_48 ?_
                refine x_goto (tgt := 54) (pc := 49) F dX7_lessons_49 rfl ?_
                refine tq_reti (pc := 54) F dX7_lessons_54 ?_ rfl rfl rfl
                refine ⟨?_, fun o _ => rfl⟩
                unfold lessonsZ
                rw [if_pos (by omega), if_pos (by omega), if_pos (by omega)]
                first | (rw [if_pos (by omega)]; done) | (rw [if_neg (by omega)]; done)
          · refine x_bipush (pc := 30) F dX7_lessons_30 (by decide) ?_
            refine tq_reti (pc := 32) F dX7_lessons_32 ?_ rfl rfl rfl
            exact ⟨by unfold lessonsZ; rw [if_pos (by omega), if_neg (by omega)], fun o _ => rfl⟩
      · refine x_iconst (pc := 18) F dX7_lessons_18 ?_
        refine tq_reti (pc := 19) F dX7_lessons_19 ?_ rfl rfl rfl
        exact ⟨by unfold lessonsZ; rw [if_neg (by omega)], fun o _ => rfl⟩
end CLS5
