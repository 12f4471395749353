/-! ===== the reference reads a text: factors, boths, anies ===== -/
section MF
variable {ad : Ob → Nat} {tx vals : Tn} {tl : Int}
/-- the contracts of factor, both, any with fuel n, within d -/
def DF (ad : Ob → Nat) (tx vals : Tn) (tl : Int) (n d : Nat) : Prop := ∀ (μ : Me) (a : Int), RM μ tx tl a 1 → NM μ vals → μ (30, 0, 0) 13 = d → 4 * (tl - a) + 2 ≤ n → ∀ (l : Launch) (E : Ev) (A : Nat → Prop), Con l E (15 - 3 * d) m_X8_factor A VM ad μ [.ref (ad (30, 0, 0))] (pz fun z μ' => MO μ μ' (fF tx tl n d a) vals z)
def DB (ad : Ob → Nat) (tx vals : Tn) (tl : Int) (n d : Nat) : Prop := ∀ (μ : Me) (a : Int), RM μ tx tl a 1 → NM μ vals → μ (30, 0, 0) 13 = d → 4 * (tl - a) + 3 ≤ n → ∀ (l : Launch) (E : Ev) (A : Nat → Prop), Con l E (16 - 3 * d) m_X8_both A VM ad μ [.ref (ad (30, 0, 0))] (pz fun z μ' => MO μ μ' (fB tx tl n d a) vals z)
def DA (ad : Ob → Nat) (tx vals : Tn) (tl : Int) (n d : Nat) : Prop := ∀ (μ : Me) (a : Int), RM μ tx tl a 1 → NM μ vals → μ (30, 0, 0) 13 = d → 4 * (tl - a) + 4 ≤ n → ∀ (l : Launch) (E : Ev) (A : Nat → Prop), Con l E (17 - 3 * d) m_X8_any A VM ad μ [.ref (ad (30, 0, 0))] (pz fun z μ' => MO μ μ' (fA tx tl n d a) vals z)
theorem mv_in {μ : Me} {a d w : Int} (h : RM μ tx tl a w) (b : Int) (hb : 0 ≤ b ∧ b ≤ tl) : RM (upM (upM μ (30, 0, 0) 11 b) (30, 0, 0) 13 d) tx tl b w := by
  obtain ⟨h1, h2, h3, h4⟩ := h
  refine ⟨?_, fun k x y => ?_, ⟨?_, hb⟩, ?_⟩
  · rw [upM_i, if_neg (by decide), upM_i, if_neg (by decide)]; exact h1
  · rw [upM_ne (by simp), upM_ne (by simp)]; exact h2 k x y
  · rw [upM_i, if_neg (by decide), upM_i, if_pos rfl]
  · rw [upM_i, if_neg (by decide), upM_i, if_neg (by decide)]; exact h4
theorem nm_in {μ : Me} {a d : Int} (h : NM μ vals) : NM (upM (upM μ (30, 0, 0) 11 a) (30, 0, 0) 13 d) vals := by
  unfold NM MS at *
  rw [upM_ne (by simp), upM_ne (by simp), upM_ne (by simp), upM_ne (by simp), upM_ne (by simp), upM_ne (by simp)]
  exact h
theorem mv_wi {μ μ2 : Me} {a b w d : Int} (h : MV (upM (upM μ (30, 0, 0) 11 a) (30, 0, 0) 13 (d + 1)) μ2 b w) (hd : μ (30, 0, 0) 13 = d) : MV μ (upM μ2 (30, 0, 0) 13 (μ2 (30, 0, 0) 13 - 1)) b w := by
  obtain ⟨h1, h2, h3, h4⟩ := h
  refine ⟨by rw [upM_i, if_neg (by decide)]; exact h1, by rw [upM_i, if_neg (by decide)]; exact h2, fun k k1 k2 => ?_, fun o ho => by rw [upM_ne ho, h4 o ho, upM_ne ho, upM_ne ho]⟩
  rw [upM_i]
  by_cases e : k = 13
  · rw [if_pos e, h3 13 (by decide) (by decide), upM_i, if_pos rfl, e, hd]; omega
  · rw [if_neg e, h3 k k1 k2, upM_i, if_neg e, upM_i, if_neg k1]
theorem bI_1 {b : Bool} (h : b = true) : bI b = 1 := by rw [h]; rfl
theorem bI_f0 {b : Bool} (h : b = false) : bI b = 0 := by rw [h]; rfl
theorem not_mo {μ μ' : Me} {r : Rd} {z zz : Bool} (h : MV μ μ' r.2.1 (bI r.1)) (h2 : r.1 = true → z = r.2.2.2 vals) (h3 : zz = !z) : MO μ μ' (notR r) vals zz := by
  unfold notR
  cases e : r.1
  · rw [e] at h
    exact ⟨h, fun z => by cases z⟩
  · rw [e] at h h2
    exact ⟨h, fun _ => by rw [h3, h2 rfl]; rfl⟩
theorem par_mo {μ μ1 μ2 : Me} {r : Rd} {z : Bool} (h : MV μ μ1 r.2.1 (bI r.1)) (h2 : r.1 = true → z = r.2.2.2 vals) (h3 : MV μ1 μ2 (if bI r.1 = 1 ∧ chA tx tl r.2.1 = 41 then r.2.1 + 1 else r.2.1) (if bI r.1 = 1 ∧ chA tx tl r.2.1 = 41 then 1 else 0)) : MO μ μ2 (parR tx tl r) vals z := by
  unfold parR
  cases e : r.1
  · rw [e, if_neg (fun z => absurd z.1 (by decide)), if_neg (fun z => absurd z.1 (by decide))] at h3
    exact ⟨h.trans h3, fun z => by cases z⟩
  · rw [e] at h3 h2
    by_cases q : chA tx tl r.2.1 = 41
    · rw [if_pos ⟨rfl, q⟩, if_pos ⟨rfl, q⟩] at h3
      rw [if_pos rfl, if_pos q]
      exact ⟨h.trans h3, fun _ => h2 rfl⟩
    · rw [if_neg (fun z => q z.2), if_neg (fun z => q z.2)] at h3
      rw [if_pos rfl, if_neg q]
      exact ⟨h.trans h3, fun z => by cases z⟩
set_option maxRecDepth 20000 in
theorem mfac_step (n d : Nat) (hd : d ≤ 4) (hF : d < 4 → DF ad tx vals tl n (d + 1)) (hA : d < 4 → DA ad tx vals tl n (d + 1)) : DF ad tx vals tl (n + 1) d := by
  intro μ a hR hN hw hf l E A
  have hch := hR.ch hR.2.2.1.2.1
  obtain ⟨s1, s2, ⟨a1, a2, a3⟩, w1, w2, w3⟩ := id hR
  have hsp := fF_s tx tl n d a
  have hgA := fun (b : Int) (hb : b ≤ tl) (h4 : d < 4) => (pS_gd (tx := tx) (tl := tl) n ((d + 1 : Nat) : Int) (by omega) (by omega)).2.2.2.1 b hb
  have hgF := fun (b : Int) (hb : b ≤ tl) (h4 : d < 4) => (pS_gd (tx := tx) (tl := tl) n ((d + 1 : Nat) : Int) (by omega) (by omega)).1 b hb
  refine con (own := RX8) (by decide +kernel) rfl rfl rfl (fun Γ F => ?_)
  refine x_aload_n (i := 0) (pc := 0) F dX8_factor_0 rfl rfl ?_
  refine gf_X8_149 (pc := 1) F dX8_factor_1 (vm_ok rfl) ?_
  refine x_iconst (pc := 4) F dX8_factor_4 ?_
  refine x_icmp_ge (tgt := 63) (pc := 5) F dX8_factor_5 rfl (by omega) (fun h5 => ?_) (fun h5 => ?_)
  · refine x_aload_n (i := 0) (pc := 63) F dX8_factor_63 rfl rfl ?_
    refine gf_X8_149 (pc := 64) F dX8_factor_64 (vm_ok rfl) ?_
    refine x_iconst (pc := 67) F dX8_factor_67 ?_
    refine x_icmp_ge (tgt := 124) (pc := 68) F dX8_factor_68 rfl (by omega) (fun h68 => ?_) (fun h68 => ?_)
    · refine x_aload_n (i := 0) (pc := 124) F dX8_factor_124 rfl rfl ?_
      refine x_V0z (ci := 8) (pc := 125) F dX8_factor_125 lk_X8_158 rfl (vm_ok rfl) rfl (Nat.ble_eq_true_of_le (by omega)) (c_X8_test hR hN) rfl rfl rfl ?_
      rintro z μ2 hp
      refine x_istore_n (i := 1) (pc := 128) F dX8_factor_128 rfl rfl ?_
      refine x_iload_n (i := 1) (pc := 129) F dX8_factor_129 rfl rfl ?_
      refine tq_retz (pc := 130) F dX8_factor_130 ?_ rfl rfl rfl
      have e1 : 4 ≤ (d : Int) ∨ chA tx tl a ≠ 33 ∧ chA tx tl a ≠ 40 → fF tx tl (n + 1) d a = testS tx tl a := fun z => by rw [hsp]; unfold facS; rw [if_neg (by omega), if_neg (by omega)]
      have e2 : chA tx tl a = 33 → (d : Int) < 4 → fF tx tl (n + 1) d a = notR (fF tx tl n ((d + 1 : Nat) : Int) (a + 1)) := fun z z2 => by rw [hsp]; unfold facS; rw [if_pos ⟨z, z2⟩]; rfl
      have e3 : chA tx tl a = 40 → (d : Int) < 4 → fF tx tl (n + 1) d a = parR tx tl (fA tx tl n ((d + 1 : Nat) : Int) (a + 1)) := fun z z2 => by rw [hsp]; unfold facS; rw [if_neg (by omega), if_pos ⟨z, z2⟩]; rfl
      first | (exfalso; omega) | (rw [e1 (by omega)]; exact hp) | (rw [e2 h14 (by omega)]; exact not_mo (mv_wi p1 hw) p2 (by rw [h41]; rfl)) | (rw [e3 h77 (by omega)]; exact par_mo q1 p2 q2)
    · refine x_aload_n (i := 0) (pc := 71) F dX8_factor_71 rfl rfl ?_
      refine x_bipush (pc := 72) F dX8_factor_72 (by decide) ?_
      refine x_V1z (ci := 8) (pc := 74) F dX8_factor_74 lk_X8_134 rfl (vm_ok rfl) rfl (Nat.ble_eq_true_of_le (by omega)) (c_X8_isAt hR 40 (by decide)) rfl rfl rfl ?_
      rintro _ _ ⟨rfl, rfl⟩
      refine x_if_eqB (tgt := 124) (pc := 77) F dX8_factor_77 rfl (fun h77 => ?_) (fun h77 => ?_)
      · try simp only [decide_eq_true_eq, decide_eq_false_iff_not, Bool.and_eq_true, Bool.or_eq_true, Bool.not_eq_true', Bool.not_eq_false', Bool.and_eq_false_iff, Bool.or_eq_false_iff] at h77
        rw [true_and] at h77
        refine x_aload_n (i := 0) (pc := 124) F dX8_factor_124 rfl rfl ?_
        refine x_V0z (ci := 8) (pc := 125) F dX8_factor_125 lk_X8_158 rfl (vm_ok rfl) rfl (Nat.ble_eq_true_of_le (by omega)) (c_X8_test hR hN) rfl rfl rfl ?_
        rintro z μ2 hp
        refine x_istore_n (i := 1) (pc := 128) F dX8_factor_128 rfl rfl ?_
        refine x_iload_n (i := 1) (pc := 129) F dX8_factor_129 rfl rfl ?_
        refine tq_retz (pc := 130) F dX8_factor_130 ?_ rfl rfl rfl
        have e1 : 4 ≤ (d : Int) ∨ chA tx tl a ≠ 33 ∧ chA tx tl a ≠ 40 → fF tx tl (n + 1) d a = testS tx tl a := fun z => by rw [hsp]; unfold facS; rw [if_neg (by omega), if_neg (by omega)]
        have e2 : chA tx tl a = 33 → (d : Int) < 4 → fF tx tl (n + 1) d a = notR (fF tx tl n ((d + 1 : Nat) : Int) (a + 1)) := fun z z2 => by rw [hsp]; unfold facS; rw [if_pos ⟨z, z2⟩]; rfl
        have e3 : chA tx tl a = 40 → (d : Int) < 4 → fF tx tl (n + 1) d a = parR tx tl (fA tx tl n ((d + 1 : Nat) : Int) (a + 1)) := fun z z2 => by rw [hsp]; unfold facS; rw [if_neg (by omega), if_pos ⟨z, z2⟩]; rfl
        first | (exfalso; omega) | (rw [e1 (by omega)]; exact hp) | (rw [e2 h14 (by omega)]; exact not_mo (mv_wi p1 hw) p2 (by rw [h41]; rfl)) | (rw [e3 h77 (by omega)]; exact par_mo q1 p2 q2)
      · try simp only [decide_eq_true_eq, decide_eq_false_iff_not, Bool.and_eq_true, Bool.or_eq_true, Bool.not_eq_true', Bool.not_eq_false', Bool.and_eq_false_iff, Bool.or_eq_false_iff] at h77
        rw [true_and] at h77
        have l0 : a < tl := chA_lt (tx := tx) (by omega)
        refine x_aload_n (i := 0) (pc := 80) F dX8_factor_80 rfl rfl ?_
        refine x_dup (pc := 81) F dX8_factor_81 rfl ?_
        refine gf_X8_128 (pc := 82) F dX8_factor_82 (vm_ok rfl) ?_
        refine x_iconst (pc := 85) F dX8_factor_85 ?_
        rw [a1]
        refine x_iadd (pc := 86) F dX8_factor_86 ?_
        refine pf_X8_128 (pc := 87) F dX8_factor_87 (vm_ok rfl) ?_
        refine x_aload_n (i := 0) (pc := 90) F dX8_factor_90 rfl rfl ?_
        refine x_dup (pc := 91) F dX8_factor_91 rfl ?_
        refine gf_X8_149 (pc := 92) F dX8_factor_92 (vm_ok rfl) ?_
        refine x_iconst (pc := 95) F dX8_factor_95 ?_
        rw [upM_i, if_neg (by decide), hw]
        refine x_iadd (pc := 96) F dX8_factor_96 ?_
        refine pf_X8_149 (pc := 97) F dX8_factor_97 (vm_ok rfl) ?_
        have hR1 := mv_in (d := d + 1) hR (a + 1) (by omega)
        refine x_aload_n (i := 0) (pc := 100) F dX8_factor_100 rfl rfl ?_
        refine x_V0z (ci := 8) (pc := 101) F dX8_factor_101 lk_X8_155 rfl (vm_ok rfl) rfl (Nat.ble_eq_true_of_le (by omega)) (hA (by omega) _ _ hR1 (nm_in hN) (by rw [upM_i, if_pos rfl]; omega) (by omega)) rfl rfl rfl ?_
        rintro z μ2 ⟨p1, p2⟩
        refine x_istore_n (i := 1) (pc := 104) F dX8_factor_104 rfl rfl ?_
        refine x_aload_n (i := 0) (pc := 105) F dX8_factor_105 rfl rfl ?_
        refine x_dup (pc := 106) F dX8_factor_106 rfl ?_
        refine gf_X8_149 (pc := 107) F dX8_factor_107 (vm_ok rfl) ?_
        refine x_iconst (pc := 110) F dX8_factor_110 ?_
        refine x_isub (pc := 111) F dX8_factor_111 ?_
        refine pf_X8_149 (pc := 112) F dX8_factor_112 (vm_ok rfl) ?_
        have q1 := mv_wi p1 hw
        have hgt := (hgA (a + 1) (by omega) (by omega)).1
        have hga := (hgA (a + 1) (by omega) (by omega)).2
        have hR2 := hR.mv q1 (by have := bI_rg (fA tx tl n ((d + 1 : Nat) : Int) (a + 1)).1; refine ⟨⟨?_, hgt⟩, this⟩; cases e : (fA tx tl n ((d + 1 : Nat) : Int) (a + 1)).1; (have := hga.1 e; omega); (have := hga.2 e; omega))
        refine x_aload_n (i := 0) (pc := 115) F dX8_factor_115 rfl rfl ?_
        refine x_bipush (pc := 116) F dX8_factor_116 (by decide) ?_
        refine x_V1v (ci := 8) (pc := 118) F dX8_factor_118 lk_X8_141 rfl (vm_ok rfl) rfl (Nat.ble_eq_true_of_le (by omega)) (c_X8_takes hR2 41 (by decide)) rfl rfl rfl ?_
        rintro μ3 q2
        refine x_goto (tgt := 129) (pc := 121) F dX8_factor_121 rfl ?_
        refine x_iload_n (i := 1) (pc := 129) F dX8_factor_129 rfl rfl ?_
        refine tq_retz (pc := 130) F dX8_factor_130 ?_ rfl rfl rfl
        have e1 : 4 ≤ (d : Int) ∨ chA tx tl a ≠ 33 ∧ chA tx tl a ≠ 40 → fF tx tl (n + 1) d a = testS tx tl a := fun z => by rw [hsp]; unfold facS; rw [if_neg (by omega), if_neg (by omega)]
        have e2 : chA tx tl a = 33 → (d : Int) < 4 → fF tx tl (n + 1) d a = notR (fF tx tl n ((d + 1 : Nat) : Int) (a + 1)) := fun z z2 => by rw [hsp]; unfold facS; rw [if_pos ⟨z, z2⟩]; rfl
        have e3 : chA tx tl a = 40 → (d : Int) < 4 → fF tx tl (n + 1) d a = parR tx tl (fA tx tl n ((d + 1 : Nat) : Int) (a + 1)) := fun z z2 => by rw [hsp]; unfold facS; rw [if_neg (by omega), if_pos ⟨z, z2⟩]; rfl
        first | (exfalso; omega) | (rw [e1 (by omega)]; exact hp) | (rw [e2 h14 (by omega)]; exact not_mo (mv_wi p1 hw) p2 (by rw [h41]; rfl)) | (rw [e3 h77 (by omega)]; exact par_mo q1 p2 q2)
  · refine x_aload_n (i := 0) (pc := 8) F dX8_factor_8 rfl rfl ?_
    refine x_bipush (pc := 9) F dX8_factor_9 (by decide) ?_
    refine x_V1z (ci := 8) (pc := 11) F dX8_factor_11 lk_X8_134 rfl (vm_ok rfl) rfl (Nat.ble_eq_true_of_le (by omega)) (c_X8_isAt hR 33 (by decide)) rfl rfl rfl ?_
    rintro _ _ ⟨rfl, rfl⟩
    refine x_if_eqB (tgt := 63) (pc := 14) F dX8_factor_14 rfl (fun h14 => ?_) (fun h14 => ?_)
    · try simp only [decide_eq_true_eq, decide_eq_false_iff_not, Bool.and_eq_true, Bool.or_eq_true, Bool.not_eq_true', Bool.not_eq_false', Bool.and_eq_false_iff, Bool.or_eq_false_iff] at h14
      rw [true_and] at h14
      refine x_aload_n (i := 0) (pc := 63) F dX8_factor_63 rfl rfl ?_
      refine gf_X8_149 (pc := 64) F dX8_factor_64 (vm_ok rfl) ?_
      refine x_iconst (pc := 67) F dX8_factor_67 ?_
      refine x_icmp_ge (tgt := 124) (pc := 68) F dX8_factor_68 rfl (by omega) (fun h68 => ?_) (fun h68 => ?_)
      · refine x_aload_n (i := 0) (pc := 124) F dX8_factor_124 rfl rfl ?_
        refine x_V0z (ci := 8) (pc := 125) F dX8_factor_125 lk_X8_158 rfl (vm_ok rfl) rfl (Nat.ble_eq_true_of_le (by omega)) (c_X8_test hR hN) rfl rfl rfl ?_
        rintro z μ2 hp
        refine x_istore_n (i := 1) (pc := 128) F dX8_factor_128 rfl rfl ?_
        refine x_iload_n (i := 1) (pc := 129) F dX8_factor_129 rfl rfl ?_
        refine tq_retz (pc := 130) F dX8_factor_130 ?_ rfl rfl rfl
        have e1 : 4 ≤ (d : Int) ∨ chA tx tl a ≠ 33 ∧ chA tx tl a ≠ 40 → fF tx tl (n + 1) d a = testS tx tl a := fun z => by rw [hsp]; unfold facS; rw [if_neg (by omega), if_neg (by omega)]
        have e2 : chA tx tl a = 33 → (d : Int) < 4 → fF tx tl (n + 1) d a = notR (fF tx tl n ((d + 1 : Nat) : Int) (a + 1)) := fun z z2 => by rw [hsp]; unfold facS; rw [if_pos ⟨z, z2⟩]; rfl
        have e3 : chA tx tl a = 40 → (d : Int) < 4 → fF tx tl (n + 1) d a = parR tx tl (fA tx tl n ((d + 1 : Nat) : Int) (a + 1)) := fun z z2 => by rw [hsp]; unfold facS; rw [if_neg (by omega), if_pos ⟨z, z2⟩]; rfl
        first | (exfalso; omega) | (rw [e1 (by omega)]; exact hp) | (rw [e2 h14 (by omega)]; exact not_mo (mv_wi p1 hw) p2 (by rw [h41]; rfl)) | (rw [e3 h77 (by omega)]; exact par_mo q1 p2 q2)
      · refine x_aload_n (i := 0) (pc := 71) F dX8_factor_71 rfl rfl ?_
        refine x_bipush (pc := 72) F dX8_factor_72 (by decide) ?_
        refine x_V1z (ci := 8) (pc := 74) F dX8_factor_74 lk_X8_134 rfl (vm_ok rfl) rfl (Nat.ble_eq_true_of_le (by omega)) (c_X8_isAt hR 40 (by decide)) rfl rfl rfl ?_
        rintro _ _ ⟨rfl, rfl⟩
        refine x_if_eqB (tgt := 124) (pc := 77) F dX8_factor_77 rfl (fun h77 => ?_) (fun h77 => ?_)
        · try simp only [decide_eq_true_eq, decide_eq_false_iff_not, Bool.and_eq_true, Bool.or_eq_true, Bool.not_eq_true', Bool.not_eq_false', Bool.and_eq_false_iff, Bool.or_eq_false_iff] at h77
          rw [true_and] at h77
          refine x_aload_n (i := 0) (pc := 124) F dX8_factor_124 rfl rfl ?_
          refine x_V0z (ci := 8) (pc := 125) F dX8_factor_125 lk_X8_158 rfl (vm_ok rfl) rfl (Nat.ble_eq_true_of_le (by omega)) (c_X8_test hR hN) rfl rfl rfl ?_
          rintro z μ2 hp
          refine x_istore_n (i := 1) (pc := 128) F dX8_factor_128 rfl rfl ?_
          refine x_iload_n (i := 1) (pc := 129) F dX8_factor_129 rfl rfl ?_
          refine tq_retz (pc := 130) F dX8_factor_130 ?_ rfl rfl rfl
          have e1 : 4 ≤ (d : Int) ∨ chA tx tl a ≠ 33 ∧ chA tx tl a ≠ 40 → fF tx tl (n + 1) d a = testS tx tl a := fun z => by rw [hsp]; unfold facS; rw [if_neg (by omega), if_neg (by omega)]
          have e2 : chA tx tl a = 33 → (d : Int) < 4 → fF tx tl (n + 1) d a = notR (fF tx tl n ((d + 1 : Nat) : Int) (a + 1)) := fun z z2 => by rw [hsp]; unfold facS; rw [if_pos ⟨z, z2⟩]; rfl
          have e3 : chA tx tl a = 40 → (d : Int) < 4 → fF tx tl (n + 1) d a = parR tx tl (fA tx tl n ((d + 1 : Nat) : Int) (a + 1)) := fun z z2 => by rw [hsp]; unfold facS; rw [if_neg (by omega), if_pos ⟨z, z2⟩]; rfl
          first | (exfalso; omega) | (rw [e1 (by omega)]; exact hp) | (rw [e2 h14 (by omega)]; exact not_mo (mv_wi p1 hw) p2 (by rw [h41]; rfl)) | (rw [e3 h77 (by omega)]; exact par_mo q1 p2 q2)
        · try simp only [decide_eq_true_eq, decide_eq_false_iff_not, Bool.and_eq_true, Bool.or_eq_true, Bool.not_eq_true', Bool.not_eq_false', Bool.and_eq_false_iff, Bool.or_eq_false_iff] at h77
          rw [true_and] at h77
          have l0 : a < tl := chA_lt (tx := tx) (by omega)
          refine x_aload_n (i := 0) (pc := 80) F dX8_factor_80 rfl rfl ?_
          refine x_dup (pc := 81) F dX8_factor_81 rfl ?_
          refine gf_X8_128 (pc := 82) F dX8_factor_82 (vm_ok rfl) ?_
          refine x_iconst (pc := 85) F dX8_factor_85 ?_
          rw [a1]
          refine x_iadd (pc := 86) F dX8_factor_86 ?_
          refine pf_X8_128 (pc := 87) F dX8_factor_87 (vm_ok rfl) ?_
          refine x_aload_n (i := 0) (pc := 90) F dX8_factor_90 rfl rfl ?_
          refine x_dup (pc := 91) F dX8_factor_91 rfl ?_
          refine gf_X8_149 (pc := 92) F dX8_factor_92 (vm_ok rfl) ?_
          refine x_iconst (pc := 95) F dX8_factor_95 ?_
          rw [upM_i, if_neg (by decide), hw]
          refine x_iadd (pc := 96) F dX8_factor_96 ?_
          refine pf_X8_149 (pc := 97) F dX8_factor_97 (vm_ok rfl) ?_
          have hR1 := mv_in (d := d + 1) hR (a + 1) (by omega)
          refine x_aload_n (i := 0) (pc := 100) F dX8_factor_100 rfl rfl ?_
          refine x_V0z (ci := 8) (pc := 101) F dX8_factor_101 lk_X8_155 rfl (vm_ok rfl) rfl (Nat.ble_eq_true_of_le (by omega)) (hA (by omega) _ _ hR1 (nm_in hN) (by rw [upM_i, if_pos rfl]; omega) (by omega)) rfl rfl rfl ?_
          rintro z μ2 ⟨p1, p2⟩
          refine x_istore_n (i := 1) (pc := 104) F dX8_factor_104 rfl rfl ?_
          refine x_aload_n (i := 0) (pc := 105) F dX8_factor_105 rfl rfl ?_
          refine x_dup (pc := 106) F dX8_factor_106 rfl ?_
          refine gf_X8_149 (pc := 107) F dX8_factor_107 (vm_ok rfl) ?_
          refine x_iconst (pc := 110) F dX8_factor_110 ?_
          refine x_isub (pc := 111) F dX8_factor_111 ?_
          refine pf_X8_149 (pc := 112) F dX8_factor_112 (vm_ok rfl) ?_
          have q1 := mv_wi p1 hw
          have hgt := (hgA (a + 1) (by omega) (by omega)).1
          have hga := (hgA (a + 1) (by omega) (by omega)).2
          have hR2 := hR.mv q1 (by have := bI_rg (fA tx tl n ((d + 1 : Nat) : Int) (a + 1)).1; refine ⟨⟨?_, hgt⟩, this⟩; cases e : (fA tx tl n ((d + 1 : Nat) : Int) (a + 1)).1; (have := hga.1 e; omega); (have := hga.2 e; omega))
          refine x_aload_n (i := 0) (pc := 115) F dX8_factor_115 rfl rfl ?_
          refine x_bipush (pc := 116) F dX8_factor_116 (by decide) ?_
          refine x_V1v (ci := 8) (pc := 118) F dX8_factor_118 lk_X8_141 rfl (vm_ok rfl) rfl (Nat.ble_eq_true_of_le (by omega)) (c_X8_takes hR2 41 (by decide)) rfl rfl rfl ?_
          rintro μ3 q2
          refine x_goto (tgt := 129) (pc := 121) F dX8_factor_121 rfl ?_
          refine x_iload_n (i := 1) (pc := 129) F dX8_factor_129 rfl rfl ?_
          refine tq_retz (pc := 130) F dX8_factor_130 ?_ rfl rfl rfl
          have e1 : 4 ≤ (d : Int) ∨ chA tx tl a ≠ 33 ∧ chA tx tl a ≠ 40 → fF tx tl (n + 1) d a = testS tx tl a := fun z => by rw [hsp]; unfold facS; rw [if_neg (by omega), if_neg (by omega)]
          have e2 : chA tx tl a = 33 → (d : Int) < 4 → fF tx tl (n + 1) d a = notR (fF tx tl n ((d + 1 : Nat) : Int) (a + 1)) := fun z z2 => by rw [hsp]; unfold facS; rw [if_pos ⟨z, z2⟩]; rfl
          have e3 : chA tx tl a = 40 → (d : Int) < 4 → fF tx tl (n + 1) d a = parR tx tl (fA tx tl n ((d + 1 : Nat) : Int) (a + 1)) := fun z z2 => by rw [hsp]; unfold facS; rw [if_neg (by omega), if_pos ⟨z, z2⟩]; rfl
          first | (exfalso; omega) | (rw [e1 (by omega)]; exact hp) | (rw [e2 h14 (by omega)]; exact not_mo (mv_wi p1 hw) p2 (by rw [h41]; rfl)) | (rw [e3 h77 (by omega)]; exact par_mo q1 p2 q2)
    · try simp only [decide_eq_true_eq, decide_eq_false_iff_not, Bool.and_eq_true, Bool.or_eq_true, Bool.not_eq_true', Bool.not_eq_false', Bool.and_eq_false_iff, Bool.or_eq_false_iff] at h14
      rw [true_and] at h14
      have l0 : a < tl := chA_lt (tx := tx) (by omega)
      refine x_aload_n (i := 0) (pc := 17) F dX8_factor_17 rfl rfl ?_
      refine x_dup (pc := 18) F dX8_factor_18 rfl ?_
      refine gf_X8_128 (pc := 19) F dX8_factor_19 (vm_ok rfl) ?_
      refine x_iconst (pc := 22) F dX8_factor_22 ?_
      rw [a1]
      refine x_iadd (pc := 23) F dX8_factor_23 ?_
      refine pf_X8_128 (pc := 24) F dX8_factor_24 (vm_ok rfl) ?_
      refine x_aload_n (i := 0) (pc := 27) F dX8_factor_27 rfl rfl ?_
      refine x_dup (pc := 28) F dX8_factor_28 rfl ?_
      refine gf_X8_149 (pc := 29) F dX8_factor_29 (vm_ok rfl) ?_
      refine x_iconst (pc := 32) F dX8_factor_32 ?_
      rw [upM_i, if_neg (by decide), hw]
      refine x_iadd (pc := 33) F dX8_factor_33 ?_
      refine pf_X8_149 (pc := 34) F dX8_factor_34 (vm_ok rfl) ?_
      have hR1 := mv_in (d := d + 1) hR (a + 1) (by omega)
      refine x_aload_n (i := 0) (pc := 37) F dX8_factor_37 rfl rfl ?_
      refine x_V0z (ci := 8) (pc := 38) F dX8_factor_38 lk_X8_152 rfl (vm_ok rfl) rfl (Nat.ble_eq_true_of_le (by omega)) (hF (by omega) _ _ hR1 (nm_in hN) (by rw [upM_i, if_pos rfl]; omega) (by omega)) rfl rfl rfl ?_
      rintro z μ2 ⟨p1, p2⟩
      refine x_if_neB (tgt := 48) (pc := 41) F dX8_factor_41 rfl (fun h41 => ?_) (fun h41 => ?_)
      · try simp only [decide_eq_true_eq, decide_eq_false_iff_not, Bool.and_eq_true, Bool.or_eq_true, Bool.not_eq_true', Bool.not_eq_false', Bool.and_eq_false_iff, Bool.or_eq_false_iff] at h41
        refine x_iconst (pc := 48) F dX8_factor_48 ?_
        refine x_istore_n (i := 1) (pc := 49) F dX8_factor_49 rfl rfl ?_
        refine x_aload_n (i := 0) (pc := 50) F dX8_factor_50 rfl rfl ?_
        refine x_dup (pc := 51) F dX8_factor_51 rfl ?_
        refine gf_X8_149 (pc := 52) F dX8_factor_52 (vm_ok rfl) ?_
        refine x_iconst (pc := 55) F dX8_factor_55 ?_
        refine x_isub (pc := 56) F dX8_factor_56 ?_
        refine pf_X8_149 (pc := 57) F dX8_factor_57 (vm_ok rfl) ?_
        refine x_goto (tgt := 129) (pc := 60) F dX8_factor_60 rfl ?_
        refine x_iload_n (i := 1) (pc := 129) F dX8_factor_129 rfl rfl ?_
        refine tq_retz (b := false) (pc := 130) F dX8_factor_130 ?_ rfl rfl rfl
        have e1 : 4 ≤ (d : Int) ∨ chA tx tl a ≠ 33 ∧ chA tx tl a ≠ 40 → fF tx tl (n + 1) d a = testS tx tl a := fun z => by rw [hsp]; unfold facS; rw [if_neg (by omega), if_neg (by omega)]
        have e2 : chA tx tl a = 33 → (d : Int) < 4 → fF tx tl (n + 1) d a = notR (fF tx tl n ((d + 1 : Nat) : Int) (a + 1)) := fun z z2 => by rw [hsp]; unfold facS; rw [if_pos ⟨z, z2⟩]; rfl
        have e3 : chA tx tl a = 40 → (d : Int) < 4 → fF tx tl (n + 1) d a = parR tx tl (fA tx tl n ((d + 1 : Nat) : Int) (a + 1)) := fun z z2 => by rw [hsp]; unfold facS; rw [if_neg (by omega), if_pos ⟨z, z2⟩]; rfl
        first | (exfalso; omega) | (rw [e1 (by omega)]; exact hp) | (rw [e2 h14 (by omega)]; exact not_mo (mv_wi p1 hw) p2 (by rw [h41]; rfl)) | (rw [e3 h77 (by omega)]; exact par_mo q1 p2 q2)
      · try simp only [decide_eq_true_eq, decide_eq_false_iff_not, Bool.and_eq_true, Bool.or_eq_true, Bool.not_eq_true', Bool.not_eq_false', Bool.and_eq_false_iff, Bool.or_eq_false_iff] at h41
        refine x_iconst (pc := 44) F dX8_factor_44 ?_
        refine x_goto (tgt := 49) (pc := 45) F dX8_factor_45 rfl ?_
        refine x_istore_n (i := 1) (pc := 49) F dX8_factor_49 rfl rfl ?_
        refine x_aload_n (i := 0) (pc := 50) F dX8_factor_50 rfl rfl ?_
        refine x_dup (pc := 51) F dX8_factor_51 rfl ?_
        refine gf_X8_149 (pc := 52) F dX8_factor_52 (vm_ok rfl) ?_
        refine x_iconst (pc := 55) F dX8_factor_55 ?_
        refine x_isub (pc := 56) F dX8_factor_56 ?_
        refine pf_X8_149 (pc := 57) F dX8_factor_57 (vm_ok rfl) ?_
        refine x_goto (tgt := 129) (pc := 60) F dX8_factor_60 rfl ?_
        refine x_iload_n (i := 1) (pc := 129) F dX8_factor_129 rfl rfl ?_
        refine tq_retz (b := true) (pc := 130) F dX8_factor_130 ?_ rfl rfl rfl
        have e1 : 4 ≤ (d : Int) ∨ chA tx tl a ≠ 33 ∧ chA tx tl a ≠ 40 → fF tx tl (n + 1) d a = testS tx tl a := fun z => by rw [hsp]; unfold facS; rw [if_neg (by omega), if_neg (by omega)]
        have e2 : chA tx tl a = 33 → (d : Int) < 4 → fF tx tl (n + 1) d a = notR (fF tx tl n ((d + 1 : Nat) : Int) (a + 1)) := fun z z2 => by rw [hsp]; unfold facS; rw [if_pos ⟨z, z2⟩]; rfl
        have e3 : chA tx tl a = 40 → (d : Int) < 4 → fF tx tl (n + 1) d a = parR tx tl (fA tx tl n ((d + 1 : Nat) : Int) (a + 1)) := fun z z2 => by rw [hsp]; unfold facS; rw [if_neg (by omega), if_pos ⟨z, z2⟩]; rfl
        first | (exfalso; omega) | (rw [e1 (by omega)]; exact hp) | (rw [e2 h14 (by omega)]; exact not_mo (mv_wi p1 hw) p2 (by rw [h41]; rfl)) | (rw [e3 h77 (by omega)]; exact par_mo q1 p2 q2)
/-- what stands behind the loops -/
def KB (tx : Tn) (tl : Int) (m : Nat) (d : Int) (r : Rd) : Rd := if r.1 = true then fLA tx tl m d r else rdF r.2.1
def KO (tx : Tn) (tl : Int) (m : Nat) (d : Int) (r : Rd) : Rd := if r.1 = true then fLO tx tl m d r else rdF r.2.1
def nxB (r q : Rd) : Rd := if q.1 = true then andR r q else rdF q.2.1
def nxO (r q : Rd) : Rd := if q.1 = true then orR r q else rdF q.2.1
theorem nxB_1 (r q : Rd) : (nxB r q).1 = q.1 ∧ (nxB r q).2.1 = q.2.1 := by
  unfold nxB; cases e : q.1
  · simp [rdF]
  · simp [andR]
theorem nxO_1 (r q : Rd) : (nxO r q).1 = q.1 ∧ (nxO r q).2.1 = q.2.1 := by
  unfold nxO; cases e : q.1
  · simp [rdF]
  · simp [orR]
theorem KB_s {m : Nat} {d : Int} {r : Rd} (h : r.1 = true) (hc : chA tx tl r.2.1 = 38) : KB tx tl (m + 1) d r = KB tx tl m d (nxB r (fF tx tl m d (r.2.1 + 1))) := by
  unfold KB
  rw [if_pos h, fLA_s]
  unfold lpaS nxB
  rw [if_pos hc]
  by_cases e : (fF tx tl m d (r.2.1 + 1)).1 = true
  · rw [if_pos e, if_pos e]; rfl
  · rw [if_neg e, if_neg e]; rfl
theorem KO_s {m : Nat} {d : Int} {r : Rd} (h : r.1 = true) (hc : chA tx tl r.2.1 = 124) : KO tx tl (m + 1) d r = KO tx tl m d (nxO r (fB tx tl m d (r.2.1 + 1))) := by
  unfold KO
  rw [if_pos h, fLO_s]
  unfold lpoS nxO
  rw [if_pos hc]
  by_cases e : (fB tx tl m d (r.2.1 + 1)).1 = true
  · rw [if_pos e, if_pos e]; rfl
  · rw [if_neg e, if_neg e]; rfl
theorem KB_e {m : Nat} {d : Int} {r : Rd} (hm : 0 < m) (h : r.1 = true → chA tx tl r.2.1 ≠ 38) : KB tx tl m d r = if r.1 = true then r else rdF r.2.1 := by
  unfold KB
  split
  · rw [fLA_n hm (h (by assumption))]
  · rfl
theorem KO_e {m : Nat} {d : Int} {r : Rd} (hm : 0 < m) (h : r.1 = true → chA tx tl r.2.1 ≠ 124) : KO tx tl m d r = if r.1 = true then r else rdF r.2.1 := by
  unfold KO
  split
  · rw [fLO_n hm (h (by assumption))]
  · rfl
theorem MO_e {μ μ' : Me} {r : Rd} {z : Bool} (h : MO μ μ' r vals z) : MO μ μ' (if r.1 = true then r else rdF r.2.1) vals z := by
  cases e : r.1
  · rw [if_neg (by decide)]
    have h1 := h.1
    rw [e] at h1
    exact ⟨h1, fun z => by cases z⟩
  · rw [if_pos rfl]; exact h
theorem bI_t1 {b : Bool} (h : bI b = 1) : b = true := by cases b; exact absurd h (by decide); rfl
set_option maxRecDepth 20000 in
theorem mboth_step (n d : Nat) (hd : d ≤ 4) (hF : ∀ m, m ≤ n → DF ad tx vals tl m d) : DB ad tx vals tl (n + 1) d := by
  intro μ a hR hN hw hf l E A
  obtain ⟨s1, s2, ⟨a1, a2, a3⟩, w1, w2, w3⟩ := id hR
  have hg := fun (m : Nat) (b : Int) (hb : b ≤ tl) => (pS_gd (tx := tx) (tl := tl) m (d : Int) (by omega) (by omega)).1 b hb
  have eB : fB tx tl (n + 1) d a = KB tx tl n d (fF tx tl n d a) := by rw [fB_s]; rfl
  refine con (own := RX8) (by decide +kernel) rfl rfl rfl (fun Γ F => ?_)
  have loop : ∀ (N m : Nat) (cur : Rd) (z : Bool) (μ1 : Me), tl - cur.2.1 < N → 4 * (tl - cur.2.1) + 1 ≤ m → m ≤ n → 0 ≤ cur.2.1 → cur.2.1 ≤ tl → fB tx tl (n + 1) d a = KB tx tl m d cur → MO μ μ1 cur vals z → XX Γ 3 VM ad (vl ad μ1) 0 0 5 [(0, .ref (ad (30, 0, 0))), (1, .int (I (bI z)))] [] := by
    intro N
    induction N with
    | zero => intro m cur z μ1 b1 b2 b3 b4 b5 b6 b7; omega
    | succ N ih =>
      intro m cur z μ1 b1 b2 b3 b4 b5 b6 b7
      have hR1 := hR.mv b7.1 ⟨⟨b4, b5⟩, bI_rg _⟩
      obtain ⟨m', rfl⟩ : ∃ m', m = m' + 1 := ⟨m - 1, by omega⟩
      refine x_aload_n (i := 0) (pc := 5) F dX8_both_5 rfl rfl ?_
      refine x_bipush (pc := 6) F dX8_both_6 (by decide) ?_
      refine x_V1z (ci := 8) (pc := 8) F dX8_both_8 lk_X8_134 rfl (vm_ok rfl) rfl (Nat.ble_eq_true_of_le (by omega)) (c_X8_isAt hR1 38 (by decide)) rfl rfl rfl ?_
      rintro _ _ ⟨rfl, rfl⟩
      refine x_if_eqB (tgt := 46) (pc := 11) F dX8_both_11 rfl (fun h11 => ?_) (fun h11 => ?_)
      · try simp only [decide_eq_true_eq, decide_eq_false_iff_not, Bool.and_eq_true, Bool.or_eq_true, Bool.not_eq_true', Bool.not_eq_false', Bool.and_eq_false_iff, Bool.or_eq_false_iff] at h11
        refine x_iload_n (i := 1) (pc := 46) F dX8_both_46 rfl rfl ?_
        refine tq_retz (pc := 47) F dX8_both_47 ?_ rfl rfl rfl
        rw [b6, KB_e (by omega) (fun z1 q => by have hb := bI_1 z1; first | exact h11 ⟨hb, q⟩ | (rcases h11 with h11 | h11; exact h11 hb; exact h11 q) | exact h11 hb q)]
        exact MO_e b7
      · try simp only [decide_eq_true_eq, decide_eq_false_iff_not, Bool.and_eq_true, Bool.or_eq_true, Bool.not_eq_true', Bool.not_eq_false', Bool.and_eq_false_iff, Bool.or_eq_false_iff] at h11
        obtain ⟨hb1, hc⟩ := h11
        have hc1 := bI_t1 hb1
        have l0 : cur.2.1 < tl := chA_lt (tx := tx) (by omega)
        refine x_aload_n (i := 0) (pc := 14) F dX8_both_14 rfl rfl ?_
        refine x_dup (pc := 15) F dX8_both_15 rfl ?_
        refine gf_X8_128 (pc := 16) F dX8_both_16 (vm_ok rfl) ?_
        refine x_iconst (pc := 19) F dX8_both_19 ?_
        rw [hR1.2.2.1.1]
        refine x_iadd (pc := 20) F dX8_both_20 ?_
        refine pf_X8_128 (pc := 21) F dX8_both_21 (vm_ok rfl) ?_
        have q1 : MV μ1 (upM μ1 (30, 0, 0) 11 (cur.2.1 + 1)) (cur.2.1 + 1) (bI cur.1) := MV.at hR1
        have hR2 := hR1.mv q1 ⟨by omega, bI_rg _⟩
        have hN2 := (hN.mv b7.1).mv q1
        have hw2 : upM μ1 (30, 0, 0) 11 (cur.2.1 + 1) (30, 0, 0) 13 = d := by rw [q1.2.2.1 13 (by decide) (by decide), b7.1.2.2.1 13 (by decide) (by decide), hw]
        rw [hb1] at hR2
        refine x_aload_n (i := 0) (pc := 24) F dX8_both_24 rfl rfl ?_
        refine x_V0z (ci := 8) (pc := 25) F dX8_both_25 lk_X8_152 rfl (vm_ok rfl) rfl (Nat.ble_eq_true_of_le (by omega)) (hF m' (by omega) _ _ hR2 hN2 hw2 (by omega)) rfl rfl rfl ?_
        rintro zq μ3 ⟨p1, p2⟩
        refine x_istore_n (i := 2) (pc := 28) F dX8_both_28 rfl rfl ?_
        have hq := hg m' (cur.2.1 + 1) (by omega)
        have hn1 := nxB_1 cur (fF tx tl m' d (cur.2.1 + 1))
        have hqa : 0 ≤ (fF tx tl m' d (cur.2.1 + 1)).2.1 ∧ cur.2.1 + 1 ≤ (fF tx tl m' d (cur.2.1 + 1)).2.1 := by cases e : (fF tx tl m' d (cur.2.1 + 1)).1; (have := hq.2.1 e; omega); (have := hq.2.2 e; omega)
        have hmo : ∀ zz : Bool, (zq = (fF tx tl m' d (cur.2.1 + 1)).2.2.2 vals → zz = (z && zq)) → MO μ μ3 (nxB cur (fF tx tl m' d (cur.2.1 + 1))) vals zz := fun zz hz => by
          refine ⟨by rw [hn1.1, hn1.2]; exact (b7.1.trans q1).trans p1, fun h => ?_⟩
          rw [hn1.1] at h
          rw [hz (p2 h), b7.2 hc1, p2 h]
          unfold nxB; rw [if_pos h]; rfl
        refine x_iload_n (i := 1) (pc := 29) F dX8_both_29 rfl rfl ?_
        refine x_if_eqB (tgt := 41) (pc := 30) F dX8_both_30 rfl (fun h30 => ?_) (fun h30 => ?_)
        · try simp only [decide_eq_true_eq, decide_eq_false_iff_not, Bool.and_eq_true, Bool.or_eq_true, Bool.not_eq_true', Bool.not_eq_false', Bool.and_eq_false_iff, Bool.or_eq_false_iff] at h30
          refine x_iconst (pc := 41) F dX8_both_41 ?_
          refine x_istore_n (i := 1) (pc := 42) F dX8_both_42 rfl rfl ?_
          refine x_goto (tgt := 5) (pc := 43) F dX8_both_43 rfl ?_
          first | exact x_sub (L' := [(0, .ref (ad (30, 0, 0))), (1, .int (I (bI true)))]) ⟨rfl, rfl, trivial⟩ (ih m' _ true μ3 (by rw [hn1.2]; omega) (by rw [hn1.2]; omega) (by omega) (by rw [hn1.2]; omega) (by rw [hn1.2]; exact hq.1) (b6.trans (KB_s hc1 hc)) (hmo true (fun _ => by rw [h30, h34]; rfl))) | exact x_sub (L' := [(0, .ref (ad (30, 0, 0))), (1, .int (I (bI false)))]) ⟨rfl, rfl, trivial⟩ (ih m' _ false μ3 (by rw [hn1.2]; omega) (by rw [hn1.2]; omega) (by omega) (by rw [hn1.2]; omega) (by rw [hn1.2]; exact hq.1) (b6.trans (KB_s hc1 hc)) (hmo false (fun _ => by first | (rw [h30]; rfl) | (rw [h34]; simp) | (rw [h34, Bool.and_false]))))
        · try simp only [decide_eq_true_eq, decide_eq_false_iff_not, Bool.and_eq_true, Bool.or_eq_true, Bool.not_eq_true', Bool.not_eq_false', Bool.and_eq_false_iff, Bool.or_eq_false_iff] at h30
          refine x_iload_n (i := 2) (pc := 33) F dX8_both_33 rfl rfl ?_
          refine x_if_eqB (tgt := 41) (pc := 34) F dX8_both_34 rfl (fun h34 => ?_) (fun h34 => ?_)
          · try simp only [decide_eq_true_eq, decide_eq_false_iff_not, Bool.and_eq_true, Bool.or_eq_true, Bool.not_eq_true', Bool.not_eq_false', Bool.and_eq_false_iff, Bool.or_eq_false_iff] at h34
            refine x_iconst (pc := 41) F dX8_both_41 ?_
            refine x_istore_n (i := 1) (pc := 42) F dX8_both_42 rfl rfl ?_
            refine x_goto (tgt := 5) (pc := 43) F dX8_both_43 rfl ?_
            first | exact x_sub (L' := [(0, .ref (ad (30, 0, 0))), (1, .int (I (bI true)))]) ⟨rfl, rfl, trivial⟩ (ih m' _ true μ3 (by rw [hn1.2]; omega) (by rw [hn1.2]; omega) (by omega) (by rw [hn1.2]; omega) (by rw [hn1.2]; exact hq.1) (b6.trans (KB_s hc1 hc)) (hmo true (fun _ => by rw [h30, h34]; rfl))) | exact x_sub (L' := [(0, .ref (ad (30, 0, 0))), (1, .int (I (bI false)))]) ⟨rfl, rfl, trivial⟩ (ih m' _ false μ3 (by rw [hn1.2]; omega) (by rw [hn1.2]; omega) (by omega) (by rw [hn1.2]; omega) (by rw [hn1.2]; exact hq.1) (b6.trans (KB_s hc1 hc)) (hmo false (fun _ => by first | (rw [h30]; rfl) | (rw [h34]; simp) | (rw [h34, Bool.and_false]))))
          · try simp only [decide_eq_true_eq, decide_eq_false_iff_not, Bool.and_eq_true, Bool.or_eq_true, Bool.not_eq_true', Bool.not_eq_false', Bool.and_eq_false_iff, Bool.or_eq_false_iff] at h34
            refine x_iconst (pc := 37) F dX8_both_37 ?_
            refine x_goto (tgt := 42) (pc := 38) F dX8_both_38 rfl ?_
            refine x_istore_n (i := 1) (pc := 42) F dX8_both_42 rfl rfl ?_
            refine x_goto (tgt := 5) (pc := 43) F dX8_both_43 rfl ?_
            first | exact x_sub (L' := [(0, .ref (ad (30, 0, 0))), (1, .int (I (bI true)))]) ⟨rfl, rfl, trivial⟩ (ih m' _ true μ3 (by rw [hn1.2]; omega) (by rw [hn1.2]; omega) (by omega) (by rw [hn1.2]; omega) (by rw [hn1.2]; exact hq.1) (b6.trans (KB_s hc1 hc)) (hmo true (fun _ => by rw [h30, h34]; rfl))) | exact x_sub (L' := [(0, .ref (ad (30, 0, 0))), (1, .int (I (bI false)))]) ⟨rfl, rfl, trivial⟩ (ih m' _ false μ3 (by rw [hn1.2]; omega) (by rw [hn1.2]; omega) (by omega) (by rw [hn1.2]; omega) (by rw [hn1.2]; exact hq.1) (b6.trans (KB_s hc1 hc)) (hmo false (fun _ => by first | (rw [h30]; rfl) | (rw [h34]; simp) | (rw [h34, Bool.and_false]))))
  refine x_aload_n (i := 0) (pc := 0) F dX8_both_0 rfl rfl ?_
  refine x_V0z (ci := 8) (pc := 1) F dX8_both_1 lk_X8_152 rfl (vm_ok rfl) rfl (Nat.ble_eq_true_of_le (by omega)) (hF n (Nat.le_refl _) _ _ hR hN hw (by omega)) rfl rfl rfl ?_
  rintro z μ1 hp
  refine x_istore_n (i := 1) (pc := 4) F dX8_both_4 rfl rfl ?_
  have hq := hg n a a3
  exact x_sub (L' := [(0, .ref (ad (30, 0, 0))), (1, .int (I (bI z)))]) ⟨rfl, rfl, trivial⟩ <| loop 200 n (fF tx tl n d a) z μ1 (by cases e : (fF tx tl n d a).1; (have := hq.2.1 e; omega); (have := hq.2.2 e; omega)) (by cases e : (fF tx tl n d a).1; (have := hq.2.1 e; omega); (have := hq.2.2 e; omega)) (Nat.le_refl _) (by cases e : (fF tx tl n d a).1; (have := hq.2.1 e; omega); (have := hq.2.2 e; omega)) hq.1 eB hp
set_option maxRecDepth 20000 in
theorem many_step (n d : Nat) (hd : d ≤ 4) (hF : ∀ m, m ≤ n → DB ad tx vals tl m d) : DA ad tx vals tl (n + 1) d := by
  intro μ a hR hN hw hf l E A
  obtain ⟨s1, s2, ⟨a1, a2, a3⟩, w1, w2, w3⟩ := id hR
  have hg := fun (m : Nat) (b : Int) (hb : b ≤ tl) => (pS_gd (tx := tx) (tl := tl) m (d : Int) (by omega) (by omega)).2.1 b hb
  have eB : fA tx tl (n + 1) d a = KO tx tl n d (fB tx tl n d a) := by rw [fA_s]; rfl
  refine con (own := RX8) (by decide +kernel) rfl rfl rfl (fun Γ F => ?_)
  have loop : ∀ (N m : Nat) (cur : Rd) (z : Bool) (μ1 : Me), tl - cur.2.1 < N → 4 * (tl - cur.2.1) + 1 ≤ m → m ≤ n → 0 ≤ cur.2.1 → cur.2.1 ≤ tl → fA tx tl (n + 1) d a = KO tx tl m d cur → MO μ μ1 cur vals z → XX Γ 3 VM ad (vl ad μ1) 0 0 5 [(0, .ref (ad (30, 0, 0))), (1, .int (I (bI z)))] [] := by
    intro N
    induction N with
    | zero => intro m cur z μ1 b1 b2 b3 b4 b5 b6 b7; omega
    | succ N ih =>
      intro m cur z μ1 b1 b2 b3 b4 b5 b6 b7
      have hR1 := hR.mv b7.1 ⟨⟨b4, b5⟩, bI_rg _⟩
      obtain ⟨m', rfl⟩ : ∃ m', m = m' + 1 := ⟨m - 1, by omega⟩
      refine x_aload_n (i := 0) (pc := 5) F dX8_any_5 rfl rfl ?_
      refine x_bipush (pc := 6) F dX8_any_6 (by decide) ?_
      refine x_V1z (ci := 8) (pc := 8) F dX8_any_8 lk_X8_134 rfl (vm_ok rfl) rfl (Nat.ble_eq_true_of_le (by omega)) (c_X8_isAt hR1 124 (by decide)) rfl rfl rfl ?_
      rintro _ _ ⟨rfl, rfl⟩
      refine x_if_eqB (tgt := 46) (pc := 11) F dX8_any_11 rfl (fun h11 => ?_) (fun h11 => ?_)
      · try simp only [decide_eq_true_eq, decide_eq_false_iff_not, Bool.and_eq_true, Bool.or_eq_true, Bool.not_eq_true', Bool.not_eq_false', Bool.and_eq_false_iff, Bool.or_eq_false_iff] at h11
        refine x_iload_n (i := 1) (pc := 46) F dX8_any_46 rfl rfl ?_
        refine tq_retz (pc := 47) F dX8_any_47 ?_ rfl rfl rfl
        rw [b6, KO_e (by omega) (fun z1 q => by have hb := bI_1 z1; first | exact h11 ⟨hb, q⟩ | (rcases h11 with h11 | h11; exact h11 hb; exact h11 q) | exact h11 hb q)]
        exact MO_e b7
      · try simp only [decide_eq_true_eq, decide_eq_false_iff_not, Bool.and_eq_true, Bool.or_eq_true, Bool.not_eq_true', Bool.not_eq_false', Bool.and_eq_false_iff, Bool.or_eq_false_iff] at h11
        obtain ⟨hb1, hc⟩ := h11
        have hc1 := bI_t1 hb1
        have l0 : cur.2.1 < tl := chA_lt (tx := tx) (by omega)
        refine x_aload_n (i := 0) (pc := 14) F dX8_any_14 rfl rfl ?_
        refine x_dup (pc := 15) F dX8_any_15 rfl ?_
        refine gf_X8_128 (pc := 16) F dX8_any_16 (vm_ok rfl) ?_
        refine x_iconst (pc := 19) F dX8_any_19 ?_
        rw [hR1.2.2.1.1]
        refine x_iadd (pc := 20) F dX8_any_20 ?_
        refine pf_X8_128 (pc := 21) F dX8_any_21 (vm_ok rfl) ?_
        have q1 : MV μ1 (upM μ1 (30, 0, 0) 11 (cur.2.1 + 1)) (cur.2.1 + 1) (bI cur.1) := MV.at hR1
        have hR2 := hR1.mv q1 ⟨by omega, bI_rg _⟩
        have hN2 := (hN.mv b7.1).mv q1
        have hw2 : upM μ1 (30, 0, 0) 11 (cur.2.1 + 1) (30, 0, 0) 13 = d := by rw [q1.2.2.1 13 (by decide) (by decide), b7.1.2.2.1 13 (by decide) (by decide), hw]
        rw [hb1] at hR2
        refine x_aload_n (i := 0) (pc := 24) F dX8_any_24 rfl rfl ?_
        refine x_V0z (ci := 8) (pc := 25) F dX8_any_25 lk_X8_161 rfl (vm_ok rfl) rfl (Nat.ble_eq_true_of_le (by omega)) (hF m' (by omega) _ _ hR2 hN2 hw2 (by omega)) rfl rfl rfl ?_
        rintro zq μ3 ⟨p1, p2⟩
        refine x_istore_n (i := 2) (pc := 28) F dX8_any_28 rfl rfl ?_
        have hq := hg m' (cur.2.1 + 1) (by omega)
        have hn1 := nxO_1 cur (fB tx tl m' d (cur.2.1 + 1))
        have hqa : 0 ≤ (fB tx tl m' d (cur.2.1 + 1)).2.1 ∧ cur.2.1 + 1 ≤ (fB tx tl m' d (cur.2.1 + 1)).2.1 := by cases e : (fB tx tl m' d (cur.2.1 + 1)).1; (have := hq.2.1 e; omega); (have := hq.2.2 e; omega)
        have hmo : ∀ zz : Bool, (zq = (fB tx tl m' d (cur.2.1 + 1)).2.2.2 vals → zz = (z || zq)) → MO μ μ3 (nxO cur (fB tx tl m' d (cur.2.1 + 1))) vals zz := fun zz hz => by
          refine ⟨by rw [hn1.1, hn1.2]; exact (b7.1.trans q1).trans p1, fun h => ?_⟩
          rw [hn1.1] at h
          rw [hz (p2 h), b7.2 hc1, p2 h]
          unfold nxO; rw [if_pos h]; rfl
        refine x_iload_n (i := 1) (pc := 29) F dX8_any_29 rfl rfl ?_
        refine x_if_neB (tgt := 37) (pc := 30) F dX8_any_30 rfl (fun h30 => ?_) (fun h30 => ?_)
        · try simp only [decide_eq_true_eq, decide_eq_false_iff_not, Bool.and_eq_true, Bool.or_eq_true, Bool.not_eq_true', Bool.not_eq_false', Bool.and_eq_false_iff, Bool.or_eq_false_iff] at h30
          refine x_iconst (pc := 37) F dX8_any_37 ?_
          refine x_goto (tgt := 42) (pc := 38) F dX8_any_38 rfl ?_
          refine x_istore_n (i := 1) (pc := 42) F dX8_any_42 rfl rfl ?_
          refine x_goto (tgt := 5) (pc := 43) F dX8_any_43 rfl ?_
          first | exact x_sub (L' := [(0, .ref (ad (30, 0, 0))), (1, .int (I (bI true)))]) ⟨rfl, rfl, trivial⟩ (ih m' _ true μ3 (by rw [hn1.2]; omega) (by rw [hn1.2]; omega) (by omega) (by rw [hn1.2]; omega) (by rw [hn1.2]; exact hq.1) (b6.trans (KO_s hc1 hc)) (hmo true (fun _ => by first | (rw [h30]; rfl) | (rw [h34]; simp) | (rw [h34, Bool.or_true])))) | exact x_sub (L' := [(0, .ref (ad (30, 0, 0))), (1, .int (I (bI false)))]) ⟨rfl, rfl, trivial⟩ (ih m' _ false μ3 (by rw [hn1.2]; omega) (by rw [hn1.2]; omega) (by omega) (by rw [hn1.2]; omega) (by rw [hn1.2]; exact hq.1) (b6.trans (KO_s hc1 hc)) (hmo false (fun _ => by rw [h30, h34]; rfl)))
        · try simp only [decide_eq_true_eq, decide_eq_false_iff_not, Bool.and_eq_true, Bool.or_eq_true, Bool.not_eq_true', Bool.not_eq_false', Bool.and_eq_false_iff, Bool.or_eq_false_iff] at h30
          refine x_iload_n (i := 2) (pc := 33) F dX8_any_33 rfl rfl ?_
          refine x_if_eqB (tgt := 41) (pc := 34) F dX8_any_34 rfl (fun h34 => ?_) (fun h34 => ?_)
          · try simp only [decide_eq_true_eq, decide_eq_false_iff_not, Bool.and_eq_true, Bool.or_eq_true, Bool.not_eq_true', Bool.not_eq_false', Bool.and_eq_false_iff, Bool.or_eq_false_iff] at h34
            refine x_iconst (pc := 41) F dX8_any_41 ?_
            refine x_istore_n (i := 1) (pc := 42) F dX8_any_42 rfl rfl ?_
            refine x_goto (tgt := 5) (pc := 43) F dX8_any_43 rfl ?_
            first | exact x_sub (L' := [(0, .ref (ad (30, 0, 0))), (1, .int (I (bI true)))]) ⟨rfl, rfl, trivial⟩ (ih m' _ true μ3 (by rw [hn1.2]; omega) (by rw [hn1.2]; omega) (by omega) (by rw [hn1.2]; omega) (by rw [hn1.2]; exact hq.1) (b6.trans (KO_s hc1 hc)) (hmo true (fun _ => by first | (rw [h30]; rfl) | (rw [h34]; simp) | (rw [h34, Bool.or_true])))) | exact x_sub (L' := [(0, .ref (ad (30, 0, 0))), (1, .int (I (bI false)))]) ⟨rfl, rfl, trivial⟩ (ih m' _ false μ3 (by rw [hn1.2]; omega) (by rw [hn1.2]; omega) (by omega) (by rw [hn1.2]; omega) (by rw [hn1.2]; exact hq.1) (b6.trans (KO_s hc1 hc)) (hmo false (fun _ => by rw [h30, h34]; rfl)))
          · try simp only [decide_eq_true_eq, decide_eq_false_iff_not, Bool.and_eq_true, Bool.or_eq_true, Bool.not_eq_true', Bool.not_eq_false', Bool.and_eq_false_iff, Bool.or_eq_false_iff] at h34
            refine x_iconst (pc := 37) F dX8_any_37 ?_
            refine x_goto (tgt := 42) (pc := 38) F dX8_any_38 rfl ?_
            refine x_istore_n (i := 1) (pc := 42) F dX8_any_42 rfl rfl ?_
            refine x_goto (tgt := 5) (pc := 43) F dX8_any_43 rfl ?_
            first | exact x_sub (L' := [(0, .ref (ad (30, 0, 0))), (1, .int (I (bI true)))]) ⟨rfl, rfl, trivial⟩ (ih m' _ true μ3 (by rw [hn1.2]; omega) (by rw [hn1.2]; omega) (by omega) (by rw [hn1.2]; omega) (by rw [hn1.2]; exact hq.1) (b6.trans (KO_s hc1 hc)) (hmo true (fun _ => by first | (rw [h30]; rfl) | (rw [h34]; simp) | (rw [h34, Bool.or_true])))) | exact x_sub (L' := [(0, .ref (ad (30, 0, 0))), (1, .int (I (bI false)))]) ⟨rfl, rfl, trivial⟩ (ih m' _ false μ3 (by rw [hn1.2]; omega) (by rw [hn1.2]; omega) (by omega) (by rw [hn1.2]; omega) (by rw [hn1.2]; exact hq.1) (b6.trans (KO_s hc1 hc)) (hmo false (fun _ => by rw [h30, h34]; rfl)))
  refine x_aload_n (i := 0) (pc := 0) F dX8_any_0 rfl rfl ?_
  refine x_V0z (ci := 8) (pc := 1) F dX8_any_1 lk_X8_161 rfl (vm_ok rfl) rfl (Nat.ble_eq_true_of_le (by omega)) (hF n (Nat.le_refl _) _ _ hR hN hw (by omega)) rfl rfl rfl ?_
  rintro z μ1 hp
  refine x_istore_n (i := 1) (pc := 4) F dX8_any_4 rfl rfl ?_
  have hq := hg n a a3
  exact x_sub (L' := [(0, .ref (ad (30, 0, 0))), (1, .int (I (bI z)))]) ⟨rfl, rfl, trivial⟩ <| loop 200 n (fB tx tl n d a) z μ1 (by cases e : (fB tx tl n d a).1; (have := hq.2.1 e; omega); (have := hq.2.2 e; omega)) (by cases e : (fB tx tl n d a).1; (have := hq.2.1 e; omega); (have := hq.2.2 e; omega)) (Nat.le_refl _) (by cases e : (fB tx tl n d a).1; (have := hq.2.1 e; omega); (have := hq.2.2 e; omega)) hq.1 eB hp
theorem many_all : ∀ n m d : Nat, m ≤ n → d ≤ 4 → DF ad tx vals tl m d ∧ DB ad tx vals tl m d ∧ DA ad tx vals tl m d
  | 0, m, d, hm, hd => ⟨fun μ a hR hN hw hf => by have := hR.2.2.1; omega, fun μ a hR hN hw hf => by have := hR.2.2.1; omega, fun μ a hR hN hw hf => by have := hR.2.2.1; omega⟩
  | n + 1, 0, d, hm, hd => ⟨fun μ a hR hN hw hf => by have := hR.2.2.1; omega, fun μ a hR hN hw hf => by have := hR.2.2.1; omega, fun μ a hR hN hw hf => by have := hR.2.2.1; omega⟩
  | n + 1, m + 1, d, hm, hd => by
    have ih := many_all n
    exact ⟨mfac_step m d hd (fun h4 => (ih m (d + 1) (by omega) (by omega)).1) (fun h4 => (ih m (d + 1) (by omega) (by omega)).2.2), mboth_step m d hd (fun j hj => (ih j d (by omega) hd).1), many_step m d hd (fun j hj => (ih j d (by omega) hd).2.1)⟩
theorem c_X8_any {μ : Me} {a : Int} (hR : RM μ tx tl a 1) (hN : NM μ vals) (hw : μ (30, 0, 0) 13 = 0) (l : Launch) (E : Ev) (A : Nat → Prop) : Con l E 17 m_X8_any A VM ad μ [.ref (ad (30, 0, 0))] (pz fun z μ' => MO μ μ' (fA tx tl 1000 0 a) vals z) := by
  have h1 := hR.2.2.1
  have h2 := hR.1
  exact (many_all 1000 1000 0 (Nat.le_refl _) (by omega)).2.2 μ a hR hN hw (by omega) l E A
/-! what they do once the text is not well -/
set_option maxRecDepth 20000 in
theorem c_X8_factor0 {μ : Me} {a : Int} (hR : RM μ tx tl a 0) (hN : MS μ) (hw : -2147483648 ≤ μ (30, 0, 0) 13 ∧ μ (30, 0, 0) 13 < 2147483648) (l : Launch) (E : Ev) (A : Nat → Prop) : Con l E 3 m_X8_factor A VM ad μ [.ref (ad (30, 0, 0))] (pz fun z μ' => MV μ μ' a 0) := by
  refine con (own := RX8) (by decide +kernel) rfl rfl rfl (fun Γ F => ?_)
  refine x_aload_n (i := 0) (pc := 0) F dX8_factor_0 rfl rfl ?_
  refine gf_X8_149 (pc := 1) F dX8_factor_1 (vm_ok rfl) ?_
  refine x_iconst (pc := 4) F dX8_factor_4 ?_
  refine x_icmp_ge (tgt := 63) (pc := 5) F dX8_factor_5 rfl (by omega) (fun h5 => ?_) (fun h5 => ?_)
  · refine x_aload_n (i := 0) (pc := 63) F dX8_factor_63 rfl rfl ?_
    refine gf_X8_149 (pc := 64) F dX8_factor_64 (vm_ok rfl) ?_
    refine x_iconst (pc := 67) F dX8_factor_67 ?_
    refine x_icmp_ge (tgt := 124) (pc := 68) F dX8_factor_68 rfl (by omega) (fun h68 => ?_) (fun h68 => ?_)
    · refine x_aload_n (i := 0) (pc := 124) F dX8_factor_124 rfl rfl ?_
      refine x_V0z (ci := 8) (pc := 125) F dX8_factor_125 lk_X8_158 rfl (vm_ok rfl) rfl rfl (c_X8_test0 hR hN) rfl rfl rfl ?_
      rintro z μ2 hp
      refine x_istore_n (i := 1) (pc := 128) F dX8_factor_128 rfl rfl ?_
      refine x_iload_n (i := 1) (pc := 129) F dX8_factor_129 rfl rfl ?_
      refine tq_retz (pc := 130) F dX8_factor_130 ?_ rfl rfl rfl
      exact hp
    · refine x_aload_n (i := 0) (pc := 71) F dX8_factor_71 rfl rfl ?_
      refine x_bipush (pc := 72) F dX8_factor_72 (by decide) ?_
      refine x_V1z (ci := 8) (pc := 74) F dX8_factor_74 lk_X8_134 rfl (vm_ok rfl) rfl rfl (c_X8_isAt hR 40 (by decide)) rfl rfl rfl ?_
      rintro _ _ ⟨rfl, rfl⟩
      refine x_if_eqB (tgt := 124) (pc := 77) F dX8_factor_77 rfl (fun h77 => ?_) (fun h77 => ?_)
      · try simp only [decide_eq_true_eq, decide_eq_false_iff_not, Bool.and_eq_true, Bool.or_eq_true, Bool.not_eq_true', Bool.not_eq_false', Bool.and_eq_false_iff, Bool.or_eq_false_iff] at h77
        refine x_aload_n (i := 0) (pc := 124) F dX8_factor_124 rfl rfl ?_
        refine x_V0z (ci := 8) (pc := 125) F dX8_factor_125 lk_X8_158 rfl (vm_ok rfl) rfl rfl (c_X8_test0 hR hN) rfl rfl rfl ?_
        rintro z μ2 hp
        refine x_istore_n (i := 1) (pc := 128) F dX8_factor_128 rfl rfl ?_
        refine x_iload_n (i := 1) (pc := 129) F dX8_factor_129 rfl rfl ?_
        refine tq_retz (pc := 130) F dX8_factor_130 ?_ rfl rfl rfl
        exact hp
      · try simp only [decide_eq_true_eq, decide_eq_false_iff_not, Bool.and_eq_true, Bool.or_eq_true, Bool.not_eq_true', Bool.not_eq_false', Bool.and_eq_false_iff, Bool.or_eq_false_iff] at h77
        exfalso; omega
  · refine x_aload_n (i := 0) (pc := 8) F dX8_factor_8 rfl rfl ?_
    refine x_bipush (pc := 9) F dX8_factor_9 (by decide) ?_
    refine x_V1z (ci := 8) (pc := 11) F dX8_factor_11 lk_X8_134 rfl (vm_ok rfl) rfl rfl (c_X8_isAt hR 33 (by decide)) rfl rfl rfl ?_
    rintro _ _ ⟨rfl, rfl⟩
    refine x_if_eqB (tgt := 63) (pc := 14) F dX8_factor_14 rfl (fun h14 => ?_) (fun h14 => ?_)
    · try simp only [decide_eq_true_eq, decide_eq_false_iff_not, Bool.and_eq_true, Bool.or_eq_true, Bool.not_eq_true', Bool.not_eq_false', Bool.and_eq_false_iff, Bool.or_eq_false_iff] at h14
      refine x_aload_n (i := 0) (pc := 63) F dX8_factor_63 rfl rfl ?_
      refine gf_X8_149 (pc := 64) F dX8_factor_64 (vm_ok rfl) ?_
      refine x_iconst (pc := 67) F dX8_factor_67 ?_
      refine x_icmp_ge (tgt := 124) (pc := 68) F dX8_factor_68 rfl (by omega) (fun h68 => ?_) (fun h68 => ?_)
      · refine x_aload_n (i := 0) (pc := 124) F dX8_factor_124 rfl rfl ?_
        refine x_V0z (ci := 8) (pc := 125) F dX8_factor_125 lk_X8_158 rfl (vm_ok rfl) rfl rfl (c_X8_test0 hR hN) rfl rfl rfl ?_
        rintro z μ2 hp
        refine x_istore_n (i := 1) (pc := 128) F dX8_factor_128 rfl rfl ?_
        refine x_iload_n (i := 1) (pc := 129) F dX8_factor_129 rfl rfl ?_
        refine tq_retz (pc := 130) F dX8_factor_130 ?_ rfl rfl rfl
        exact hp
      · refine x_aload_n (i := 0) (pc := 71) F dX8_factor_71 rfl rfl ?_
        refine x_bipush (pc := 72) F dX8_factor_72 (by decide) ?_
        refine x_V1z (ci := 8) (pc := 74) F dX8_factor_74 lk_X8_134 rfl (vm_ok rfl) rfl rfl (c_X8_isAt hR 40 (by decide)) rfl rfl rfl ?_
        rintro _ _ ⟨rfl, rfl⟩
        refine x_if_eqB (tgt := 124) (pc := 77) F dX8_factor_77 rfl (fun h77 => ?_) (fun h77 => ?_)
        · try simp only [decide_eq_true_eq, decide_eq_false_iff_not, Bool.and_eq_true, Bool.or_eq_true, Bool.not_eq_true', Bool.not_eq_false', Bool.and_eq_false_iff, Bool.or_eq_false_iff] at h77
          refine x_aload_n (i := 0) (pc := 124) F dX8_factor_124 rfl rfl ?_
          refine x_V0z (ci := 8) (pc := 125) F dX8_factor_125 lk_X8_158 rfl (vm_ok rfl) rfl rfl (c_X8_test0 hR hN) rfl rfl rfl ?_
          rintro z μ2 hp
          refine x_istore_n (i := 1) (pc := 128) F dX8_factor_128 rfl rfl ?_
          refine x_iload_n (i := 1) (pc := 129) F dX8_factor_129 rfl rfl ?_
          refine tq_retz (pc := 130) F dX8_factor_130 ?_ rfl rfl rfl
          exact hp
        · try simp only [decide_eq_true_eq, decide_eq_false_iff_not, Bool.and_eq_true, Bool.or_eq_true, Bool.not_eq_true', Bool.not_eq_false', Bool.and_eq_false_iff, Bool.or_eq_false_iff] at h77
          exfalso; omega
    · try simp only [decide_eq_true_eq, decide_eq_false_iff_not, Bool.and_eq_true, Bool.or_eq_true, Bool.not_eq_true', Bool.not_eq_false', Bool.and_eq_false_iff, Bool.or_eq_false_iff] at h14
      exfalso; omega
set_option maxRecDepth 20000 in
theorem c_X8_both0 {μ : Me} {a : Int} (hR : RM μ tx tl a 0) (hN : MS μ) (hw : -2147483648 ≤ μ (30, 0, 0) 13 ∧ μ (30, 0, 0) 13 < 2147483648) (l : Launch) (E : Ev) (A : Nat → Prop) : Con l E 4 m_X8_both A VM ad μ [.ref (ad (30, 0, 0))] (pz fun z μ' => MV μ μ' a 0) := by
  refine con (own := RX8) (by decide +kernel) rfl rfl rfl (fun Γ F => ?_)
  refine x_aload_n (i := 0) (pc := 0) F dX8_both_0 rfl rfl ?_
  refine x_V0z (ci := 8) (pc := 1) F dX8_both_1 lk_X8_152 rfl (vm_ok rfl) rfl rfl (c_X8_factor0 hR hN hw) rfl rfl rfl ?_
  rintro z μ1 hp
  have hR1 := hR.mv hp ⟨⟨hR.2.2.1.2.1, hR.2.2.1.2.2⟩, by decide, by decide⟩
  refine x_istore_n (i := 1) (pc := 4) F dX8_both_4 rfl rfl ?_
  refine x_aload_n (i := 0) (pc := 5) F dX8_both_5 rfl rfl ?_
  refine x_bipush (pc := 6) F dX8_both_6 (by decide) ?_
  refine x_V1z (ci := 8) (pc := 8) F dX8_both_8 lk_X8_134 rfl (vm_ok rfl) rfl rfl (c_X8_isAt hR1 38 (by decide)) rfl rfl rfl ?_
  rintro _ _ ⟨rfl, rfl⟩
  refine x_if_eqB (tgt := 46) (pc := 11) F dX8_both_11 rfl (fun h11 => ?_) (fun h11 => ?_)
  · try simp only [decide_eq_true_eq, decide_eq_false_iff_not, Bool.and_eq_true, Bool.or_eq_true, Bool.not_eq_true', Bool.not_eq_false', Bool.and_eq_false_iff, Bool.or_eq_false_iff] at h11
    refine x_iload_n (i := 1) (pc := 46) F dX8_both_46 rfl rfl ?_
    refine tq_retz (pc := 47) F dX8_both_47 ?_ rfl rfl rfl
    exact hp
  · try simp only [decide_eq_true_eq, decide_eq_false_iff_not, Bool.and_eq_true, Bool.or_eq_true, Bool.not_eq_true', Bool.not_eq_false', Bool.and_eq_false_iff, Bool.or_eq_false_iff] at h11
    exfalso; omega
set_option maxRecDepth 20000 in
theorem c_X8_any0 {μ : Me} {a : Int} (hR : RM μ tx tl a 0) (hN : MS μ) (hw : -2147483648 ≤ μ (30, 0, 0) 13 ∧ μ (30, 0, 0) 13 < 2147483648) (l : Launch) (E : Ev) (A : Nat → Prop) : Con l E 5 m_X8_any A VM ad μ [.ref (ad (30, 0, 0))] (pz fun z μ' => MV μ μ' a 0) := by
  refine con (own := RX8) (by decide +kernel) rfl rfl rfl (fun Γ F => ?_)
  refine x_aload_n (i := 0) (pc := 0) F dX8_any_0 rfl rfl ?_
  refine x_V0z (ci := 8) (pc := 1) F dX8_any_1 lk_X8_161 rfl (vm_ok rfl) rfl rfl (c_X8_both0 hR hN hw) rfl rfl rfl ?_
  rintro z μ1 hp
  have hR1 := hR.mv hp ⟨⟨hR.2.2.1.2.1, hR.2.2.1.2.2⟩, by decide, by decide⟩
  refine x_istore_n (i := 1) (pc := 4) F dX8_any_4 rfl rfl ?_
  refine x_aload_n (i := 0) (pc := 5) F dX8_any_5 rfl rfl ?_
  refine x_bipush (pc := 6) F dX8_any_6 (by decide) ?_
  refine x_V1z (ci := 8) (pc := 8) F dX8_any_8 lk_X8_134 rfl (vm_ok rfl) rfl rfl (c_X8_isAt hR1 124 (by decide)) rfl rfl rfl ?_
  rintro _ _ ⟨rfl, rfl⟩
  refine x_if_eqB (tgt := 46) (pc := 11) F dX8_any_11 rfl (fun h11 => ?_) (fun h11 => ?_)
  · try simp only [decide_eq_true_eq, decide_eq_false_iff_not, Bool.and_eq_true, Bool.or_eq_true, Bool.not_eq_true', Bool.not_eq_false', Bool.and_eq_false_iff, Bool.or_eq_false_iff] at h11
    refine x_iload_n (i := 1) (pc := 46) F dX8_any_46 rfl rfl ?_
    refine tq_retz (pc := 47) F dX8_any_47 ?_ rfl rfl rfl
    exact hp
  · try simp only [decide_eq_true_eq, decide_eq_false_iff_not, Bool.and_eq_true, Bool.or_eq_true, Bool.not_eq_true', Bool.not_eq_false', Bool.and_eq_false_iff, Bool.or_eq_false_iff] at h11
    exfalso; omega
end MF
