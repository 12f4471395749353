/-! ===== the reference reads a house ===== -/
/-- what stands behind a clause, with m more to come -/
def STm (tx : Tn) (tl : Int) (m : Nat) (r : Bool × Cl) : Bool × Cl := if r.1 = true then (if chA tx tl r.2.1 = 59 ∧ m ≠ 0 then alS tx tl m (r.2.1 + 1, r.2.2) else (decide (r.2.1 = tl), r.2)) else (false, r.2)
/-- the text read has come to tx, tl; size and read -/
def RT (μ : Me) (tx : Tn) (tl : Int) : Prop := (μ (30, 0, 0) 10 = tl ∧ 0 ≤ tl ∧ tl ≤ 100) ∧ ∀ k, 0 ≤ k → k < tl → μ (37, 0, 0) k = tx k ∧ 0 ≤ tx k ∧ tx k < 128
section MRA
variable {ad : Ob → Nat} {μ : Me} {tx vals : Tn} {tl : Int}
set_option maxRecDepth 20000 in
theorem c_X8_readAll (hT : RT μ tx tl) (hN : NM μ vals) (l : Launch) (E : Ev) (A : Nat → Prop) : Con l E 19 m_X8_readAll A VM ad μ [.ref (ad (30, 0, 0))] (pz fun z μ' => z = (rdS tx tl).1 ∧ μ' (30, 0, 0) 11 = (rdS tx tl).2.1 ∧ FS μ μ' ∧ ((rdS tx tl).1 = true → μ' (30, 0, 0) 14 = (hsS tx tl).1 vals ∧ μ' (30, 0, 0) 15 = (hsS tx tl).2.1 ∧ μ' (30, 0, 0) 16 = (hsS tx tl).2.2)) := by
  obtain ⟨⟨t1, t2, t3⟩, t4⟩ := id hT
  have hrd := gd_rd (tx := tx) t2
  refine con (own := RX8) (by decide +kernel) rfl rfl rfl (fun Γ F => ?_)
  have fin : ∀ (m : Nat) (r : Bool × Cl) (μ1 : Me), FS μ μ1 → μ1 (30, 0, 0) 11 = r.2.1 → (r.1 = true → MC μ1 tx tl r.2 vals) → (r.1 = true → ¬ (chA tx tl r.2.1 = 59 ∧ m ≠ 0)) → rdS tx tl = STm tx tl m r → (r.1 && decide (r.2.1 = tl)) = (rdS tx tl).1 ∧ μ1 (30, 0, 0) 11 = (rdS tx tl).2.1 ∧ FS μ μ1 ∧ ((rdS tx tl).1 = true → μ1 (30, 0, 0) 14 = (hsS tx tl).1 vals ∧ μ1 (30, 0, 0) 15 = (hsS tx tl).2.1 ∧ μ1 (30, 0, 0) 16 = (hsS tx tl).2.2) := by
    intro m r μ1 h1 h2 h3 h4 h5
    unfold hsS
    unfold STm at h5
    cases e : r.1
    · rw [if_neg (by rw [e]; decide)] at h5
      rw [h5]
      exact ⟨rfl, h2, h1, fun z => by cases z⟩
    · rw [if_pos e, if_neg (h4 e)] at h5
      rw [h5]
      exact ⟨by rw [Bool.true_and], h2, h1, fun _ => (h3 e).2⟩
  have loop : ∀ (m : Nat) (i : Int) (r : Bool × Cl) (μ1 : Me), (m : Int) + i = 10 → 1 ≤ i → FS μ μ1 → μ1 (30, 0, 0) 11 = r.2.1 → μ1 (30, 0, 0) 12 = bI r.1 → 0 ≤ r.2.1 ∧ r.2.1 ≤ tl → (r.1 = true → MC μ1 tx tl r.2 vals ∧ gdC tl r.2) → rdS tx tl = STm tx tl m r → XX Γ 2 VM ad (vl ad μ1) 0 0 32 [(0, .ref (ad (30, 0, 0))), (1, .int (I i))] [] := by
    intro m
    induction m with
    | zero =>
      intro i r μ1 b1 b2 b3 b4 b5 b6 b7 b8
      have hfin := fin 0 r μ1 b3 b4 (fun z => (b7 z).1) (fun _ z => z.2 rfl) b8
      have hbr := bI_rg r.1
      have ht : μ1 (30, 0, 0) 10 = tl := by rw [b3.1 10 (by decide), t1]
      refine x_iload_n (i := 1) (pc := 32) F dX8_readAll_32 rfl rfl ?_
      refine x_bipush (pc := 33) F dX8_readAll_33 (by decide) ?_
      refine x_icmp_ge (tgt := 67) (pc := 35) F dX8_readAll_35 rfl (by omega) (fun h35 => ?_) (fun h35 => ?_)
      · refine x_aload_n (i := 0) (pc := 67) F dX8_readAll_67 rfl rfl ?_
        refine gf_X8_125 (pc := 68) F dX8_readAll_68 (vm_ok rfl) ?_
        refine x_if_eq (tgt := 89) (pc := 71) F dX8_readAll_71 rfl (by omega) (fun h71 => ?_) (fun h71 => ?_)
        · refine x_iconst (pc := 89) F dX8_readAll_89 ?_
          refine tq_retz (b := false) (pc := 90) F dX8_readAll_90 ?_ rfl rfl rfl
          first | (rw [show (r.1 && decide (r.2.1 = tl)) = true by rw [bI_t1 (show bI r.1 = 1 by omega), decide_eq_true (by omega)]; rfl] at hfin; exact hfin) | (rw [show (r.1 && decide (r.2.1 = tl)) = false by first | rw [decide_eq_false (by omega), Bool.and_false] | (rw [show r.1 = false by cases e : r.1; rfl; (rw [e] at b5; exact absurd (b5.symm.trans (by omega : _ = (0 : Int))) (by decide)), Bool.false_and])] at hfin; exact hfin)
        · refine x_aload_n (i := 0) (pc := 74) F dX8_readAll_74 rfl rfl ?_
          refine gf_X8_128 (pc := 75) F dX8_readAll_75 (vm_ok rfl) ?_
          refine x_aload_n (i := 0) (pc := 78) F dX8_readAll_78 rfl rfl ?_
          refine gf_X8_131 (pc := 79) F dX8_readAll_79 (vm_ok rfl) ?_
          refine x_icmp_ne (tgt := 89) (pc := 82) F dX8_readAll_82 rfl (by omega) (fun h82 => ?_) (fun h82 => ?_)
          · refine x_iconst (pc := 89) F dX8_readAll_89 ?_
            refine tq_retz (b := false) (pc := 90) F dX8_readAll_90 ?_ rfl rfl rfl
            first | (rw [show (r.1 && decide (r.2.1 = tl)) = true by rw [bI_t1 (show bI r.1 = 1 by omega), decide_eq_true (by omega)]; rfl] at hfin; exact hfin) | (rw [show (r.1 && decide (r.2.1 = tl)) = false by first | rw [decide_eq_false (by omega), Bool.and_false] | (rw [show r.1 = false by cases e : r.1; rfl; (rw [e] at b5; exact absurd (b5.symm.trans (by omega : _ = (0 : Int))) (by decide)), Bool.false_and])] at hfin; exact hfin)
          · refine x_iconst (pc := 85) F dX8_readAll_85 ?_
            refine x_goto (tgt := 90) (pc := 86) F dX8_readAll_86 rfl ?_
            refine tq_retz (b := true) (pc := 90) F dX8_readAll_90 ?_ rfl rfl rfl
            first | (rw [show (r.1 && decide (r.2.1 = tl)) = true by rw [bI_t1 (show bI r.1 = 1 by omega), decide_eq_true (by omega)]; rfl] at hfin; exact hfin) | (rw [show (r.1 && decide (r.2.1 = tl)) = false by first | rw [decide_eq_false (by omega), Bool.and_false] | (rw [show r.1 = false by cases e : r.1; rfl; (rw [e] at b5; exact absurd (b5.symm.trans (by omega : _ = (0 : Int))) (by decide)), Bool.false_and])] at hfin; exact hfin)
      · exfalso; omega
    | succ m ih =>
      intro i r μ1 b1 b2 b3 b4 b5 b6 b7 b8
      have hbr := bI_rg r.1
      have ht : μ1 (30, 0, 0) 10 = tl := by rw [b3.1 10 (by decide), t1]
      have hR1 : RM μ1 tx tl r.2.1 (bI r.1) := ⟨⟨ht, t2, t3⟩, fun k x y => by rw [b3.2 _ (by simp)]; exact t4 k x y, ⟨b4, b6⟩, b5, hbr⟩
      refine x_iload_n (i := 1) (pc := 32) F dX8_readAll_32 rfl rfl ?_
      refine x_bipush (pc := 33) F dX8_readAll_33 (by decide) ?_
      refine x_icmp_ge (tgt := 67) (pc := 35) F dX8_readAll_35 rfl (by omega) (fun h35 => ?_) (fun h35 => ?_)
      · exfalso; omega
      · refine x_aload_n (i := 0) (pc := 38) F dX8_readAll_38 rfl rfl ?_
        refine x_bipush (pc := 39) F dX8_readAll_39 (by decide) ?_
        refine x_V1z (ci := 8) (pc := 41) F dX8_readAll_41 lk_X8_134 rfl (vm_ok rfl) rfl rfl (c_X8_isAt hR1 59 (by decide)) rfl rfl rfl ?_
        rintro _ _ ⟨rfl, rfl⟩
        refine x_if_eqB (tgt := 67) (pc := 44) F dX8_readAll_44 rfl (fun h44 => ?_) (fun h44 => ?_)
        · try simp only [decide_eq_true_eq, decide_eq_false_iff_not, Bool.and_eq_true, Bool.or_eq_true, Bool.not_eq_true', Bool.not_eq_false', Bool.and_eq_false_iff, Bool.or_eq_false_iff] at h44
          have hfin := fin (m + 1) r μ1 b3 b4 (fun z => (b7 z).1) (fun z q => by have hb := bI_1 z; first | exact h44 ⟨hb, q.1⟩ | (rcases h44 with h44 | h44; exact h44 hb; exact h44 q.1) | exact h44 hb q.1) b8
          refine x_aload_n (i := 0) (pc := 67) F dX8_readAll_67 rfl rfl ?_
          refine gf_X8_125 (pc := 68) F dX8_readAll_68 (vm_ok rfl) ?_
          refine x_if_eq (tgt := 89) (pc := 71) F dX8_readAll_71 rfl (by omega) (fun h71 => ?_) (fun h71 => ?_)
          · refine x_iconst (pc := 89) F dX8_readAll_89 ?_
            refine tq_retz (b := false) (pc := 90) F dX8_readAll_90 ?_ rfl rfl rfl
            first | (rw [show (r.1 && decide (r.2.1 = tl)) = true by rw [bI_t1 (show bI r.1 = 1 by omega), decide_eq_true (by omega)]; rfl] at hfin; exact hfin) | (rw [show (r.1 && decide (r.2.1 = tl)) = false by first | rw [decide_eq_false (by omega), Bool.and_false] | (rw [show r.1 = false by cases e : r.1; rfl; (rw [e] at b5; exact absurd (b5.symm.trans (by omega : _ = (0 : Int))) (by decide)), Bool.false_and])] at hfin; exact hfin)
          · refine x_aload_n (i := 0) (pc := 74) F dX8_readAll_74 rfl rfl ?_
            refine gf_X8_128 (pc := 75) F dX8_readAll_75 (vm_ok rfl) ?_
            refine x_aload_n (i := 0) (pc := 78) F dX8_readAll_78 rfl rfl ?_
            refine gf_X8_131 (pc := 79) F dX8_readAll_79 (vm_ok rfl) ?_
            refine x_icmp_ne (tgt := 89) (pc := 82) F dX8_readAll_82 rfl (by omega) (fun h82 => ?_) (fun h82 => ?_)
            · refine x_iconst (pc := 89) F dX8_readAll_89 ?_
              refine tq_retz (b := false) (pc := 90) F dX8_readAll_90 ?_ rfl rfl rfl
              first | (rw [show (r.1 && decide (r.2.1 = tl)) = true by rw [bI_t1 (show bI r.1 = 1 by omega), decide_eq_true (by omega)]; rfl] at hfin; exact hfin) | (rw [show (r.1 && decide (r.2.1 = tl)) = false by first | rw [decide_eq_false (by omega), Bool.and_false] | (rw [show r.1 = false by cases e : r.1; rfl; (rw [e] at b5; exact absurd (b5.symm.trans (by omega : _ = (0 : Int))) (by decide)), Bool.false_and])] at hfin; exact hfin)
            · refine x_iconst (pc := 85) F dX8_readAll_85 ?_
              refine x_goto (tgt := 90) (pc := 86) F dX8_readAll_86 rfl ?_
              refine tq_retz (b := true) (pc := 90) F dX8_readAll_90 ?_ rfl rfl rfl
              first | (rw [show (r.1 && decide (r.2.1 = tl)) = true by rw [bI_t1 (show bI r.1 = 1 by omega), decide_eq_true (by omega)]; rfl] at hfin; exact hfin) | (rw [show (r.1 && decide (r.2.1 = tl)) = false by first | rw [decide_eq_false (by omega), Bool.and_false] | (rw [show r.1 = false by cases e : r.1; rfl; (rw [e] at b5; exact absurd (b5.symm.trans (by omega : _ = (0 : Int))) (by decide)), Bool.false_and])] at hfin; exact hfin)
        · try simp only [decide_eq_true_eq, decide_eq_false_iff_not, Bool.and_eq_true, Bool.or_eq_true, Bool.not_eq_true', Bool.not_eq_false', Bool.and_eq_false_iff, Bool.or_eq_false_iff] at h44
          obtain ⟨hb1, hc⟩ := h44
          have hr1 := bI_t1 hb1
          have l0 : r.2.1 < tl := chA_lt (tx := tx) (by omega)
          obtain ⟨hM, hG⟩ := b7 hr1
          refine x_aload_n (i := 0) (pc := 47) F dX8_readAll_47 rfl rfl ?_
          refine x_dup (pc := 48) F dX8_readAll_48 rfl ?_
          refine gf_X8_128 (pc := 49) F dX8_readAll_49 (vm_ok rfl) ?_
          refine x_iconst (pc := 52) F dX8_readAll_52 ?_
          rw [b4]
          refine x_iadd (pc := 53) F dX8_readAll_53 ?_
          refine pf_X8_128 (pc := 54) F dX8_readAll_54 (vm_ok rfl) ?_
          have q1 : MV μ1 (upM μ1 (30, 0, 0) 11 (r.2.1 + 1)) (r.2.1 + 1) 1 := by have := MV.at (b := r.2.1 + 1) hR1; rw [hb1] at this; exact this
          have hC2 : MC (upM μ1 (30, 0, 0) 11 (r.2.1 + 1)) tx tl (r.2.1 + 1, r.2.2) vals := ⟨hR1.mv q1 ⟨⟨by omega, by omega⟩, by decide, by decide⟩, by rw [upM_i, if_neg (by decide)]; exact hM.2.1, by rw [upM_i, if_neg (by decide)]; exact hM.2.2.1, by rw [upM_i, if_neg (by decide)]; exact hM.2.2.2⟩
          have hG2 : gdC tl (r.2.1 + 1, r.2.2) := by
            obtain ⟨⟨k0, k0'⟩, k1, k2, k3, k4, k5⟩ := hG
            exact ⟨⟨by simp only; omega, by simp only; omega⟩, by simp only; omega, k2, k3, k4, k5⟩
          have hgc := gd_cl (tx := tx) hG2
          have hgc1 : r.2.1 + 1 ≤ (clS tx tl (r.2.1 + 1, r.2.2)).2.1 := hgc.1.1
          refine x_aload_n (i := 0) (pc := 57) F dX8_readAll_57 rfl rfl ?_
          refine x_V0v (ci := 8) (pc := 58) F dX8_readAll_58 lk_X8_173 rfl (vm_ok rfl) rfl rfl (c_X8_clause hC2 ((hN.fs b3).mv q1)) rfl rfl rfl ?_
          rintro μ3 ⟨p1, p2, p3, p4⟩
          refine x_iinc (pc := 61) F dX8_readAll_61 rfl rfl ?_
          refine x_goto (tgt := 32) (pc := 64) F dX8_readAll_64 rfl ?_
          refine x_sub (L' := [(0, .ref (ad (30, 0, 0))), (1, .int (I (i + 1)))]) ⟨rfl, rfl, trivial⟩ (ih (i + 1) (clS tx tl (r.2.1 + 1, r.2.2)) μ3 (by omega) (by omega) ((b3.trans (FS.mv q1)).trans p3) p1 p2 ⟨by omega, hgc.1.2⟩ (fun z => ⟨p4 z, (hgc.2 z).1⟩) ?_)
          rw [b8]
          show STm tx tl (m + 1) r = _
          unfold STm
          rw [if_pos hr1, if_pos ⟨hc, by omega⟩]
          rfl
  refine x_aload_n (i := 0) (pc := 0) F dX8_readAll_0 rfl rfl ?_
  refine x_iconst (pc := 1) F dX8_readAll_1 ?_
  refine pf_X8_128 (pc := 2) F dX8_readAll_2 (vm_ok rfl) ?_
  refine x_aload_n (i := 0) (pc := 5) F dX8_readAll_5 rfl rfl ?_
  refine x_iconst (pc := 6) F dX8_readAll_6 ?_
  refine pf_X8_125 (pc := 7) F dX8_readAll_7 (vm_ok rfl) (by decide) (by decide) ?_
  refine x_aload_n (i := 0) (pc := 10) F dX8_readAll_10 rfl rfl ?_
  refine x_iconst (pc := 11) F dX8_readAll_11 ?_
  refine pf_X8_170 (pc := 12) F dX8_readAll_12 (vm_ok rfl) ?_
  refine x_aload_n (i := 0) (pc := 15) F dX8_readAll_15 rfl rfl ?_
  refine x_bipush (pc := 16) F dX8_readAll_16 (by decide) ?_
  refine pf_X8_164 (pc := 18) F dX8_readAll_18 (vm_ok rfl) ?_
  refine x_aload_n (i := 0) (pc := 21) F dX8_readAll_21 rfl rfl ?_
  refine x_iconst (pc := 22) F dX8_readAll_22 ?_
  refine pf_X8_167 (pc := 23) F dX8_readAll_23 (vm_ok rfl) ?_
  generalize hm0 : upM (upM (upM (upM (upM μ (30, 0, 0) 11 0) (30, 0, 0) 12 1) (30, 0, 0) 14 0) (30, 0, 0) 15 10) (30, 0, 0) 16 0 = μ0
  have f0 : FS μ μ0 := by rw [← hm0]; exact ((((FS.up (by decide)).trans (FS.up (by decide))).trans (FS.up (by decide))).trans (FS.up (by decide))).trans (FS.up (by decide))
  have hC0 : MC μ0 tx tl (0, [], fun _ => 0, 10, 0) vals := by
    refine ⟨⟨⟨by rw [f0.1 10 (by decide)]; exact t1, t2, t3⟩, fun k x y => by rw [f0.2 _ (by simp)]; exact t4 k x y, ⟨?_, by decide, t2⟩, ?_, by decide, by decide⟩, ?_, ?_, ?_⟩ <;> rw [← hm0] <;> simp [upM]
  have hG0 : gdC tl (0, [], fun _ => 0, 10, 0) := ⟨⟨by decide, t2⟩, by decide, fun x hx => (by cases hx), fun vals => ⟨by simp [okC], rfl⟩, by decide, by decide⟩
  have hgc := gd_cl (tx := tx) hG0
  have hgc1 : 0 ≤ (clS tx tl (0, [], fun _ => 0, 10, 0)).2.1 := hgc.1.1
  refine x_iconst (pc := 26) F dX8_readAll_26 ?_
  refine x_istore_n (i := 1) (pc := 27) F dX8_readAll_27 rfl rfl ?_
  refine x_aload_n (i := 0) (pc := 28) F dX8_readAll_28 rfl rfl ?_
  refine x_V0v (ci := 8) (pc := 29) F dX8_readAll_29 lk_X8_173 rfl (vm_ok rfl) rfl rfl (c_X8_clause hC0 (hN.fs f0)) rfl rfl rfl ?_
  rintro μ3 ⟨p1, p2, p3, p4⟩
  exact x_sub (L' := [(0, .ref (ad (30, 0, 0))), (1, .int (I 1))]) ⟨rfl, rfl, trivial⟩ (loop 9 1 (clS tx tl (0, [], fun _ => 0, 10, 0)) μ3 (by decide) (by decide) (f0.trans p3) p1 p2 ⟨hgc1, hgc.1.2⟩ (fun z => ⟨p4 z, (hgc.2 z).1⟩) rfl)
end MRA
/-- the reference's house of rule r is S -/
def MH (μ : Me) (r : Int) (S : Hs) : Prop := (r = 0 ∧ S = (fun _ => 0, 10, 0)) ∨ (1 ≤ r ∧ r ≤ 6 ∧ ∃ (tx : Tn) (tl : Int), (μ (36, 0, 0) (r - 1) = tl ∧ 0 ≤ tl ∧ tl ≤ 100) ∧ (∀ k, 0 ≤ k → k < tl → μ (35, 0, 0) (100 * (r - 1) + k) = tx k ∧ 0 ≤ tx k ∧ tx k < 128) ∧ (rdS tx tl).1 = true ∧ S = hsS tx tl)
/-- only what is scratch changed -/
def FH (μ μ' : Me) : Prop := (∀ k, k < 10 ∨ 16 < k → μ' (30, 0, 0) k = μ (30, 0, 0) k) ∧ ∀ o, o ≠ (30, 0, 0) → o ≠ (37, 0, 0) → o ≠ (38, 0, 0) → μ' o = μ o
theorem FH.trans {μ μ1 μ2 : Me} (h : FH μ μ1) (h2 : FH μ1 μ2) : FH μ μ2 := ⟨fun k hk => by rw [h2.1 k hk, h.1 k hk], fun o h1 h3 h4 => by rw [h2.2 o h1 h3 h4, h.2 o h1 h3 h4]⟩
theorem FH.refl (μ : Me) : FH μ μ := ⟨fun _ _ => rfl, fun _ _ _ _ => rfl⟩
theorem FH.fs {μ μ' : Me} (h : FS μ μ') : FH μ μ' := ⟨fun k hk => h.1 k (by omega), fun o h1 _ _ => h.2 o h1⟩
theorem TN.fh {μ μ' : Me} {T : Tn} (h : TN μ T) (e : FH μ μ') : TN μ' T := by
  unfold TN
  rw [e.2 (31, 0, 0) (by simp) (by simp) (by simp)]
  exact h
theorem MH.fh {μ μ' : Me} {r : Int} {S : Hs} (h : MH μ r S) (e : FH μ μ') : MH μ' r S := by
  unfold MH
  rw [e.2 (36, 0, 0) (by simp) (by simp) (by simp), e.2 (35, 0, 0) (by simp) (by simp) (by simp)]
  exact h
theorem MS.fh {μ μ' : Me} (h : MS μ) (e : FH μ μ') : MS μ' := by
  unfold MS
  rw [e.2 (39, 0, 0) (by simp) (by simp) (by simp), e.2 (40, 0, 0) (by simp) (by simp) (by simp)]
  exact h
