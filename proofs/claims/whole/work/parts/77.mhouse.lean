/-! ===== the reference: house ===== -/
/-- a HOUSE of the text fed: answer -/
def houseZ (hc : Int) (tx : Tn) (tl : Int) : Int := if hc = 6 then -4 else if (rdS tx tl).1 = true then hc else -10 - (rdS tx tl).2.1
def FHo (μ μ' : Me) (hc : Int) : Prop := (∀ k, k ≠ 5 → k ≠ 8 → (k < 10 ∨ 16 < k) → μ' (30, 0, 0) k = μ (30, 0, 0) k) ∧ (∀ k, k ≠ hc → μ' (36, 0, 0) k = μ (36, 0, 0) k) ∧ (∀ k, k < 100 * hc ∨ 100 * hc + 100 ≤ k → μ' (35, 0, 0) k = μ (35, 0, 0) k) ∧ ∀ o, o ≠ (30, 0, 0) → o ≠ (31, 0, 0) → o ≠ (35, 0, 0) → o ≠ (36, 0, 0) → o ≠ (37, 0, 0) → μ' o = μ o
section MHO
variable {ad : Ob → Nat} {μ : Me} {T vals : Tn} {tx : Tn} {tl hc : Int}
set_option maxRecDepth 20000 in
theorem c_X8_house (hT : TN μ T) (hX : TXm μ tx tl) (hN : NM μ vals) (hh : μ (30, 0, 0) 8 = hc ∧ 0 ≤ hc ∧ hc ≤ 6) (l : Launch) (E : Ev) (A : Nat → Prop) : Con l E 20 m_X8_house A VM ad μ [.ref (ad (30, 0, 0))] (pi fun z μ' => z = houseZ hc tx tl ∧ (hc = 6 ∧ μ = μ' ∨ hc < 6 ∧ μ' (30, 0, 0) 5 = 0 ∧ FHo μ μ' hc ∧ ((rdS tx tl).1 = false ∧ TN μ' T ∧ μ' (30, 0, 0) 8 = hc ∨ (rdS tx tl).1 = true ∧ TN μ' (upT T 78 (hc + 1)) ∧ μ' (30, 0, 0) 8 = hc + 1 ∧ μ' (36, 0, 0) hc = tl ∧ ∀ k, 0 ≤ k → k < tl → μ' (35, 0, 0) (100 * hc + k) = tx k))) := by
  obtain ⟨⟨t1, t2, t3⟩, t4⟩ := id hX
  obtain ⟨e8, h0, h6⟩ := hh
  have hgr := gd_rd (tx := tx) t2
  refine con (own := RX8) (by decide +kernel) rfl rfl rfl (fun Γ F => ?_)
  have l70 : hc < 6 → (rdS tx tl).1 = true → ∀ μb : Me, (∀ k, 0 ≤ k → k < tl → μb (37, 0, 0) k = tx k) → μb (30, 0, 0) 10 = tl → μb (30, 0, 0) 8 = hc → μb (30, 0, 0) 5 = 0 → TN μb T → (∀ k, k ≠ 5 → k ≠ 8 → (k < 10 ∨ 16 < k) → μb (30, 0, 0) k = μ (30, 0, 0) k) → (∀ o, o ≠ (30, 0, 0) → o ≠ (37, 0, 0) → μb o = μ o) → ∀ (N k : Nat) (μ1 : Me), tl - k < N → k ≤ tl → (∀ j : Int, 0 ≤ j → j < k → μ1 (35, 0, 0) (100 * hc + j) = tx j) → (∀ j : Int, j < 100 * hc ∨ 100 * hc + 100 ≤ j → μ1 (35, 0, 0) j = μ (35, 0, 0) j) → (∀ o, o ≠ (35, 0, 0) → μ1 o = μb o) → XX Γ 2 VM ad (vl ad μ1) 0 0 70 [(0, .ref (ad (30, 0, 0))), (1, .int (I k))] [] := by
    intro c1 c2 μb c3 c4 c5 c6 c7 c8 c9 N
    induction N with
    | zero => intro k μ1 b1; omega
    | succ N ih =>
      intro k μ1 b1 b2 b3 b4 b5
      have e10 : μ1 (30, 0, 0) 10 = tl := by rw [b5 _ (by simp), c4]
      have e8' : μ1 (30, 0, 0) 8 = hc := by rw [b5 _ (by simp), c5]
      refine x_iload_n (i := 1) (pc := 70) F dX8_house_70 rfl rfl ?_
      refine x_aload_n (i := 0) (pc := 71) F dX8_house_71 rfl rfl ?_
      refine gf_X8_131 (pc := 72) F dX8_house_72 (vm_ok rfl) ?_
      refine x_icmp_ge (tgt := 104) (pc := 75) F dX8_house_75 rfl (by omega) (fun h75 => ?_) (fun h75 => ?_)
      · refine x_aload_n (i := 0) (pc := 104) F dX8_house_104 rfl rfl ?_
        refine gf_X8_27 (pc := 105) F dX8_house_105 (vm_ok rfl) ?_
        refine x_aload_n (i := 0) (pc := 108) F dX8_house_108 rfl rfl ?_
        refine gf_X8_179 (pc := 109) F dX8_house_109 (vm_ok rfl) ?_
        refine x_aload_n (i := 0) (pc := 112) F dX8_house_112 rfl rfl ?_
        refine gf_X8_131 (pc := 113) F dX8_house_113 (vm_ok rfl) ?_
        rw [e8', e10]
        refine tq_ias (pc := 116) F dX8_house_116 (vm_ok rfl) rfl (fun _ => rfl) (by omega) ?_
        refine x_aload_n (i := 0) (pc := 117) F dX8_house_117 rfl rfl ?_
        refine x_dup (pc := 118) F dX8_house_118 rfl ?_
        refine gf_X8_179 (pc := 119) F dX8_house_119 (vm_ok rfl) ?_
        refine x_iconst (pc := 122) F dX8_house_122 ?_
        refine x_iadd (pc := 123) F dX8_house_123 ?_
        rw [upM_ne (by simp), e8']
        refine pf_X8_179 (pc := 124) F dX8_house_124 (vm_ok rfl) ?_
        refine x_aload_n (i := 0) (pc := 127) F dX8_house_127 rfl rfl ?_
        refine gf_X8_9 (pc := 128) F dX8_house_128 (vm_ok rfl) ?_
        refine x_bipush (pc := 131) F dX8_house_131 (by decide) ?_
        refine x_aload_n (i := 0) (pc := 133) F dX8_house_133 rfl rfl ?_
        refine gf_X8_179 (pc := 134) F dX8_house_134 (vm_ok rfl) ?_
        rw [upM_i, if_pos rfl]
        refine tq_ias (pc := 137) F dX8_house_137 (vm_ok rfl) rfl (fun _ => rfl) (by omega) ?_
        refine x_aload_n (i := 0) (pc := 138) F dX8_house_138 rfl rfl ?_
        refine gf_X8_179 (pc := 139) F dX8_house_139 (vm_ok rfl) ?_
        refine x_iconst (pc := 142) F dX8_house_142 ?_
        refine x_isub (pc := 143) F dX8_house_143 ?_
        rw [upM_ne (by simp), upM_i, if_pos rfl, show hc + 1 - 1 = hc by omega]
        refine tq_reti (pc := 144) F dX8_house_144 ?_ rfl rfl rfl
        refine ⟨by unfold houseZ; rw [if_neg (by omega), if_pos c2], Or.inr ⟨c1, ?_, ⟨fun j k5 k8 hj => ?_, fun j hj => ?_, fun j hj => ?_, fun o o1 o2 o3 o4 o5 => ?_⟩, Or.inr ⟨c2, ?_, ?_, ?_, fun j x y => ?_⟩⟩⟩
        · rw [upM_ne (by simp), upM_i, if_neg (by decide), upM_ne (by simp), b5 _ (by simp), c6]
        · rw [upM_ne (by simp), upM_i, if_neg k8, upM_ne (by simp), b5 _ (by simp)]; exact c8 j k5 k8 hj
        · rw [upM_ne (by simp), upM_ne (by simp), upM_i, if_neg hj, b5 _ (by simp), c9 _ (by simp) (by simp)]
        · rw [upM_ne (by simp), upM_ne (by simp), upM_ne (by simp)]; exact b4 j hj
        · rw [upM_ne o2, upM_ne o1, upM_ne o4, b5 o o3, c9 o o1 o5]
        · intro j x y
          rw [upM_i]
          unfold upT
          by_cases e : j = 78
          · rw [if_pos e, if_pos e]
          · rw [if_neg e, if_neg e, upM_ne (by simp), upM_ne (by simp), b5 _ (by simp)]; exact c7 j x y
        · rw [upM_ne (by simp), upM_i, if_pos rfl]
        · rw [upM_ne (by simp), upM_ne (by simp), upM_i, if_pos rfl]
        · rw [upM_ne (by simp), upM_ne (by simp), upM_ne (by simp)]; exact b3 j x (by omega)
      · refine x_aload_n (i := 0) (pc := 78) F dX8_house_78 rfl rfl ?_
        refine gf_X8_24 (pc := 79) F dX8_house_79 (vm_ok rfl) ?_
        refine x_bipush (pc := 82) F dX8_house_82 (by decide) ?_
        refine x_aload_n (i := 0) (pc := 84) F dX8_house_84 rfl rfl ?_
        refine gf_X8_179 (pc := 85) F dX8_house_85 (vm_ok rfl) ?_
        refine x_imul (pc := 88) F dX8_house_88 ?_
        refine x_iload_n (i := 1) (pc := 89) F dX8_house_89 rfl rfl ?_
        refine x_iadd (pc := 90) F dX8_house_90 ?_
        refine x_aload_n (i := 0) (pc := 91) F dX8_house_91 rfl rfl ?_
        refine gf_X8_30 (pc := 92) F dX8_house_92 (vm_ok rfl) ?_
        refine x_iload_n (i := 1) (pc := 95) F dX8_house_95 rfl rfl ?_
        refine tq_ia (pc := 96) F dX8_house_96 (vm_ok rfl) rfl (fun _ => rfl) (by omega) ?_
        rw [e8', b5 (37, 0, 0) (by simp), c3 k (by omega) (by omega)]
        refine tq_ias (pc := 97) F dX8_house_97 (vm_ok rfl) rfl (fun _ => rfl) (by omega) ?_
        refine x_iinc (pc := 98) F dX8_house_98 rfl rfl ?_
        refine x_goto (tgt := 70) (pc := 101) F dX8_house_101 rfl ?_
        exact x_sub (L' := [(0, .ref (ad (30, 0, 0))), (1, .int (I ((k + 1 : Nat) : Int)))]) ⟨rfl, rfl, trivial⟩ (ih (k + 1) _ (by omega) (by omega) (fun j x y => by rw [upM_i]; by_cases e : j = k; (rw [if_pos (by omega), e]); rw [if_neg (by omega)]; exact b3 j x (by omega)) (fun j hj => by rw [upM_i, if_neg (by omega)]; exact b4 j hj) (fun o ho => by rw [upM_ne ho]; exact b5 o ho))
  have l22 : hc < 6 → ∀ (N k : Nat) (μ1 : Me), tl - k < N → k ≤ tl → μ1 (30, 0, 0) 10 = tl → (∀ j : Int, 0 ≤ j → j < k → μ1 (37, 0, 0) j = tx j) → (∀ k, k ≠ 10 → μ1 (30, 0, 0) k = μ (30, 0, 0) k) → (∀ o, o ≠ (30, 0, 0) → o ≠ (37, 0, 0) → μ1 o = μ o) → XX Γ 2 VM ad (vl ad μ1) 0 0 22 [(0, .ref (ad (30, 0, 0))), (1, .int (I k))] [] := by
    intro c1 N
    induction N with
    | zero => intro k μ1 b1; omega
    | succ N ih =>
      intro k μ1 b1 b2 b3 b4 b5 b6
      refine x_iload_n (i := 1) (pc := 22) F dX8_house_22 rfl rfl ?_
      refine x_aload_n (i := 0) (pc := 23) F dX8_house_23 rfl rfl ?_
      refine gf_X8_131 (pc := 24) F dX8_house_24 (vm_ok rfl) ?_
      refine x_icmp_ge (tgt := 48) (pc := 27) F dX8_house_27 rfl (by omega) (fun h27 => ?_) (fun h27 => ?_)
      · refine x_aload_n (i := 0) (pc := 48) F dX8_house_48 rfl rfl ?_
        refine x_iconst (pc := 49) F dX8_house_49 ?_
        refine pf_X8_121 (pc := 50) F dX8_house_50 (vm_ok rfl) ?_
        generalize hm0 : upM μ1 (30, 0, 0) 5 0 = μ2
        have f2 : ∀ k, k ≠ 10 → k ≠ 5 → μ2 (30, 0, 0) k = μ (30, 0, 0) k := fun k k1 k2 => by rw [← hm0, upM_i, if_neg k2]; exact b5 k k1
        have f3 : ∀ o, o ≠ (30, 0, 0) → o ≠ (37, 0, 0) → μ2 o = μ o := fun o o1 o2 => by rw [← hm0, upM_ne o1]; exact b6 o o1 o2
        have f5 : μ2 (30, 0, 0) 5 = 0 := by rw [← hm0, upM_i, if_pos rfl]
        have hRT : RT μ2 tx tl := ⟨⟨by rw [← hm0, upM_i, if_neg (by decide)]; exact b3, t2, t3⟩, fun j x y => ⟨by rw [← hm0, upM_ne (by simp)]; exact b4 j x (by omega), (t4 j x y).2⟩⟩
        have hN2 : NM μ2 vals := by unfold NM MS at *; rw [f3 _ (by simp) (by simp), f3 _ (by simp) (by simp), f3 _ (by simp) (by simp)]; exact hN
        refine x_aload_n (i := 0) (pc := 53) F dX8_house_53 rfl rfl ?_
        refine x_V0z (ci := 8) (pc := 54) F dX8_house_54 lk_X8_176 rfl (vm_ok rfl) rfl rfl (c_X8_readAll hRT hN2) rfl rfl rfl ?_
        rintro z μ3 ⟨rfl, p1, p2, p3⟩
        have hT3 : TN μ3 T := by unfold TN; rw [p2.2 _ (by simp), f3 _ (by simp) (by simp)]; exact hT
        refine x_if_neB (tgt := 68) (pc := 57) F dX8_house_57 rfl (fun h57 => ?_) (fun h57 => ?_)
        · try simp only [decide_eq_true_eq, decide_eq_false_iff_not, Bool.and_eq_true, Bool.or_eq_true, Bool.not_eq_true', Bool.not_eq_false', Bool.and_eq_false_iff, Bool.or_eq_false_iff] at h57
          refine x_iconst (pc := 68) F dX8_house_68 ?_
          refine x_istore_n (i := 1) (pc := 69) F dX8_house_69 rfl rfl ?_
          exact x_sub (L' := [(0, .ref (ad (30, 0, 0))), (1, .int (I ((0 : Nat) : Int)))]) ⟨rfl, rfl, trivial⟩ (l70 c1 h57 μ3 (fun j x y => by rw [p2.2 _ (by simp)]; exact (hRT.2 j x y).1) (by rw [p2.1 10 (by decide)]; exact hRT.1.1) (by rw [p2.1 8 (by decide), f2 8 (by decide) (by decide), e8]) (by rw [p2.1 5 (by decide)]; exact f5) hT3 (fun j k5 k8 hj => by rw [p2.1 j (by omega)]; exact f2 j (by omega) k5) (fun o o1 o2 => by rw [p2.2 _ o1, f3 _ o1 o2]) 101 0 μ3 (by omega) (by omega) (fun j x y => by omega) (fun j _ => by rw [p2.2 _ (by simp), f3 _ (by simp) (by simp)]) (fun _ _ => rfl))
        · try simp only [decide_eq_true_eq, decide_eq_false_iff_not, Bool.and_eq_true, Bool.or_eq_true, Bool.not_eq_true', Bool.not_eq_false', Bool.and_eq_false_iff, Bool.or_eq_false_iff] at h57
          refine x_bipush (pc := 60) F dX8_house_60 (by decide) ?_
          refine x_aload_n (i := 0) (pc := 62) F dX8_house_62 rfl rfl ?_
          refine gf_X8_128 (pc := 63) F dX8_house_63 (vm_ok rfl) ?_
          rw [p1]
          refine x_isub (pc := 66) F dX8_house_66 ?_
          refine tq_reti (pc := 67) F dX8_house_67 ?_ rfl rfl rfl
          refine ⟨by unfold houseZ; rw [if_neg (by omega), if_neg (by rw [h57]; decide)], Or.inr ⟨c1, by rw [p2.1 5 (by decide)]; exact f5, ⟨fun j k5 k8 hj => by rw [p2.1 j (by omega)]; exact f2 j (by omega) k5, fun j _ => by rw [p2.2 _ (by simp), f3 _ (by simp) (by simp)], fun j _ => by rw [p2.2 _ (by simp), f3 _ (by simp) (by simp)], fun o o1 o2 o3 o4 o5 => by rw [p2.2 _ o1, f3 _ o1 o5]⟩, Or.inl ⟨h57, hT3, by rw [p2.1 8 (by decide), f2 8 (by decide) (by decide), e8]⟩⟩⟩
      · refine x_aload_n (i := 0) (pc := 30) F dX8_house_30 rfl rfl ?_
        refine gf_X8_30 (pc := 31) F dX8_house_31 (vm_ok rfl) ?_
        refine x_iload_n (i := 1) (pc := 34) F dX8_house_34 rfl rfl ?_
        refine x_aload_n (i := 0) (pc := 35) F dX8_house_35 rfl rfl ?_
        refine gf_X8_21 (pc := 36) F dX8_house_36 (vm_ok rfl) ?_
        refine x_iload_n (i := 1) (pc := 39) F dX8_house_39 rfl rfl ?_
        refine tq_ia (pc := 40) F dX8_house_40 (vm_ok rfl) rfl (fun _ => rfl) (by omega) ?_
        rw [b6 (34, 0, 0) (by simp) (by simp), (t4 k (by omega) (by omega)).1]
        refine tq_ias (pc := 41) F dX8_house_41 (vm_ok rfl) rfl (fun _ => rfl) (by omega) ?_
        refine x_iinc (pc := 42) F dX8_house_42 rfl rfl ?_
        refine x_goto (tgt := 22) (pc := 45) F dX8_house_45 rfl ?_
        exact x_sub (L' := [(0, .ref (ad (30, 0, 0))), (1, .int (I ((k + 1 : Nat) : Int)))]) ⟨rfl, rfl, trivial⟩ (ih (k + 1) _ (by omega) (by omega) (by rw [upM_ne (by simp)]; exact b3) (fun j x y => by rw [upM_i]; by_cases e : j = k; (rw [if_pos e, e]); rw [if_neg e]; exact b4 j x (by omega)) (fun k hk => by rw [upM_ne (by simp)]; exact b5 k hk) (fun o o1 o2 => by rw [upM_ne o2]; exact b6 o o1 o2))
  refine x_aload_n (i := 0) (pc := 0) F dX8_house_0 rfl rfl ?_
  refine gf_X8_179 (pc := 1) F dX8_house_1 (vm_ok rfl) ?_
  refine x_bipush (pc := 4) F dX8_house_4 (by decide) ?_
  refine x_icmp_ne (tgt := 12) (pc := 6) F dX8_house_6 rfl (by omega) (fun h6 => ?_) (fun h6 => ?_)
  · refine x_aload_n (i := 0) (pc := 12) F dX8_house_12 rfl rfl ?_
    refine x_aload_n (i := 0) (pc := 13) F dX8_house_13 rfl rfl ?_
    refine gf_X8_121 (pc := 14) F dX8_house_14 (vm_ok rfl) ?_
    rw [t1]
    refine pf_X8_131 (pc := 17) F dX8_house_17 (vm_ok rfl) ?_
    refine x_iconst (pc := 20) F dX8_house_20 ?_
    refine x_istore_n (i := 1) (pc := 21) F dX8_house_21 rfl rfl ?_
    exact x_sub (L' := [(0, .ref (ad (30, 0, 0))), (1, .int (I ((0 : Nat) : Int)))]) ⟨rfl, rfl, trivial⟩ (l22 (by omega) 101 0 _ (by omega) (by omega) (by rw [upM_i, if_pos rfl]) (fun j x y => by omega) (fun k hk => by rw [upM_i, if_neg hk]) (fun o o1 _ => upM_ne o1))
  · refine x_bipush (pc := 9) F dX8_house_9 (by decide) ?_
    refine tq_reti (pc := 11) F dX8_house_11 ?_ rfl rfl rfl
    exact ⟨by unfold houseZ; rw [if_pos (by omega)], Or.inl ⟨by omega, rfl⟩⟩
end MHO
