/-! ===== the reference: a day, days ===== -/
def FD (μ μ' : Me) : Prop := (∀ k, k < 10 ∨ 16 < k → μ' (30, 0, 0) k = μ (30, 0, 0) k) ∧ ∀ o, o ≠ (30, 0, 0) → o ≠ (37, 0, 0) → o ≠ (38, 0, 0) → o ≠ (31, 0, 0) → μ' o = μ o
theorem FD.trans {μ μ1 μ2 : Me} (h : FD μ μ1) (h2 : FD μ1 μ2) : FD μ μ2 := ⟨fun k hk => by rw [h2.1 k hk, h.1 k hk], fun o h1 h3 h4 h5 => by rw [h2.2 o h1 h3 h4 h5, h.2 o h1 h3 h4 h5]⟩
theorem FD.refl (μ : Me) : FD μ μ := ⟨fun _ _ => rfl, fun _ _ _ _ _ => rfl⟩
theorem FD.fh {μ μ' : Me} (h : FH μ μ') : FD μ μ' := ⟨h.1, fun o h1 h2 h3 _ => h.2 o h1 h2 h3⟩
theorem FD.up {μ : Me} {k z : Int} : FD μ (upM μ (31, 0, 0) k z) := ⟨fun j _ => by rw [upM_ne (by simp)], fun o _ _ _ h4 => upM_ne h4⟩
theorem FD.o31 {μ μ' : Me} (h : ∀ o, o ≠ (31, 0, 0) → μ' o = μ o) : FD μ μ' := ⟨fun j _ => by rw [h _ (by simp)], fun o _ _ _ h4 => h o h4⟩
theorem MEn.fd {μ μ' : Me} {T X : Tn} {S : Hs} (h : MEn μ T S) (e : FD μ μ') (hX : TN μ' X) (h78 : X 78 = T 78) : MEn μ' X S := by
  obtain ⟨h1, h2, h3⟩ := h
  refine ⟨hX, ?_, ?_⟩
  · rw [h78]
    unfold MH
    rw [e.2 (36, 0, 0) (by simp) (by simp) (by simp) (by simp), e.2 (35, 0, 0) (by simp) (by simp) (by simp) (by simp)]
    exact h2
  · unfold MS
    rw [e.2 (39, 0, 0) (by simp) (by simp) (by simp) (by simp), e.2 (40, 0, 0) (by simp) (by simp) (by simp) (by simp)]
    exact h3
section DAYX
variable {S : Hs} {T X : Tn} {i p g m : Int}
theorem LTg_c (hk : 0 ≤ T (4 * g) ∧ T (4 * g) ≤ 3) (hg : 0 ≤ g ∧ g < 4) (h1 : ∀ k, 0 ≤ k → k < 16 → X k = T k) (h2 : ∀ k, 16 + 10 * p ≤ k → k < 26 + 10 * p → k ≠ 21 + 10 * p → X k = T k) (h3 : X 77 = T 77) : LTg S X p g ↔ LTg S T p g := by
  unfold LTg
  rw [h1 (4 * g) (by omega) (by omega)]
  refine exists_congr fun k => and_congr_right fun k1 => and_congr_right fun k2 => ?_
  have e : lkT S X p g (X (4 * g + 1 + k)) = lkT S T p g (T (4 * g + 1 + k)) := by
    unfold lkT lbT vsT
    rw [h1 (4 * g + 1 + k) (by omega) (by omega), h2 (16 + 10 * p) (by omega) (by omega) (by omega), h2 (17 + 10 * p) (by omega) (by omega) (by omega), h2 (18 + 10 * p) (by omega) (by omega) (by omega), h2 (19 + 10 * p) (by omega) (by omega) (by omega), h2 (20 + 10 * p) (by omega) (by omega) (by omega), h2 (22 + 10 * p + g) (by omega) (by omega) (by omega), h3]
  rw [e]
theorem dayF_lt {k : Int} (h : k < 16 + 10 * i) : dayF S T (i + 1) k = dayF S T i k := by
  unfold dayF
  by_cases e : 16 ≤ k
  · rw [if_pos (show 16 ≤ k ∧ k < 16 + 10 * (i + 1) from ⟨e, by omega⟩), if_pos (show 16 ≤ k ∧ k < 16 + 10 * i from ⟨e, h⟩)]
  · rw [if_neg (fun z => e z.1), if_neg (fun z => e z.1)]
/-- walks come last -/
noncomputable def dayA (S : Hs) (T : Tn) (i : Int) : Tn := fun k => if 16 ≤ k ∧ (k - 16) % 10 = 2 then T k else dayF S T i k
noncomputable def dayB (S : Hs) (T : Tn) (m i : Int) : Tn := fun k => if 16 ≤ k ∧ (k - 16) % 10 = 2 then dayF S T i k else dayF S T m k
theorem dayA_0 (k : Int) : dayA S T 0 k = T k := by unfold dayA; rw [dayF_0]; split <;> rfl
theorem dayB_0 (k : Int) : dayB S T m 0 k = dayA S T m k := by unfold dayB dayA; rw [dayF_0]
theorem dayB_m (k : Int) : dayB S T m m k = dayF S T m k := by unfold dayB; split <;> rfl
theorem dayA_s1 (hi : 0 ≤ i) (hL : LT S T i) (h9 : T (20 + 10 * i) ≤ 9) (k : Int) : upT (dayA S T i) (21 + 10 * i) (T (21 + 10 * i) + 1) k = dayA S T (i + 1) k := by
  unfold upT dayA
  by_cases e : k = 21 + 10 * i
  · rw [if_pos e, if_neg (by omega), e, dayF_p hi, if_pos (by omega), pI_t hL]
  rw [if_neg e]
  by_cases e2 : 16 ≤ k ∧ (k - 16) % 10 = 2
  · rw [if_pos e2, if_pos e2]
  rw [if_neg e2, if_neg e2]
  by_cases e3 : k < 16 + 10 * i
  · rw [dayF_lt e3]
  by_cases e4 : k = 20 + 10 * i
  · rw [e4, dayF_t hi, dayF_t hi, if_neg (by omega), if_pos (by omega), pI_t hL]; omega
  rw [dayF_o (by omega), dayF_o (by omega)]
theorem dayA_s0 (hi : 0 ≤ i) (hL : ¬ LT S T i) (k : Int) : upT (dayA S T i) (20 + 10 * i) (min 9 (T (20 + 10 * i) + 1)) k = dayA S T (i + 1) k := by
  unfold upT dayA
  by_cases e : k = 20 + 10 * i
  · rw [if_pos e, if_neg (by omega), e, dayF_t hi, if_pos (by omega), pI_f hL]; omega
  rw [if_neg e]
  by_cases e2 : 16 ≤ k ∧ (k - 16) % 10 = 2
  · rw [if_pos e2, if_pos e2]
  rw [if_neg e2, if_neg e2]
  by_cases e3 : k < 16 + 10 * i
  · rw [dayF_lt e3]
  by_cases e4 : k = 21 + 10 * i
  · rw [e4, dayF_p hi, dayF_p hi, if_neg (by omega), if_pos (by omega), pI_f hL]; omega
  rw [dayF_o (by omega), dayF_o (by omega)]
theorem dayB_s (hi : 0 ≤ i) (k : Int) : upT (dayB S T m i) (18 + 10 * i) (wkS S.2.2 (T 77) i (T (18 + 10 * i))) k = dayB S T m (i + 1) k := by
  unfold upT dayB
  by_cases e : k = 18 + 10 * i
  · rw [if_pos e, if_pos (by omega), e, dayF_w hi, if_pos (by omega)]
  rw [if_neg e]
  by_cases e2 : 16 ≤ k ∧ (k - 16) % 10 = 2
  · rw [if_pos e2, if_pos e2]
    by_cases e3 : k < 16 + 10 * i
    · rw [dayF_lt e3]
    rw [dayF_o (by omega), dayF_o (by omega)]
  · rw [if_neg e2, if_neg e2]
theorem TJ_mix (hJ : TJ T) (h : ∀ k, X k = T k ∨ ∃ i, 0 ≤ i ∧ i ≤ 6 ∧ X k = dayF S T i k) : TJ X := by
  obtain ⟨j1, j2, j3, j4, j5⟩ := hJ
  have ho : ∀ k, k < 16 ∨ 76 ≤ k ∨ (k - 16) % 10 ≠ 2 ∧ (k - 16) % 10 ≠ 4 ∧ (k - 16) % 10 ≠ 5 → X k = T k := fun k hk => by
    rcases h k with e | ⟨i, a, b, e⟩
    · exact e
    · rw [e, dayF_o (by omega)]
  refine ⟨fun g a b => ?_, fun p a b => ?_, by rw [ho 76 (by omega)]; exact j3, by rw [ho 77 (by omega)]; exact j4, by rw [ho 78 (by omega)]; exact j5⟩
  · obtain ⟨g1, g2⟩ := j1 g a b
    refine ⟨by rw [ho _ (by omega)]; exact g1, fun k x y => by rw [ho _ (by omega)]; exact g2 k x y⟩
  · obtain ⟨c1, c2, c3, c4, c5, c6⟩ := j2 p a b
    refine ⟨by rw [ho _ (by omega)]; exact c1, by rw [ho _ (by omega)]; exact c2, ?_, by rw [ho _ (by omega)]; exact c4, ?_, fun k x y => by rw [ho _ (by omega)]; exact c6 k x y⟩
    · rcases h (18 + 10 * p) with e | ⟨i, a2, b2, e⟩
      · rw [e]; exact c3
      · rw [e, dayF_w a]
        split
        · exact wkS_rg c3 a j4.1
        · exact c3
    · rcases h (20 + 10 * p) with e | ⟨i, a2, b2, e⟩
      · rw [e]; exact c5
      · have := pI_rg (LT S T p)
        rw [e, dayF_t a]
        split
        · omega
        · exact c5
theorem dayA_TJ (hJ : TJ T) (hi : 0 ≤ i ∧ i ≤ 6) : TJ (dayA S T i) := TJ_mix (S := S) hJ fun k => by
  unfold dayA; split
  · left; rfl
  · right; exact ⟨i, hi.1, hi.2, rfl⟩
theorem dayF_TJ (hJ : TJ T) (hi : 0 ≤ i ∧ i ≤ 6) : TJ (dayF S T i) := TJ_mix (S := S) hJ fun k => Or.inr ⟨i, hi.1, hi.2, rfl⟩
theorem dayT_TJ (hJ : TJ T) (h : T 77 < 20000) : TJ (dayT S T) := by
  have h1 := dayF_TJ (S := S) (i := T 76) hJ hJ.2.2.1
  obtain ⟨j1, j2, j3, j4, j5⟩ := h1
  have e : ∀ k, k ≠ 77 → dayT S T k = dayF S T (T 76) k := fun k hk => by unfold dayT; rw [if_neg hk]
  have j77 := hJ.2.2.2.1
  refine ⟨fun g a b => ?_, fun p a b => ?_, by rw [e _ (by omega)]; exact j3, by rw [dayT_77]; omega, by rw [e _ (by omega)]; exact j5⟩
  · obtain ⟨g1, g2⟩ := j1 g a b
    refine ⟨by rw [e _ (by omega)]; exact g1, fun k x y => by rw [e _ (by omega)]; exact g2 k x y⟩
  · obtain ⟨c1, c2, c3, c4, c5, c6⟩ := j2 p a b
    unfold CJ
    rw [e _ (by omega), e _ (by omega), e _ (by omega), e _ (by omega), e _ (by omega)]
    exact ⟨c1, c2, c3, c4, c5, fun k x y => by rw [e _ (by omega)]; exact c6 k x y⟩
theorem daysT_TJ (hJ : TJ T) : ∀ n : Nat, T 77 + n ≤ 20000 → TJ (daysT S n T)
  | 0, _ => hJ
  | n + 1, h => dayT_TJ (daysT_TJ hJ n (by omega)) (by rw [daysT_77]; omega)
end DAYX
section MDY
variable {ad : Ob → Nat} {μ : Me} {T : Tn} {S : Hs}
set_option maxRecDepth 20000 in
theorem c_X8_day (hE : MEn μ T S) (hJ : TJ T) (hS : SB S) (hd : T 77 < 20000) (l : Launch) (E : Ev) (A : Nat → Prop) : Con l E 24 m_X8_day A VM ad μ [.ref (ad (30, 0, 0))] (pv fun μ' => TN μ' (dayT S T) ∧ FD μ μ') := by
  obtain ⟨j1, j2, j3, j4, j5⟩ := id hJ
  have o76 : ∀ i : Int, 0 ≤ i → i ≤ 6 → dayF S T i 76 = T 76 ∧ dayF S T i 77 = T 77 ∧ dayF S T i 78 = T 78 := fun i a b => ⟨dayF_o (by omega), dayF_o (by omega), dayF_o (by omega)⟩
  have a76 : ∀ i : Int, 0 ≤ i → i ≤ 6 → dayA S T i 76 = T 76 ∧ dayA S T i 77 = T 77 ∧ dayA S T i 78 = T 78 := fun i a b => by
    have := o76 i a b
    unfold dayA
    exact ⟨by rw [if_neg (by decide)]; exact this.1, by rw [if_neg (by decide)]; exact this.2.1, by rw [if_pos (by decide)]⟩
  have b76 : ∀ i : Int, dayB S T (T 76) i 76 = T 76 ∧ dayB S T (T 76) i 77 = T 77 := fun i => by
    have := o76 (T 76) j3.1 j3.2
    unfold dayB
    exact ⟨by rw [if_neg (by decide)]; exact this.1, by rw [if_neg (by decide)]; exact this.2.1⟩
  refine con (own := RX8) (by decide +kernel) rfl rfl rfl (fun Γ F => ?_)
  have l133 : ∀ μ1 : Me, TN μ1 (dayF S T (T 76)) → FD μ μ1 → XX Γ 3 VM ad (vl ad μ1) 0 0 133 [(0, .ref (ad (30, 0, 0)))] [] := by
    intro μ1 c1 c2
    refine x_aload_n (i := 0) (pc := 133) F dX8_day_133 rfl rfl ?_
    refine gf_X8_9 (pc := 134) F dX8_day_134 (vm_ok rfl) ?_
    refine x_bipush (pc := 137) F dX8_day_137 (by decide) ?_
    refine x_dup2 (pc := 139) F dX8_day_139 rfl rfl ?_
    refine tq_ia (pc := 140) F dX8_day_140 (vm_ok rfl) rfl (fun _ => rfl) (by omega) ?_
    rw [c1 77 (by omega) (by omega), (o76 _ j3.1 j3.2).2.1]
    refine x_iconst (pc := 141) F dX8_day_141 ?_
    refine x_iadd (pc := 142) F dX8_day_142 ?_
    refine tq_ias (pc := 143) F dX8_day_143 (vm_ok rfl) rfl (fun _ => rfl) (by omega) ?_
    refine tq_retv (pc := 144) F dX8_day_144 ?_ rfl rfl rfl
    exact ⟨c1.up.c (fun k _ _ => by unfold upT dayT; rfl), c2.trans FD.up⟩
  have l88 : ∀ (N k : Nat) (μ1 : Me), T 76 - k < N → k ≤ T 76 → 0 < S.2.2 ∧ T 77 % S.2.2 = 0 → TN μ1 (dayB S T (T 76) k) → FD μ μ1 → XX Γ 3 VM ad (vl ad μ1) 0 0 88 [(0, .ref (ad (30, 0, 0))), (2, .int (I k))] [] := by
    intro N
    induction N with
    | zero => intro k μ1 b1; omega
    | succ N ih =>
      intro k μ1 b1 b2 b3 b4 b5
      have h76 := b4 76 (by omega) (by omega)
      rw [(b76 _).1] at h76
      have h77 := b4 77 (by omega) (by omega)
      rw [(b76 _).2] at h77
      have hw : dayB S T (T 76) k (18 + 10 * k) = T (18 + 10 * k) := by unfold dayB; rw [if_pos (by omega), dayF_o (by omega)]
      have hwk : wx (T (18 + 10 * (k : Int))) (p2 (((k : Int) + T 77) % 12)) = wkS S.2.2 (T 77) k (T (18 + 10 * k)) := by unfold wkS; rw [if_pos b3]
      have hp2 := p2_rg (k := ((k : Int) + T 77) % 12) (by omega)
      refine x_iload_n (i := 2) (pc := 88) F dX8_day_88 rfl rfl ?_
      refine x_aload_n (i := 0) (pc := 89) F dX8_day_89 rfl rfl ?_
      refine gf_X8_9 (pc := 90) F dX8_day_90 (vm_ok rfl) ?_
      refine x_bipush (pc := 93) F dX8_day_93 (by decide) ?_
      refine tq_ia (pc := 95) F dX8_day_95 (vm_ok rfl) rfl (fun _ => rfl) (by omega) ?_
      refine x_icmp_ge (tgt := 133) (pc := 96) F dX8_day_96 rfl (by omega) (fun h96 => ?_) (fun h96 => ?_)
      · have e : (k : Int) = T 76 := by omega
        exact x_sub (L' := [(0, .ref (ad (30, 0, 0)))]) ⟨rfl, trivial⟩ (l133 μ1 (b4.c (fun j _ _ => by rw [e]; exact dayB_m j)) b5)
      · refine x_aload_n (i := 0) (pc := 99) F dX8_day_99 rfl rfl ?_
        refine x_iload_n (i := 2) (pc := 100) F dX8_day_100 rfl rfl ?_
        refine x_iconst (pc := 101) F dX8_day_101 ?_
        have hwr := (j2 k (by omega) (by omega)).2.2.1
        refine x_aload_n (i := 0) (pc := 102) F dX8_day_102 rfl rfl ?_
        refine x_iload_n (i := 2) (pc := 103) F dX8_day_103 rfl rfl ?_
        refine x_iconst (pc := 104) F dX8_day_104 ?_
        refine x_V2i (ci := 8) (pc := 105) F dX8_day_105 lk_X8_82 rfl (vm_ok rfl) rfl rfl (c_X8_one b4 (18 + 10 * (k : Int)) k 2 (by omega)) rfl rfl rfl ?_
        rintro _ _ ⟨rfl, rfl⟩
        rw [hw]
        refine x_iconst (pc := 108) F dX8_day_108 ?_
        refine x_iload_n (i := 2) (pc := 109) F dX8_day_109 rfl rfl ?_
        refine x_aload_n (i := 0) (pc := 110) F dX8_day_110 rfl rfl ?_
        refine gf_X8_9 (pc := 111) F dX8_day_111 (vm_ok rfl) ?_
        refine x_bipush (pc := 114) F dX8_day_114 (by decide) ?_
        refine tq_ia (pc := 116) F dX8_day_116 (vm_ok rfl) rfl (fun _ => rfl) (by omega) ?_
        rw [h77]
        refine x_iadd (pc := 117) F dX8_day_117 ?_
        refine x_bipush (pc := 118) F dX8_day_118 (by decide) ?_
        refine tq_irem (pc := 120) F dX8_day_120 (by omega) ?_
        refine tq_ishl (pc := 121) F dX8_day_121 (by omega) ?_
        refine tq_ixor (pc := 122) F dX8_day_122 (by omega) ?_
        rw [hwk]
        refine x_V3i (ci := 8) (pc := 123) F dX8_day_123 lk_X8_90 rfl (vm_ok rfl) rfl rfl (c_X8_change b4 (18 + 10 * (k : Int)) k 2 _ (by omega)) rfl rfl rfl ?_
        rintro _ _ ⟨rfl, rfl⟩
        refine x_pop (pc := 126) F dX8_day_126 rfl ?_
        refine x_iinc (pc := 127) F dX8_day_127 rfl rfl ?_
        refine x_goto (tgt := 88) (pc := 130) F dX8_day_130 rfl ?_
        exact x_sub (L' := [(0, .ref (ad (30, 0, 0))), (2, .int (I ((k + 1 : Nat) : Int)))]) ⟨rfl, rfl, trivial⟩ (ih (k + 1) _ (by omega) (by omega) b3 (b4.up.c (fun j _ _ => dayB_s (by omega) j)) (b5.trans FD.up))
  have l2 : ∀ (N k : Nat) (μ1 : Me), T 76 - k < N → k ≤ T 76 → TN μ1 (dayA S T k) → FD μ μ1 → XX Γ 3 VM ad (vl ad μ1) 0 0 2 [(0, .ref (ad (30, 0, 0))), (1, .int (I k))] [] := by
    intro N
    induction N with
    | zero => intro k μ1 b1; omega
    | succ N ih =>
      intro k μ1 b1 b2 b4 b5
      have a7 := a76 k (by omega) (by omega)
      have h76 := b4 76 (by omega) (by omega)
      rw [a7.1] at h76
      have hJ1 := dayA_TJ (S := S) (i := (k : Int)) hJ (by omega)
      have hE1 : MEn μ1 (dayA S T k) S := hE.fd b5 b4 a7.2.2
      have e21 : dayA S T k (21 + 10 * k) = T (21 + 10 * k) := by unfold dayA; rw [if_neg (by omega), dayF_p (by omega), if_neg (by omega)]
      have e20 : dayA S T k (20 + 10 * k) = T (20 + 10 * k) := by unfold dayA; rw [if_neg (by omega), dayF_t (by omega), if_neg (by omega)]
      have e19 : dayA S T k (19 + 10 * k) = T (19 + 10 * k) := by unfold dayA; rw [if_neg (by omega), dayF_o (by omega)]
      refine x_iload_n (i := 1) (pc := 2) F dX8_day_2 rfl rfl ?_
      refine x_aload_n (i := 0) (pc := 3) F dX8_day_3 rfl rfl ?_
      refine gf_X8_9 (pc := 4) F dX8_day_4 (vm_ok rfl) ?_
      refine x_bipush (pc := 7) F dX8_day_7 (by decide) ?_
      refine tq_ia (pc := 9) F dX8_day_9 (vm_ok rfl) rfl (fun _ => rfl) (by omega) ?_
      refine x_icmp_ge (tgt := 65) (pc := 10) F dX8_day_10 rfl (by omega) (fun h10 => ?_) (fun h10 => ?_)
      · have ek : (k : Int) = T 76 := by omega
        refine x_aload_n (i := 0) (pc := 65) F dX8_day_65 rfl rfl ?_
        refine x_V0i (ci := 8) (pc := 66) F dX8_day_66 lk_X8_200 rfl (vm_ok rfl) rfl rfl (c_X8_ageNow hE1 hJ1) rfl rfl rfl ?_
        rintro z μ2 ⟨rfl, p2⟩
        have hT2 := b4.fh p2
        have hag := hS.2.2
        rw [ek] at hT2 a7
        refine x_istore_n (i := 1) (pc := 69) F dX8_day_69 rfl rfl ?_
        refine x_iload_n (i := 1) (pc := 70) F dX8_day_70 rfl rfl ?_
        refine x_if_le (tgt := 133) (pc := 71) F dX8_day_71 rfl (by omega) (fun h71 => ?_) (fun h71 => ?_)
        · refine x_sub (L' := [(0, .ref (ad (30, 0, 0)))]) ⟨rfl, trivial⟩ (l133 μ2 (hT2.c (fun j _ _ => ?_)) (b5.trans (FD.fh p2)))
          have hq : ¬ (0 < S.2.2 ∧ T 77 % S.2.2 = 0) := by omega
          unfold dayA; by_cases e : 16 ≤ j ∧ (j - 16) % 10 = 2
          · rw [if_pos e]; by_cases e2 : j < 16 + 10 * T 76
            · rw [show j = 18 + 10 * ((j - 16) / 10) by omega, dayF_w (by omega), if_pos (by omega)]; unfold wkS; rw [if_neg hq]
            · rw [dayF_o (by omega)]
          · rw [if_neg e]
        · refine x_aload_n (i := 0) (pc := 74) F dX8_day_74 rfl rfl ?_
          refine gf_X8_9 (pc := 75) F dX8_day_75 (vm_ok rfl) ?_
          refine x_bipush (pc := 78) F dX8_day_78 (by decide) ?_
          refine tq_ia (pc := 80) F dX8_day_80 (vm_ok rfl) rfl (fun _ => rfl) (by omega) ?_
          rw [hT2 77 (by omega) (by omega), a7.2.1]
          refine x_iload_n (i := 1) (pc := 81) F dX8_day_81 rfl rfl ?_
          refine tq_irem (pc := 82) F dX8_day_82 (by omega) ?_
          have hm1 := Int.emod_nonneg (T 77) (show S.2.2 ≠ 0 by omega)
          have hm2 := Int.emod_lt_of_pos (T 77) (show 0 < S.2.2 by omega)
          refine x_if_ne (tgt := 133) (pc := 83) F dX8_day_83 rfl (by omega) (fun h83 => ?_) (fun h83 => ?_)
          · refine x_sub (L' := [(0, .ref (ad (30, 0, 0)))]) ⟨rfl, trivial⟩ (l133 μ2 (hT2.c (fun j _ _ => ?_)) (b5.trans (FD.fh p2)))
            have hq : ¬ (0 < S.2.2 ∧ T 77 % S.2.2 = 0) := by omega
            unfold dayA; by_cases e : 16 ≤ j ∧ (j - 16) % 10 = 2
            · rw [if_pos e]; by_cases e2 : j < 16 + 10 * T 76
              · rw [show j = 18 + 10 * ((j - 16) / 10) by omega, dayF_w (by omega), if_pos (by omega)]; unfold wkS; rw [if_neg hq]
              · rw [dayF_o (by omega)]
            · rw [if_neg e]
          · refine x_iconst (pc := 86) F dX8_day_86 ?_
            refine x_istore_n (i := 2) (pc := 87) F dX8_day_87 rfl rfl ?_
            exact x_sub (L' := [(0, .ref (ad (30, 0, 0))), (2, .int (I ((0 : Nat) : Int)))]) ⟨rfl, rfl, trivial⟩ (l88 7 0 μ2 (by omega) (by omega) ⟨by omega, h83⟩ (hT2.c (fun j _ _ => (dayB_0 j).symm)) (b5.trans (FD.fh p2)))
      · have c5 := (j2 k (by omega) (by omega)).2.2.2.2.1
        have c4 := (j2 k (by omega) (by omega)).2.2.2.1
        have hLc : LT S (dayA S T k) k ↔ LT S T k := by
          unfold LT
          rw [e19]
          refine LTg_c (j1 _ c4.1 (by omega)).1 (by omega) (fun j a b => by unfold dayA; rw [if_neg (by omega), dayF_o (by omega)]) (fun j a b c => ?_) a7.2.1
          unfold dayA; split
          · rfl
          · rw [dayF_o (by omega)]
        refine x_aload_n (i := 0) (pc := 13) F dX8_day_13 rfl rfl ?_
        refine x_iload_n (i := 1) (pc := 14) F dX8_day_14 rfl rfl ?_
        refine x_V1z (ci := 8) (pc := 15) F dX8_day_15 lk_X8_194 rfl (vm_ok rfl) rfl rfl (c_X8_isBy hE1 hJ1 hS (by omega)) rfl rfl rfl ?_
        rintro z μ2 ⟨hz, p2⟩
        have hT2 := b4.fh p2
        rw [hLc] at hz
        refine x_if_eqB (tgt := 39) (pc := 18) F dX8_day_18 rfl (fun h18 => ?_) (fun h18 => ?_)
        · try simp only [decide_eq_true_eq, decide_eq_false_iff_not, Bool.and_eq_true, Bool.or_eq_true, Bool.not_eq_true', Bool.not_eq_false', Bool.and_eq_false_iff, Bool.or_eq_false_iff] at h18
          refine x_aload_n (i := 0) (pc := 39) F dX8_day_39 rfl rfl ?_
          refine x_iload_n (i := 1) (pc := 40) F dX8_day_40 rfl rfl ?_
          refine x_iconst (pc := 41) F dX8_day_41 ?_
          refine x_bipush (pc := 42) F dX8_day_42 (by decide) ?_
          refine x_aload_n (i := 0) (pc := 44) F dX8_day_44 rfl rfl ?_
          refine x_iload_n (i := 1) (pc := 45) F dX8_day_45 rfl rfl ?_
          refine x_iconst (pc := 46) F dX8_day_46 ?_
          refine x_V2i (ci := 8) (pc := 47) F dX8_day_47 lk_X8_82 rfl (vm_ok rfl) rfl rfl (c_X8_one hT2 (20 + 10 * (k : Int)) k 4 (by omega)) rfl rfl rfl ?_
          rintro _ _ ⟨rfl, rfl⟩
          rw [e20]
          refine x_iconst (pc := 50) F dX8_day_50 ?_
          refine x_iadd (pc := 51) F dX8_day_51 ?_
          refine tq_min (pc := 52) F dX8_day_52 kw_1037 rfl rfl rfl rfl (by omega) ?_
          refine x_V3i (ci := 8) (pc := 55) F dX8_day_55 lk_X8_90 rfl (vm_ok rfl) rfl rfl (c_X8_change hT2 (20 + 10 * (k : Int)) k 4 _ (by omega)) rfl rfl rfl ?_
          rintro _ _ ⟨rfl, rfl⟩
          refine x_pop (pc := 58) F dX8_day_58 rfl ?_
          refine x_iinc (pc := 59) F dX8_day_59 rfl rfl ?_
          refine x_goto (tgt := 2) (pc := 62) F dX8_day_62 rfl ?_
          first | exact x_sub (L' := [(0, .ref (ad (30, 0, 0))), (1, .int (I ((k + 1 : Nat) : Int)))]) ⟨rfl, rfl, trivial⟩ (ih (k + 1) _ (by omega) (by omega) (hT2.up.c (fun j _ _ => dayA_s1 (by omega) (hz.mp h18) c5.2 j)) ((b5.trans (FD.fh p2)).trans FD.up)) | exact x_sub (L' := [(0, .ref (ad (30, 0, 0))), (1, .int (I ((k + 1 : Nat) : Int)))]) ⟨rfl, rfl, trivial⟩ (ih (k + 1) _ (by omega) (by omega) (hT2.up.c (fun j _ _ => dayA_s0 (by omega) (fun q => by rw [hz.mpr q] at h18; cases h18) j)) ((b5.trans (FD.fh p2)).trans FD.up))
        · try simp only [decide_eq_true_eq, decide_eq_false_iff_not, Bool.and_eq_true, Bool.or_eq_true, Bool.not_eq_true', Bool.not_eq_false', Bool.and_eq_false_iff, Bool.or_eq_false_iff] at h18
          refine x_aload_n (i := 0) (pc := 21) F dX8_day_21 rfl rfl ?_
          refine x_iload_n (i := 1) (pc := 22) F dX8_day_22 rfl rfl ?_
          refine x_iconst (pc := 23) F dX8_day_23 ?_
          refine x_aload_n (i := 0) (pc := 24) F dX8_day_24 rfl rfl ?_
          refine x_iload_n (i := 1) (pc := 25) F dX8_day_25 rfl rfl ?_
          refine x_iconst (pc := 26) F dX8_day_26 ?_
          refine x_V2i (ci := 8) (pc := 27) F dX8_day_27 lk_X8_82 rfl (vm_ok rfl) rfl rfl (c_X8_one hT2 (21 + 10 * (k : Int)) k 5 (by omega)) rfl rfl rfl ?_
          rintro _ _ ⟨rfl, rfl⟩
          rw [e21]
          refine x_iconst (pc := 30) F dX8_day_30 ?_
          refine x_iadd (pc := 31) F dX8_day_31 ?_
          refine x_V3i (ci := 8) (pc := 32) F dX8_day_32 lk_X8_90 rfl (vm_ok rfl) rfl rfl (c_X8_change hT2 (21 + 10 * (k : Int)) k 5 _ (by omega)) rfl rfl rfl ?_
          rintro _ _ ⟨rfl, rfl⟩
          refine x_pop (pc := 35) F dX8_day_35 rfl ?_
          refine x_goto (tgt := 59) (pc := 36) F dX8_day_36 rfl ?_
          refine x_iinc (pc := 59) F dX8_day_59 rfl rfl ?_
          refine x_goto (tgt := 2) (pc := 62) F dX8_day_62 rfl ?_
          first | exact x_sub (L' := [(0, .ref (ad (30, 0, 0))), (1, .int (I ((k + 1 : Nat) : Int)))]) ⟨rfl, rfl, trivial⟩ (ih (k + 1) _ (by omega) (by omega) (hT2.up.c (fun j _ _ => dayA_s1 (by omega) (hz.mp h18) c5.2 j)) ((b5.trans (FD.fh p2)).trans FD.up)) | exact x_sub (L' := [(0, .ref (ad (30, 0, 0))), (1, .int (I ((k + 1 : Nat) : Int)))]) ⟨rfl, rfl, trivial⟩ (ih (k + 1) _ (by omega) (by omega) (hT2.up.c (fun j _ _ => dayA_s0 (by omega) (fun q => by rw [hz.mpr q] at h18; cases h18) j)) ((b5.trans (FD.fh p2)).trans FD.up))
  refine x_iconst (pc := 0) F dX8_day_0 ?_
  refine x_istore_n (i := 1) (pc := 1) F dX8_day_1 rfl rfl ?_
  exact x_sub (L' := [(0, .ref (ad (30, 0, 0))), (1, .int (I ((0 : Nat) : Int)))]) ⟨rfl, rfl, trivial⟩ (l2 7 0 μ (by omega) (by omega) (hE.1.c (fun j _ _ => (dayA_0 j).symm)) (FD.refl μ))
set_option maxRecDepth 20000 in
theorem c_X8_days (hE : MEn μ T S) (hJ : TJ T) (hS : SB S) (n : Int) (hn : 0 ≤ n ∧ n ≤ 100) (hd : T 77 + n ≤ 20000) (l : Launch) (E : Ev) (A : Nat → Prop) : Con l E 25 m_X8_days A VM ad μ [.ref (ad (30, 0, 0)), .int (I n)] (pv fun μ' => TN μ' (daysT S n.toNat T) ∧ FD μ μ') := by
  refine con (own := RX8) (by decide +kernel) rfl rfl rfl (fun Γ F => ?_)
  have loop : ∀ (N k : Nat) (μ1 : Me), n - k < N → k ≤ n → TN μ1 (daysT S k T) → FD μ μ1 → XX Γ 3 VM ad (vl ad μ1) 0 0 2 [(0, .ref (ad (30, 0, 0))), (1, .int (I n)), (2, .int (I k))] [] := by
    intro N
    induction N with
    | zero => intro k μ1 b1; omega
    | succ N ih =>
      intro k μ1 b1 b2 b3 b4
      have hJ1 := daysT_TJ (S := S) hJ k (by omega)
      have h77 : daysT S k T 77 = T 77 + k := daysT_77 k
      have h78 : ∀ n : Nat, T 77 + n ≤ 20000 → daysT S n T 78 = T 78 := fun n => by
        induction n with
        | zero => intro _; rfl
        | succ n ih => intro h; show dayT S (daysT S n T) 78 = _; rw [dayT_o (by decide) (by omega) (daysT_TJ (S := S) hJ n (by omega)).2.2.1.2]; exact ih (by omega)
      refine x_iload_n (i := 2) (pc := 2) F dX8_days_2 rfl rfl ?_
      refine x_iload_n (i := 1) (pc := 3) F dX8_days_3 rfl rfl ?_
      refine x_icmp_ge (tgt := 17) (pc := 4) F dX8_days_4 rfl (by omega) (fun h4 => ?_) (fun h4 => ?_)
      · refine tq_retv (pc := 17) F dX8_days_17 ?_ rfl rfl rfl
        rw [show n.toNat = k by omega]
        exact ⟨b3, b4⟩
      · refine x_aload_n (i := 0) (pc := 7) F dX8_days_7 rfl rfl ?_
        refine x_V0v (ci := 8) (pc := 8) F dX8_days_8 lk_X8_203 rfl (vm_ok rfl) rfl rfl (c_X8_day (hE.fd b4 b3 (h78 k (by omega))) hJ1 hS (by omega)) rfl rfl rfl ?_
        rintro μ2 ⟨p1, p2⟩
        refine x_iinc (pc := 11) F dX8_days_11 rfl rfl ?_
        refine x_goto (tgt := 2) (pc := 14) F dX8_days_14 rfl ?_
        exact x_sub (L' := [(0, .ref (ad (30, 0, 0))), (1, .int (I n)), (2, .int (I ((k + 1 : Nat) : Int)))]) ⟨rfl, rfl, rfl, trivial⟩ (ih (k + 1) μ2 (by omega) (by omega) p1 (b4.trans p2))
  refine x_iconst (pc := 0) F dX8_days_0 ?_
  refine x_istore_n (i := 2) (pc := 1) F dX8_days_1 rfl rfl ?_
  exact x_sub (L' := [(0, .ref (ad (30, 0, 0))), (1, .int (I n)), (2, .int (I ((0 : Nat) : Int)))]) ⟨rfl, rfl, rfl, trivial⟩ (loop 101 0 μ (by omega) (by omega) hE.1 (FD.refl μ))
end MDY
