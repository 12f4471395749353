/-! ===== Reader: tests ===== -/
/-- reading at a, into House h, with code so far -/
def RS (μ : Me) (tx : Tn) (tl a h : Int) (code : List (Int × Int)) : Prop := TX μ tx tl ∧ (μ (15, 0, 0) 2 = a ∧ 0 ≤ a ∧ a ≤ tl) ∧ (μ (15, 0, 0) 3 = h ∧ 0 ≤ h ∧ h < 6) ∧ HC μ h code ∧ (code.length : Int) ≤ a
def RF (μ μ' : Me) (h : Int) : Prop := (∀ k, k ≠ 2 → μ' (15, 0, 0) k = μ (15, 0, 0) k) ∧ (∀ k, k ≠ 2 → μ' (12, h, 0) k = μ (12, h, 0) k) ∧ ∀ o, o ≠ (15, 0, 0) → o ≠ (12, h, 0) → o ≠ (13, h, 0) → o ≠ (14, h, 0) → μ' o = μ o
theorem RF.trans {μ μ1 μ2 : Me} {h : Int} (a : RF μ μ1 h) (b : RF μ1 μ2 h) : RF μ μ2 h := ⟨fun k hk => by rw [b.1 k hk, a.1 k hk], fun k hk => by rw [b.2.1 k hk, a.2.1 k hk], fun o h1 h2 h3 h4 => by rw [b.2.2 o h1 h2 h3 h4, a.2.2 o h1 h2 h3 h4]⟩
theorem RF.refl (μ : Me) (h : Int) : RF μ μ h := ⟨fun _ _ => rfl, fun _ _ => rfl, fun _ _ _ _ _ => rfl⟩
theorem RF.pl {μ μ' : Me} {a h : Int} (e : PL μ μ' a) : RF μ μ' h := ⟨e.2.1, fun k _ => by rw [e.2.2 _ (by simp)], fun o h1 _ _ _ => e.2.2 o h1⟩
theorem TX.rf {μ μ' : Me} {tx : Tn} {tl h : Int} (hx : TX μ tx tl) (e : RF μ μ' h) : TX μ' tx tl := by
  obtain ⟨⟨h1, h2⟩, h3⟩ := hx
  refine ⟨⟨by rw [e.1 1 (by decide)]; exact h1, h2⟩, fun k x y => ?_⟩
  rw [e.2.2 _ (by simp) (by simp) (by simp) (by simp)]
  exact h3 k x y
theorem HC.pl {μ μ' : Me} {a h : Int} {code : List (Int × Int)} (hc : HC μ h code) (e : PL μ μ' a) : HC μ' h code := by
  unfold HC
  rw [e.2.2 (12, h, 0) (by simp), e.2.2 (13, h, 0) (by simp), e.2.2 (14, h, 0) (by simp)]
  exact hc
theorem RS.pl {μ μ' : Me} {tx : Tn} {tl a b h : Int} {code : List (Int × Int)} (hs : RS μ tx tl a h code) (e : PL μ μ' b) (hb : a ≤ b ∧ b ≤ tl) : RS μ' tx tl b h code := by
  obtain ⟨h1, h2, h3, h4, h5⟩ := hs
  exact ⟨h1.pl e, ⟨e.1, by omega, by omega⟩, ⟨by rw [e.2.1 3 (by decide)]; exact h3.1, h3.2⟩, h4.pl e, by omega⟩
/-- a step put -/
theorem HC_push {μ μ' : Me} {h op n : Int} {code : List (Int × Int)} (hc : HC μ h code) (e1 : μ' (12, h, 0) 2 = μ (12, h, 0) 2 + 1) (e2 : ∀ k, μ' (13, h, 0) k = if k = μ (12, h, 0) 2 then op else μ (13, h, 0) k) (e3 : ∀ k, μ' (14, h, 0) k = if k = μ (12, h, 0) 2 then n else μ (14, h, 0) k) : HC μ' h (code ++ [(op, n)]) := by
  obtain ⟨h1, h2⟩ := hc
  refine ⟨by rw [e1, h1, List.length_append]; simp, fun i hi => ?_⟩
  rw [List.length_append, List.length_singleton] at hi
  rw [e2, e3, h1]
  simp only [List.getD_eq_getElem?_getD]
  by_cases q : i < code.length
  · rw [if_neg (by omega), if_neg (by omega), List.getElem?_append_left q]
    have := h2 i q
    simp only [List.getD_eq_getElem?_getD] at this
    exact this
  · rw [if_pos (by omega), if_pos (by omega), List.getElem?_append_right (by omega), show i - code.length = 0 by omega]
    exact ⟨rfl, rfl⟩
/-- what a reading leaves -/
def RP (μ μ' : Me) (tx : Tn) (tl h : Int) (code : List (Int × Int)) (r : Rd) (z : Bool) : Prop := z = r.1 ∧ μ' (15, 0, 0) 2 = r.2.1 ∧ RF μ μ' h ∧ (r.1 = true → RS μ' tx tl r.2.1 h (code ++ r.2.2.1))
section TEST
variable {ad : Ob → Nat} {μ : Me} {nh : Int} {tx : Tn} {tl a h : Int} {code : List (Int × Int)}
theorem RS_put {μ' : Me} {b op n : Int} (hs : RS μ tx tl b h code) (hl : (code.length : Int) + 1 ≤ b) (e1 : μ' (12, h, 0) 2 = μ (12, h, 0) 2 + 1) (e2 : ∀ k, μ' (13, h, 0) k = if k = μ (12, h, 0) 2 then op else μ (13, h, 0) k) (e3 : ∀ k, μ' (14, h, 0) k = if k = μ (12, h, 0) 2 then n else μ (14, h, 0) k) (e4 : ∀ k, k ≠ 2 → μ' (12, h, 0) k = μ (12, h, 0) k) (e5 : ∀ o, o ≠ (12, h, 0) → o ≠ (13, h, 0) → o ≠ (14, h, 0) → μ' o = μ o) : RS μ' tx tl b h (code ++ [(op, n)]) ∧ RF μ μ' h := by
  have hr : RF μ μ' h := ⟨fun k _ => by rw [e5 _ (by simp) (by simp) (by simp)], e4, fun o _ h2 h3 h4 => e5 o h2 h3 h4⟩
  obtain ⟨h1, h2, h3, h4, h5⟩ := hs
  have e15 := e5 (15, 0, 0) (by simp) (by simp) (by simp)
  exact ⟨⟨h1.rf hr, by rw [e15]; exact h2, by rw [e15]; exact h3, HC_push h4 e1 e2 e3, by rw [List.length_append, List.length_singleton]; omega⟩, hr⟩
set_option maxRecDepth 20000 in
theorem c_X3_readTest (hS : RS μ tx tl a h code) (hh : h < nh) (l : Launch) (E : Ev) (A : Nat → Prop) : Con l E 5 m_X3_readTest A (VC nh) ad μ [.ref (ad (15, 0, 0))] (pz fun z μ' => RP μ μ' tx tl h code (testS tx tl a) z) := by
  obtain ⟨hX, ⟨ha, ha0, hat⟩, ⟨h3, h30, h36⟩, hC, hl⟩ := id hS
  have htl := hX.1.2.2
  refine conE (own := RX3) (by decide +kernel) rfl rfl rfl (fun Γ F hE => ?_)
  subst hE
  have g0 := lxT_rg (chA tx tl a)
  have g1 := sgT_rg (chA tx tl (a + 1))
  have q0 : ∀ c, oxT 4 c = lxT c := fun c => rfl
  have q1 : ∀ c, oxT 5 c = sgT c := fun c => rfl
  refine x_aload_n (i := 0) (pc := 0) F dX3_readTest_0 rfl rfl ?_
  refine x_ldcS (i := 4) (pc := 1) F dX3_readTest_1 rfl ?_
  refine x_callVE (As := [.ref (stA (gE Γ) 4)]) (mc2 := 0) (ms2 := 0) (d2 := 4) (ci := 3) (pc := 3) F dX3_readTest_3 lk_X3_98 rfl (v_15 (by omega)) rfl rfl rfl rfl rfl rfl rfl (fun l A ↦ c_X3_readOneOf 4 (Or.inl rfl) hX ha (by omega) l _ A) ?_
  rintro v V' ad' ν' ⟨hv1, hv2, μ1, rfl, z, rfl, rfl, p1⟩
  subst V' ad'
  rw [q0] at p1 ⊢
  refine x_istore_n (i := 1) (pc := 6) F dX3_readTest_6 rfl rfl ?_
  refine x_iload_n (i := 1) (pc := 7) F dX3_readTest_7 rfl rfl ?_
  refine x_if_ge (tgt := 13) (pc := 8) F dX3_readTest_8 rfl (by omega) (fun h8 => ?_) (fun h8 => ?_)
  · have l0 : a < tl := chA_lt (tx := tx) (fun z => by rw [z] at h8; exact absurd h8 (by decide))
    rw [if_neg (by omega)] at p1
    have hS1 := hS.pl p1 (by omega)
    refine x_aload_n (i := 0) (pc := 13) F dX3_readTest_13 rfl rfl ?_
    refine x_ldcS (i := 5) (pc := 14) F dX3_readTest_14 rfl ?_
    refine x_callVE (As := [.ref (stA (gE Γ) 5)]) (mc2 := 0) (ms2 := 0) (d2 := 4) (ci := 3) (pc := 16) F dX3_readTest_16 lk_X3_98 rfl (v_15 (by omega)) rfl rfl rfl rfl rfl rfl rfl (fun l A ↦ c_X3_readOneOf 5 (Or.inr rfl) hS1.1 p1.1 (by omega) l _ A) ?_
    rintro v V' ad' ν' ⟨hv1, hv2, μ2, rfl, z, rfl, rfl, p2⟩
    subst V' ad'
    rw [q1] at p2 ⊢
    refine x_istore_n (i := 2) (pc := 19) F dX3_readTest_19 rfl rfl ?_
    refine x_iload_n (i := 2) (pc := 20) F dX3_readTest_20 rfl rfl ?_
    refine x_if_ge (tgt := 26) (pc := 21) F dX3_readTest_21 rfl (by omega) (fun h21 => ?_) (fun h21 => ?_)
    · have l1 : a + 1 < tl := chA_lt (tx := tx) (fun z => by rw [z] at h21; exact absurd h21 (by decide))
      rw [if_neg (by omega), show a + 1 + 1 = a + 2 by omega] at p2
      have hS2 := hS1.pl p2 (by omega)
      have hn := nu_rg (tx := tx) (tl := tl) (a + 2) (by omega)
      refine x_aload_n (i := 0) (pc := 26) F dX3_readTest_26 rfl rfl ?_
      refine x_V0i (ci := 3) (pc := 27) F dX3_readTest_27 lk_X3_43 rfl (v_15 (by omega)) rfl rfl (c_X3_readNumber hS2.1 p2.1 (by omega)) rfl rfl rfl ?_
      rintro _ μ3 ⟨rfl, p3⟩
      refine x_istore_n (i := 3) (pc := 30) F dX3_readTest_30 rfl rfl ?_
      refine x_iload_n (i := 3) (pc := 31) F dX3_readTest_31 rfl rfl ?_
      refine x_if_ge (tgt := 37) (pc := 32) F dX3_readTest_32 rfl (by omega) (fun h32 => ?_) (fun h32 => ?_)
      · have hS3 := hS2.pl p3 (by omega)
        have h3h := hS3.2.2.1.1
        refine x_aload_n (i := 0) (pc := 37) F dX3_readTest_37 rfl rfl ?_
        refine gf_X3_15 (pc := 38) F dX3_readTest_38 (v_15 (by omega)) ?_
        rw [hvl_r (by omega)]
        refine x_iconst (pc := 41) F dX3_readTest_41 ?_
        refine x_iload_n (i := 1) (pc := 42) F dX3_readTest_42 rfl rfl ?_
        refine x_imul (pc := 43) F dX3_readTest_43 ?_
        refine x_iload_n (i := 2) (pc := 44) F dX3_readTest_44 rfl rfl ?_
        refine x_iadd (pc := 45) F dX3_readTest_45 ?_
        refine x_iload_n (i := 3) (pc := 46) F dX3_readTest_46 rfl rfl ?_
        rw [h3h]
        refine x_V2v (ci := 2) (pc := 47) F dX3_readTest_47 lk_X3_55 rfl (v_12 (by omega)) rfl rfl (c_X2_put _ _ (by omega) (by have := hS3.2.2.2.1.1; omega)) rfl rfl rfl ?_
        rintro μ4 ⟨e1, e2, e3, e4, e5⟩
        refine x_iconst (pc := 50) F dX3_readTest_50 ?_
        refine tq_retz (b := true) (pc := 51) F dX3_readTest_51 ?_ rfl rfl rfl
        obtain ⟨r1, r2⟩ := RS_put hS3 (by omega) e1 e2 e3 e4 e5
        have e : testS tx tl a = (true, nuA tx tl (a + 2), [(3 * lxT (chA tx tl a) + sgT (chA tx tl (a + 1)), nuN tx tl (a + 2))], fun vals => tstS (sgT (chA tx tl (a + 1))) (vals (lxT (chA tx tl a))) (nuN tx tl (a + 2))) := by unfold testS; rw [if_neg (by omega), if_neg (by omega), if_neg (by omega)]
        rw [e]
        exact ⟨rfl, r1.2.1.1, (((RF.pl p1).trans (RF.pl p2)).trans (RF.pl p3)).trans r2, fun _ => r1⟩
      · refine x_iconst (pc := 35) F dX3_readTest_35 ?_
        refine tq_retz (b := false) (pc := 36) F dX3_readTest_36 ?_ rfl rfl rfl
        have e : testS tx tl a = rdF (a + 2) := by unfold testS; rw [if_neg (by omega), if_neg (by omega), if_pos (by omega)]
        rw [e]
        exact ⟨rfl, by rw [p3.1]; simp only [rdF]; omega, ((RF.pl p1).trans (RF.pl p2)).trans (RF.pl p3), fun z => by cases z⟩
    · refine x_iconst (pc := 24) F dX3_readTest_24 ?_
      refine tq_retz (b := false) (pc := 25) F dX3_readTest_25 ?_ rfl rfl rfl
      have e : testS tx tl a = rdF (a + 1) := by unfold testS; rw [if_neg (by omega), if_pos (by omega)]
      rw [if_pos (by omega)] at p2
      rw [e]
      exact ⟨rfl, p2.1, (RF.pl p1).trans (RF.pl p2), fun z => by cases z⟩
  · refine x_iconst (pc := 11) F dX3_readTest_11 ?_
    refine tq_retz (b := false) (pc := 12) F dX3_readTest_12 ?_ rfl rfl rfl
    have e : testS tx tl a = rdF a := by unfold testS; rw [if_pos (by omega)]
    rw [if_pos (by omega)] at p1
    rw [e]
    exact ⟨rfl, p1.1, RF.pl p1, fun z => by cases z⟩
end TEST
