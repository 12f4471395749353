/-! ===== the law: what a HOUSE leaves on both sides ===== -/
section LH2
variable {nh hc im tl : Int} {μ μ' : Me} {T K tx sT ln it : Tn} {Hm : Int → Hs} {Lb : List Int}
def HmN (Hm : Int → Hs) (hc : Int) (tx : Tn) (tl : Int) : Int → Hs := fun r => if r = hc + 1 then hsS tx tl else Hm r
theorem TR_78 {z : Int} {t : Int} (h : TR μ t T) (g : ∀ o : Ob, 2 ≤ o.1 → o.1 ≤ 9 → o.2.1 = t → μ' o = μ o) (e5 : μ' (1, t, 0) 5 = μ (1, t, 0) 5) (e6 : μ' (1, t, 0) 6 = μ (1, t, 0) 6) (e7 : μ' (1, t, 0) 7 = hR z) : TR μ' t (upT T 78 z) := by
  have e : ∀ k, k ≠ 78 → upT T 78 z k = T k := fun k hk => by rw [upT_i, if_neg hk]
  obtain ⟨b1, b2, b3, b4⟩ := h
  refine ⟨fun q u v => ?_, fun q u v => ?_, ⟨by rw [e 76 (by omega), e5]; exact b3.1, by rw [e 77 (by omega), e6]; exact b3.2.1, by rw [upT_i, if_pos rfl]; exact e7⟩, ?_⟩
  · have := GR_fr (μ' := μ') (b1 q u v) (g _ (by simp) (by simp) rfl) (g _ (by simp) (by simp) rfl)
    exact ⟨by rw [e _ (by omega)]; exact this.1, fun k x y => by rw [e _ (by omega)]; exact this.2 k x y⟩
  · have := CR_fr (μ' := μ') (b2 q u v) (g _ (by simp) (by simp) rfl) (g _ (by simp) (by simp) rfl)
    unfold CR
    rw [e (16 + 10 * q) (by omega), e (17 + 10 * q) (by omega), e (18 + 10 * q) (by omega), e (19 + 10 * q) (by omega), e (20 + 10 * q) (by omega), e (21 + 10 * q) (by omega)]
    obtain ⟨c0, c1, c2, c3, c4, c5, c6, c7⟩ := this
    exact ⟨c0, c1, c2, c3, c4, c5, c6, fun k x y => by rw [e _ (by omega)]; exact c7 k x y⟩
  · have := RR_fr (μ' := μ') b4 (fun o ho ht => g o (by omega) (by omega) ht)
    obtain ⟨⟨c1, c2⟩, ⟨c3, c4⟩, c5, c6⟩ := this
    exact ⟨⟨by rw [e _ (by omega)]; exact c1, fun k x y => by rw [e _ (by omega), e _ (by omega), e _ (by omega)]; exact c2 k x y⟩, ⟨by rw [e _ (by omega)]; exact c3, fun k x y => by rw [e _ (by omega), e _ (by omega)]; exact c4 k x y⟩, by rw [e _ (by omega)]; exact c5, fun k x y => by rw [e _ (by omega), e _ (by omega)]; exact c6 k x y⟩
theorem IC.hof (h : IC μ (hc + 1) hc im tl T K tx sT ln it Hm Lb) (h6 : 0 ≤ hc ∧ hc < 6) (e : HOt μ μ' hc tx tl) (hr : (rdS tx tl).1 = false) : IC μ' (hc + 1) hc im 0 T K tx sT ln it Hm Lb := by
  obtain ⟨a1, a2, a3, a4, a5, a6, a7, a8, a9⟩ := h
  obtain ⟨e1, e2, e3, e4, e5, e6, e7⟩ := e
  rw [if_neg (by rw [hr]; decide)] at e3 e5
  have g : ∀ o : Ob, o.1 ≠ 0 → o.1 ≠ 1 → o.1 ≠ 15 → ¬ ((o.1 = 12 ∨ o.1 = 13 ∨ o.1 = 14) ∧ o.2.1 = hc) → μ' o = μ o := fun o h1 h2 h3 h4 => e6 o (fun z => h1 (by rw [z])) (fun z => h2 (by rw [z])) (fun z => h3 (by rw [z])) (fun z => h4 (by rw [z]; simp)) (fun z => h4 (by rw [z]; simp)) (fun z => h4 (by rw [z]; simp))
  have g1 : μ' (1, 0, 0) = μ (1, 0, 0) := by
    funext k
    by_cases hk : k = 7
    · rw [hk, e5]
    · exact e4 k hk
  have g11 : ∀ o : Ob, o.1 = 1 → μ' o = μ o := fun o ho => by
    by_cases z : o = (1, 0, 0)
    · rw [z, g1]
    · exact e6 o (fun w => by rw [w] at ho; cases ho) z (fun w => by rw [w] at ho; cases ho) (fun w => by rw [w] at ho; cases ho) (fun w => by rw [w] at ho; cases ho) (fun w => by rw [w] at ho; cases ho)
  have gg : ∀ o : Ob, 1 ≤ o.1 → o.1 ≤ 9 → μ' o = μ o := fun o x y => by
    by_cases z : o.1 = 1
    · exact g11 o z
    · exact g o (by omega) z (by omega) (by omega)
  refine ⟨TR_fr a1 (fun o x y z => gg o x y), by rw [e2 3 (by decide)]; exact a2, TR_fr a3 (fun o x y z => gg o x y), ⟨⟨e1, by omega, by omega⟩, fun k x y => by omega⟩, TPR_fr a5 (fun o ho => g o (by unfold tapeO at ho; omega) (by unfold tapeO at ho; omega) (by unfold tapeO at ho; omega) (by unfold tapeO at ho; omega)), BT_fr a6 (e2 8 (by decide)) (g _ (by simp) (by simp) (by simp) (by simp)), e3, fun k x y => by rw [g (17, 0, 0) (by simp) (by simp) (by simp) (by simp)]; exact a8 k x y, fun r x y => ?_⟩
  have hh : hR r ≠ hc := by unfold hR; split <;> omega
  exact HRel_h (a9 r x y) (by omega) (g _ (by simp) (by simp) (by simp) (by simp; omega)) (g _ (by simp) (by simp) (by simp) (by simp; omega)) (g _ (by simp) (by simp) (by simp) (by simp; omega))
theorem IC.hok (h : IC μ (hc + 1) hc im tl T K tx sT ln it Hm Lb) (h6 : 0 ≤ hc ∧ hc < 6) (e : HOt μ μ' hc tx tl) (hr : (rdS tx tl).1 = true) : IC μ' (hc + 1) (hc + 1) im 0 (upT T 78 (hc + 1)) K tx sT ln it (HmN Hm hc tx tl) Lb ∧ SB (hsS tx tl) := by
  obtain ⟨a1, a2, a3, a4, a5, a6, a7, a8, a9⟩ := h
  obtain ⟨e1, e2, e3, e4, e5, e6, e7⟩ := e
  rw [if_pos hr] at e3 e5
  obtain ⟨f1, f2, f3⟩ := e7 hr
  have htl := a4.1.2
  have hok := HC_ok (μ := μ') f1 ((gd_rd (tx := tx) htl.1).2 hr) htl.2 h6 f2 f3
  have g : ∀ o : Ob, o.1 ≠ 0 → o.1 ≠ 1 → o.1 ≠ 15 → ¬ ((o.1 = 12 ∨ o.1 = 13 ∨ o.1 = 14) ∧ o.2.1 = hc) → μ' o = μ o := fun o h1 h2 h3 h4 => e6 o (fun z => h1 (by rw [z])) (fun z => h2 (by rw [z])) (fun z => h3 (by rw [z])) (fun z => h4 (by rw [z]; simp)) (fun z => h4 (by rw [z]; simp)) (fun z => h4 (by rw [z]; simp))
  have g1 : ∀ o : Ob, 1 ≤ o.1 → o.1 ≤ 9 → o.2.1 = 1 → μ' o = μ o := fun o x y w => e6 o (fun z => by rw [z] at w; exact absurd w (by decide)) (fun z => by rw [z] at w; exact absurd w (by decide)) (fun z => by rw [z] at y; exact absurd y (by simp)) (fun z => by rw [z] at y; exact absurd y (by simp)) (fun z => by rw [z] at y; exact absurd y (by simp)) (fun z => by rw [z] at y; exact absurd y (by simp))
  have hRn : hR (hc + 1) = hc := by unfold hR; rw [if_neg (by omega)]; omega
  refine ⟨⟨TR_78 a1 (fun o x y z => g o (by omega) (by omega) (by omega) (by omega)) (e4 5 (by decide)) (e4 6 (by decide)) (by rw [e5, hRn]), by rw [e2 3 (by decide)]; exact a2, TR_fr a3 g1, ⟨⟨e1, by omega, by omega⟩, fun k x y => by omega⟩, TPR_fr a5 (fun o ho => g o (by unfold tapeO at ho; omega) (by unfold tapeO at ho; omega) (by unfold tapeO at ho; omega) (by unfold tapeO at ho; omega)), BT_fr a6 (e2 8 (by decide)) (g _ (by simp) (by simp) (by simp) (by simp)), e3, fun k x y => by rw [g (17, 0, 0) (by simp) (by simp) (by simp) (by simp)]; exact a8 k x y, fun r x y => ?_⟩, ?_⟩
  · unfold HmN
    by_cases hz : r = hc + 1
    · rw [if_pos hz]
      subst hz
      refine ⟨?_, ?_, ?_, ?_, ?_⟩
      · rw [hRn]; omega
      · rw [hRn]; exact hok.1
      · rw [hRn]; exact hok.2
      · rw [hRn]; exact f2
      · rw [hRn]; exact f3
    · rw [if_neg hz]
      have hh : hR r ≠ hc := by unfold hR; split <;> omega
      exact HRel_h (a9 r x (by omega)) (by omega) (g _ (by simp) (by simp) (by simp) (by simp; omega)) (g _ (by simp) (by simp) (by simp) (by simp; omega)) (g _ (by simp) (by simp) (by simp) (by simp; omega))
  · obtain ⟨k1, k2, k3, k4, k5, k6, k7, k8⟩ := hok.1
    refine ⟨fun vals => ?_, ?_, ?_⟩
    · show -9900 ≤ (rdS tx tl).2.2.2.1 vals ∧ (rdS tx tl).2.2.2.1 vals ≤ 9900
      rw [← hok.2 vals]
      exact bonH_rg hok.1 vals
    · show 0 ≤ (rdS tx tl).2.2.2.2.1 ∧ (rdS tx tl).2.2.2.2.1 ≤ 99
      rw [← f2]
      exact ⟨k5, k6⟩
    · show 0 ≤ (rdS tx tl).2.2.2.2.2 ∧ (rdS tx tl).2.2.2.2.2 ≤ 99
      rw [← f3]
      exact ⟨k7, k8⟩
theorem MH_h {r : Int} {S : Hs} (h : MH μ r S) (hr : r ≤ hc) (e6 : ∀ k, k ≠ hc → μ' (36, 0, 0) k = μ (36, 0, 0) k) (e5 : ∀ k, k < 100 * hc ∨ 100 * hc + 100 ≤ k → μ' (35, 0, 0) k = μ (35, 0, 0) k) : MH μ' r S := by
  rcases h with h | ⟨h1, h2, tx', tl', ⟨h3, h4⟩, h5, h6, h7⟩
  · exact Or.inl h
  · exact Or.inr ⟨h1, h2, tx', tl', ⟨by rw [e6 _ (by omega)]; exact h3, h4⟩, fun k x y => by rw [e5 _ (by omega)]; exact h5 k x y, h6, h7⟩
theorem IM.hof (h : IM μ hc im tl T K tx sT ln it Hm Lb) (h5 : μ' (30, 0, 0) 5 = 0) (e : FHo μ μ' hc) (hT : TN μ' T) (h8 : μ' (30, 0, 0) 8 = hc) : IM μ' hc im 0 T K tx sT ln it Hm Lb := by
  obtain ⟨a1, a2, a3, a4, a5, a6, a7, a8, a9, a10⟩ := h
  obtain ⟨e1, e2, e3, e4⟩ := e
  have f : ∀ n : Nat, n ≠ 30 → n ≠ 31 → n ≠ 35 → n ≠ 36 → n ≠ 37 → μ' (n, 0, 0) = μ (n, 0, 0) := fun n n0 n1 n2 n3 n4 => e4 _ (by simp; omega) (by simp; omega) (by simp; omega) (by simp; omega) (by simp; omega)
  exact ⟨hT, by rw [e1 3 (by decide) (by decide) (by decide)]; exact a2, fun k x y => by rw [f 33 (by decide) (by decide) (by decide) (by decide) (by decide)]; exact a3 k x y, ⟨⟨h5, by omega, by omega⟩, fun k x y => by omega⟩, TPM_fr a5 (f 47 (by decide) (by decide) (by decide) (by decide) (by decide)) (f 48 (by decide) (by decide) (by decide) (by decide) (by decide)) (f 49 (by decide) (by decide) (by decide) (by decide) (by decide)), BTm_fr a6 (e1 27 (by decide) (by decide) (by decide)) (f 46 (by decide) (by decide) (by decide) (by decide) (by decide)), h8, MS_fr a8 (f 39 (by decide) (by decide) (by decide) (by decide) (by decide)) (f 40 (by decide) (by decide) (by decide) (by decide) (by decide)), MA_fr a9 (f 44 (by decide) (by decide) (by decide) (by decide) (by decide)) (f 45 (by decide) (by decide) (by decide) (by decide) (by decide)), fun r x y => MH_h (a10 r x y) y e2 e3⟩
theorem IM.hok (h : IM μ hc im tl T K tx sT ln it Hm Lb) (h6 : 0 ≤ hc ∧ hc < 6) (h5 : μ' (30, 0, 0) 5 = 0) (e : FHo μ μ' hc) (hr : (rdS tx tl).1 = true) (hT : TN μ' (upT T 78 (hc + 1))) (h8 : μ' (30, 0, 0) 8 = hc + 1) (h36 : μ' (36, 0, 0) hc = tl) (h35 : ∀ k, 0 ≤ k → k < tl → μ' (35, 0, 0) (100 * hc + k) = tx k) : IM μ' (hc + 1) im 0 (upT T 78 (hc + 1)) K tx sT ln it (HmN Hm hc tx tl) Lb := by
  obtain ⟨a1, a2, a3, a4, a5, a6, a7, a8, a9, a10⟩ := h
  obtain ⟨e1, e2, e3, e4⟩ := e
  have f : ∀ n : Nat, n ≠ 30 → n ≠ 31 → n ≠ 35 → n ≠ 36 → n ≠ 37 → μ' (n, 0, 0) = μ (n, 0, 0) := fun n n0 n1 n2 n3 n4 => e4 _ (by simp; omega) (by simp; omega) (by simp; omega) (by simp; omega) (by simp; omega)
  refine ⟨hT, by rw [e1 3 (by decide) (by decide) (by decide)]; exact a2, fun k x y => by rw [f 33 (by decide) (by decide) (by decide) (by decide) (by decide)]; exact a3 k x y, ⟨⟨h5, by omega, by omega⟩, fun k x y => by omega⟩, TPM_fr a5 (f 47 (by decide) (by decide) (by decide) (by decide) (by decide)) (f 48 (by decide) (by decide) (by decide) (by decide) (by decide)) (f 49 (by decide) (by decide) (by decide) (by decide) (by decide)), BTm_fr a6 (e1 27 (by decide) (by decide) (by decide)) (f 46 (by decide) (by decide) (by decide) (by decide) (by decide)), h8, MS_fr a8 (f 39 (by decide) (by decide) (by decide) (by decide) (by decide)) (f 40 (by decide) (by decide) (by decide) (by decide) (by decide)), MA_fr a9 (f 44 (by decide) (by decide) (by decide) (by decide) (by decide)) (f 45 (by decide) (by decide) (by decide) (by decide) (by decide)), fun r x y => ?_⟩
  unfold HmN
  by_cases hz : r = hc + 1
  · rw [if_pos hz]
    subst hz
    refine Or.inr ⟨by omega, by omega, tx, tl, ⟨?_, a4.1.2⟩, fun k x y => ?_, hr, rfl⟩
    · rw [show hc + 1 - 1 = hc by omega]; exact h36
    · rw [show hc + 1 - 1 = hc by omega]
      exact ⟨h35 k x y, (a4.2 k x y).2⟩
  · rw [if_neg hz]
    exact MH_h (a10 r x (by omega)) (by omega) e2 e3
end LH2
