/-! ===== Reader: tests ===== -/
/-- reading at a, into House h, with code so far -/
def RS (μ : Me) (tx : Tn) (tl a h : Int) (code : List (Int × Int)) : Prop := TX μ tx tl ∧ (μ (15, 0, 0) 2 = a ∧ 0 ≤ a ∧ a ≤ tl) ∧ (μ (15, 0, 0) 3 = h ∧ 0 ≤ h ∧ h < 6) ∧ HC μ h code ∧ (code.length : Int) ≤ a
def RF (μ μ' : Me) (h : Int) : Prop := (∀ k, k ≠ 2 → μ' (15, 0, 0) k = μ (15, 0, 0) k) ∧ (∀ k, k ≠ 2 → μ' (12, h, 0) k = μ (12, h, 0) k) ∧ ∀ o, o ≠ (15, 0, 0) → o ≠ (12, h, 0) → o ≠ (13, h, 0) → o ≠ (14, h, 0) → μ' o = μ o
theorem RF.trans {μ μ1 μ2 : Me} {h : Int} (a : RF μ μ1 h) (b : RF μ1 μ2 h) : RF μ μ2 h := ⟨fun k hk => by rw [b.1 k hk, a.1 k hk], fun k hk => by rw [b.2.1 k hk, a.2.1 k hk], fun o h1 h2 h3 h4 => by rw [b.2.2 o h1 h2 h3 h4, a.2.2 o h1 h2 h3 h4]⟩
theorem RF.refl (μ : Me) (h : Int) : RF μ μ h := ⟨fun _ _ => rfl, fun _ _ => rfl, fun _ _ _ _ _ => rfl⟩
theorem RF.pl {μ μ' : Me} {a h : Int} (e : PL μ μ' a) : RF μ μ' h := ⟨e.2.1, fun k _ => by rw [e.2.2 _ (by simp)], fun o h1 _ _ _ => e.2.2 o h1⟩
theorem TX.rf {μ μ' : Me} {tx : Tn} {tl h : Int} (hx : TX μ tx tl) (e : RF μ μ' h) : TX μ' tx tl := by
  obtain ⟨⟨h1, h2⟩, h3⟩ := hx
  refine ⟨⟨by rw [e.1 1 (by decide)]; exact h1, h2⟩, fun k x y => ?_⟩
  rw [e.2.2 _ (by simp) (by simp) (by simp) (by simp)]
  exact h3 k x y
theorem HC.pl {μ μ' : Me} {a h : Int} {code : List (Int × Int)} (hc : HC μ h code) (e : PL μ μ' a) : HC μ' h code := by
  unfold HC
  rw [e.2.2 (12, h, 0) (by simp), e.2.2 (13, h, 0) (by simp), e.2.2 (14, h, 0) (by simp)]
  exact hc
theorem RS.pl {μ μ' : Me} {tx : Tn} {tl a b h : Int} {code : List (Int × Int)} (hs : RS μ tx tl a h code) (e : PL μ μ' b) (hb : a ≤ b ∧ b ≤ tl) : RS μ' tx tl b h code := by
  obtain ⟨h1, h2, h3, h4, h5⟩ := hs
  exact ⟨h1.pl e, ⟨e.1, by omega, by omega⟩, ⟨by rw [e.2.1 3 (by decide)]; exact h3.1, h3.2⟩, h4.pl e, by omega⟩
/-- a step put -/
theorem HC_push {μ μ' : Me} {h op n : Int} {code : List (Int × Int)} (hc : HC μ h code) (e1 : μ' (12, h, 0) 2 = μ (12, h, 0) 2 + 1) (e2 : ∀ k, μ' (13, h, 0) k = if k = μ (12, h, 0) 2 then op else μ (13, h, 0) k) (e3 : ∀ k, μ' (14, h, 0) k = if k = μ (12, h, 0) 2 then n else μ (14, h, 0) k) : HC μ' h (code ++ [(op, n)]) := by
  obtain ⟨h1, h2⟩ := hc
  refine ⟨by rw [e1, h1, List.length_append]; simp, fun i hi => ?_⟩
  rw [List.length_append, List.length_singleton] at hi
  rw [e2, e3, h1]
  simp only [List.getD_eq_getElem?_getD]
  by_cases q : i < code.length
  · rw [if_neg (by omega), if_neg (by omega), List.getElem?_append_left q]
    have := h2 i q
    simp only [List.getD_eq_getElem?_getD] at this
    exact this
  · rw [if_pos (by omega), if_pos (by omega), List.getElem?_append_right (by omega), show i - code.length = 0 by omega]
    exact ⟨rfl, rfl⟩
/-- what a reading leaves -/
def RP (μ μ' : Me) (tx : Tn) (tl h : Int) (code : List (Int × Int)) (r : Rd) (z : Bool) : Prop := z = r.1 ∧ μ' (15, 0, 0) 2 = r.2.1 ∧ RF μ μ' h ∧ (r.1 = true → RS μ' tx tl r.2.1 h (code ++ r.2.2.1))
section TEST
variable {ad : Ob → Nat} {μ : Me} {nh : Int} {tx : Tn} {tl a h : Int} {code : List (Int × Int)}
theorem RS_put {μ' : Me} {b op n : Int} (hs : RS μ tx tl b h code) (hl : (code.length : Int) + 1 ≤ b) (e1 : μ' (12, h, 0) 2 = μ (12, h, 0) 2 + 1) (e2 : ∀ k, μ' (13, h, 0) k = if k = μ (12, h, 0) 2 then op else μ (13, h, 0) k) (e3 : ∀ k, μ' (14, h, 0) k = if k = μ (12, h, 0) 2 then n else μ (14, h, 0) k) (e4 : ∀ k, k ≠ 2 → μ' (12, h, 0) k = μ (12, h, 0) k) (e5 : ∀ o, o ≠ (12, h, 0) → o ≠ (13, h, 0) → o ≠ (14, h, 0) → μ' o = μ o) : RS μ' tx tl b h (code ++ [(op, n)]) ∧ RF μ μ' h := by
  have hr : RF μ μ' h := ⟨fun k _ => by rw [e5 _ (by simp) (by simp) (by simp)], e4, fun o _ h2 h3 h4 => e5 o h2 h3 h4⟩
  obtain ⟨h1, h2, h3, h4, h5⟩ := hs
  have e15 := e5 (15, 0, 0) (by simp) (by simp) (by simp)
  exact ⟨⟨h1.rf hr, by rw [e15]; exact h2, by rw [e15]; exact h3, HC_push h4 e1 e2 e3, by rw [List.length_append, List.length_singleton]; omega⟩, hr⟩
set_option maxRecDepth 20000 in
theorem c_X3_readTest (hS : RS μ tx tl a h code) (hh : h < nh) (l : Launch) (E : Ev) (A : Nat → Prop) : Con l E 5 m_X3_readTest A (VC nh) ad μ [.ref (ad (15, 0, 0))] (pz fun z μ' => RP μ μ' tx tl h code (testS tx tl a) z) := by
  obtain ⟨hX, ⟨ha, ha0, hat⟩, ⟨h3, h30, h36⟩, hC, hl⟩ := id hS
  have htl := hX.1.2.2
  refine conE (own := RX3) (by decide +kernel) rfl rfl rfl (fun Γ F hE => ?_)
  subst hE
  sorry
end TEST
