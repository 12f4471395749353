/-! ===== Reader: one of, the word ===== -/
def oxT (i : Nat) (c : Int) : Int := if i = 4 then lxT c else sgT c
theorem oxT_t {i : Nat} (hi : i = 4 ∨ i = 5) {k : Nat} (hk : (k : Int) < stN i) : oxT i (stC i k) = k := by
  have h : ∀ i < 6, 4 ≤ i → ∀ k < 6, ((k : Nat) : Int) < stN i → oxT i (stC i ((k : Nat) : Int)) = k := by decide
  have hl : ∀ i < 6, stN i ≤ 6 := by decide
  have := hl i (by omega)
  exact h i (by omega) (by omega) k (by omega) hk
theorem oxT_f {i : Nat} (hi : i = 4 ∨ i = 5) {c : Int} (h : ∀ k : Nat, (k : Int) < stN i → stC i k ≠ c) : oxT i c = -1 := by
  rcases hi with rfl | rfl
  · have e0 := h 0 (by decide); have e1 := h 1 (by decide); have e2 := h 2 (by decide); have e3 := h 3 (by decide); have e4 := h 4 (by decide); have e5 := h 5 (by decide)
    rw [show stC 4 ((0 : Nat) : Int) = 112 by decide] at e0
    rw [show stC 4 ((1 : Nat) : Int) = 107 by decide] at e1
    rw [show stC 4 ((2 : Nat) : Int) = 118 by decide] at e2
    rw [show stC 4 ((3 : Nat) : Int) = 103 by decide] at e3
    rw [show stC 4 ((4 : Nat) : Int) = 116 by decide] at e4
    rw [show stC 4 ((5 : Nat) : Int) = 100 by decide] at e5
    unfold oxT lxT
    rw [if_pos rfl]
    (repeat' split) <;> omega
  · have e0 := h 0 (by decide); have e1 := h 1 (by decide); have e2 := h 2 (by decide)
    rw [show stC 5 ((0 : Nat) : Int) = 60 by decide] at e0
    rw [show stC 5 ((1 : Nat) : Int) = 61 by decide] at e1
    rw [show stC 5 ((2 : Nat) : Int) = 62 by decide] at e2
    unfold oxT sgT
    rw [if_neg (by decide)]
    (repeat' split) <;> omega
section ONEOF
variable {ad : Ob → Nat} {μ : Me} {nh : Int} {tx : Tn} {tl a : Int}
set_option maxRecDepth 20000 in
theorem c_X3_readOneOf (i : Nat) (hi4 : i = 4 ∨ i = 5) (hX : TX μ tx tl) (ha : μ (15, 0, 0) 2 = a) (h0 : 0 ≤ a ∧ a ≤ 200) (l : Launch) (E : Ev) (A : Nat → Prop) : Con l E 4 m_X3_readOneOf A (VC nh) ad μ [.ref (ad (15, 0, 0)), .ref (stA E i)] (pi fun z μ' => z = oxT i (chA tx tl a) ∧ PL μ μ' (if oxT i (chA tx tl a) = -1 then a else a + 1)) := by
  have hi : i < 6 := by omega
  have hch := hX.ch h0.1
  have hl : ∀ i < 6, stN i ≤ 6 := by decide
  have hl := hl i hi
  refine conE (own := RX3) (by decide +kernel) rfl rfl rfl (fun Γ F hE => ?_)
  subst hE
  have loop : ∀ (N : Nat) (k : Nat), stN i - k < N → k ≤ stN i → (∀ j : Nat, j < k → stC i j ≠ chA tx tl a) → XX Γ 4 (VC nh) ad (vl ad μ) 0 0 7 [(0, .ref (ad (15, 0, 0))), (1, .ref (stA (gE Γ) i)), (2, .int (I (chA tx tl a))), (3, .int (I k))] [] := by
    intro N
    induction N with
    | zero => intro k a1; omega
    | succ N ih =>
      intro k a1 a2 a3
      refine x_iload_n (i := 3) (pc := 7) F dX3_readOneOf_7 rfl rfl ?_
      refine x_aload_n (i := 1) (pc := 8) F dX3_readOneOf_8 rfl rfl ?_
      refine x_callSV (As := []) (mc2 := 0) (ms2 := 0) (d2 := 1) (pc := 9) F dX3_readOneOf_9 lk_X3_67 hi rfl rfl rfl rfl rfl rfl (fun l A ↦ c_slen hi l _ A) ?_
      rintro v V' ad' ν' ⟨hv1, hv2, μ', rfl, z, rfl, rfl, rfl⟩
      subst V' ad'
      refine x_icmp_ge (tgt := 42) (pc := 12) F dX3_readOneOf_12 rfl (by omega) (fun h12 => ?_) (fun h12 => ?_)
      · refine x_iconst (pc := 42) F dX3_readOneOf_42 ?_
        refine tq_reti (pc := 43) F dX3_readOneOf_43 ?_ rfl rfl rfl
        have e := oxT_f hi4 (c := chA tx tl a) (fun j hj => a3 j (by omega))
        exact ⟨e.symm, by rw [if_pos e]; exact PL.refl ha⟩
      · have hcr := stC_rg (j := (k : Int)) hi (by omega)
        refine x_aload_n (i := 1) (pc := 15) F dX3_readOneOf_15 rfl rfl ?_
        refine x_iload_n (i := 3) (pc := 16) F dX3_readOneOf_16 rfl rfl ?_
        refine x_callSV (As := [.int (I k)]) (mc2 := 0) (ms2 := 0) (d2 := 3) (pc := 17) F dX3_readOneOf_17 lk_X3_83 hi rfl rfl rfl rfl rfl rfl (fun l A ↦ c_char hi (by omega) l _ A) ?_
        rintro v V' ad' ν' ⟨hv1, hv2, μ', rfl, z, rfl, rfl, rfl⟩
        subst V' ad'
        refine x_iload_n (i := 2) (pc := 20) F dX3_readOneOf_20 rfl rfl ?_
        refine x_icmp_ne (tgt := 36) (pc := 21) F dX3_readOneOf_21 rfl (by omega) (fun h21 => ?_) (fun h21 => ?_)
        · refine x_iinc (pc := 36) F dX3_readOneOf_36 rfl rfl ?_
          refine x_goto (tgt := 7) (pc := 39) F dX3_readOneOf_39 rfl ?_
          exact x_sub (L' := [(0, .ref (ad (15, 0, 0))), (1, .ref (stA (gE Γ) i)), (2, .int (I (chA tx tl a))), (3, .int (I ((k + 1 : Nat) : Int)))]) ⟨rfl, rfl, rfl, rfl, trivial⟩ (ih (k + 1) (by omega) (by omega) (fun j hj => by by_cases e : j = k; (rw [e]; exact h21); exact a3 j (by omega)))
        · refine x_aload_n (i := 0) (pc := 24) F dX3_readOneOf_24 rfl rfl ?_
          refine x_dup (pc := 25) F dX3_readOneOf_25 rfl ?_
          refine gf_X3_24 (pc := 26) F dX3_readOneOf_26 (v_15 (by omega)) ?_
          rw [ha]
          refine x_iconst (pc := 29) F dX3_readOneOf_29 ?_
          refine x_iadd (pc := 30) F dX3_readOneOf_30 ?_
          refine pf_X3_24 (pc := 31) F dX3_readOneOf_31 (v_15 (by omega)) ?_
          refine x_iload_n (i := 3) (pc := 34) F dX3_readOneOf_34 rfl rfl ?_
          refine tq_reti (pc := 35) F dX3_readOneOf_35 ?_ rfl rfl rfl
          have e := oxT_t hi4 (k := k) (by omega)
          rw [h21] at e
          exact ⟨e.symm, by rw [if_neg (by omega)]; exact PL.up _ _⟩
  refine x_aload_n (i := 0) (pc := 0) F dX3_readOneOf_0 rfl rfl ?_
  refine x_V0i (ci := 3) (pc := 1) F dX3_readOneOf_1 lk_X3_90 rfl (v_15 (by omega)) rfl rfl (c_X3_signAt hX ha (by omega)) rfl rfl rfl ?_
  rintro _ _ ⟨rfl, rfl⟩
  refine x_istore_n (i := 2) (pc := 4) F dX3_readOneOf_4 rfl rfl ?_
  refine x_iconst (pc := 5) F dX3_readOneOf_5 ?_
  refine x_istore_n (i := 3) (pc := 6) F dX3_readOneOf_6 rfl rfl ?_
  exact x_sub (L' := [(0, .ref (ad (15, 0, 0))), (1, .ref (stA (gE Γ) i)), (2, .int (I (chA tx tl a))), (3, .int (I ((0 : Nat) : Int)))]) ⟨rfl, rfl, rfl, rfl, trivial⟩ (loop 7 0 (by omega) (by have : ∀ i < 6, 0 ≤ stN i := (by decide); exact this i hi) (fun j hj => absurd hj (Nat.not_lt_zero j)))
end ONEOF
