/-! ===== days ===== -/
noncomputable def bitsP (f : Int → Prop) : Nat → Int
  | 0 => 0
  | n + 1 => bitsP f n + pI (f n) * p2 n
theorem p2_n (n : Nat) : p2 (n : Int) = ((2 ^ n : Nat) : Int) := by unfold p2; rw [Int.toNat_natCast]
theorem bitsP_rg (f : Int → Prop) : ∀ n : Nat, 0 ≤ bitsP f n ∧ bitsP f n < p2 n
  | 0 => by simp [bitsP, p2]
  | n + 1 => by
    have ih := bitsP_rg f n
    have h1 := pI_rg (f n)
    have e : p2 ((n + 1 : Nat) : Int) = 2 * p2 n := by rw [p2_n, p2_n, Nat.pow_succ]; omega
    rw [e]
    simp only [bitsP]
    rcases (show pI (f n) = 0 ∨ pI (f n) = 1 by omega) with e | e <;> rw [e] <;> omega
theorem p2_le {k m : Int} (h : 0 ≤ k ∧ k ≤ m) : 1 ≤ p2 k ∧ p2 k ≤ p2 m := by
  unfold p2
  have h1 : 0 < 2 ^ k.toNat := Nat.pow_pos (by decide)
  have h2 := Nat.pow_le_pow_right (n := 2) (by decide) (show k.toNat ≤ m.toNat by omega)
  omega
theorem p2_rg {k : Int} (h : 0 ≤ k ∧ k < 12) : 1 ≤ p2 k ∧ p2 k ≤ 2048 := by
  have := p2_le (k := k) (m := 11) (by omega)
  exact this
theorem wo_p2 {x : Int} {n : Nat} (h : 0 ≤ x ∧ x < p2 n) : wo x (p2 n) = x + p2 n := by
  rw [p2_n] at h ⊢
  have h1 : x.toNat < 2 ^ n := by omega
  have h2 := Nat.two_pow_add_eq_or_of_lt h1 1
  unfold wo
  rw [Nat.mul_one] at h2
  rw [Int.toNat_natCast, Nat.or_comm, ← h2]
  omega
def sumP (T : Tn) : Nat → Int
  | 0 => 0
  | n + 1 => sumP T n + T (21 + 10 * (n : Int))
theorem sumP_rg {T : Tn} (B : Int) (h : ∀ p : Int, 0 ≤ p → p < 6 → 0 ≤ T (21 + 10 * p) ∧ T (21 + 10 * p) ≤ B) : ∀ n : Nat, n ≤ 6 → 0 ≤ sumP T n ∧ sumP T n ≤ B * n
  | 0, _ => by simp [sumP]
  | n + 1, hn => by
    have ih := sumP_rg B h n (by omega)
    have h1 := h n (by omega) (by omega)
    simp only [sumP]
    rw [show ((n + 1 : Nat) : Int) = (n : Int) + 1 from rfl, Int.mul_add]
    omega
noncomputable def whoT (S : Hs) (T : Tn) : Int := bitsP (LT S T) (T 76).toNat
def passT (T : Tn) : Int := sumP T (T 76).toNat
theorem wkS_rg {age day num w : Int} (h : 0 ≤ w ∧ w < 4096) (hn : 0 ≤ num) (hd : 0 ≤ day) : 0 ≤ wkS age day num w ∧ wkS age day num w < 4096 := by
  unfold wkS
  split
  · have := p2_rg (k := (num + day) % 12) (by omega)
    exact wx_rg (by omega)
  · exact h
section DAYF
variable {S : Hs} {T : Tn} {i p : Int}
theorem dayF_w (hp : 0 ≤ p) : dayF S T i (18 + 10 * p) = if p < i then wkS S.2.2 (T 77) p (T (18 + 10 * p)) else T (18 + 10 * p) := by
  unfold dayF
  by_cases h : p < i
  · rw [if_pos (by omega), if_pos (by omega), if_pos h, show (18 + 10 * p - 16) / 10 = p by omega]
  · rw [if_neg (by omega), if_neg h]
theorem dayF_t (hp : 0 ≤ p) : dayF S T i (20 + 10 * p) = if p < i then min 9 (T (20 + 10 * p) + (1 - pI (LT S T p))) else T (20 + 10 * p) := by
  unfold dayF
  by_cases h : p < i
  · rw [if_pos (by omega), if_neg (by omega), if_pos (by omega), if_pos h, show (20 + 10 * p - 16) / 10 = p by omega]
  · rw [if_neg (by omega), if_neg h]
theorem dayF_p (hp : 0 ≤ p) : dayF S T i (21 + 10 * p) = if p < i then T (21 + 10 * p) + pI (LT S T p) else T (21 + 10 * p) := by
  unfold dayF
  by_cases h : p < i
  · rw [if_pos (by omega), if_neg (by omega), if_neg (by omega), if_pos (by omega), if_pos h, show (21 + 10 * p - 16) / 10 = p by omega]
  · rw [if_neg (by omega), if_neg h]
theorem dayF_o {k : Int} (h : k < 16 ∨ 16 + 10 * i ≤ k ∨ (k - 16) % 10 ≠ 2 ∧ (k - 16) % 10 ≠ 4 ∧ (k - 16) % 10 ≠ 5) : dayF S T i k = T k := by
  unfold dayF
  by_cases h1 : 16 ≤ k ∧ k < 16 + 10 * i
  · rw [if_pos h1, if_neg (by omega), if_neg (by omega), if_neg (by omega)]
  · rw [if_neg h1]
theorem dayF_0 : dayF S T 0 = T := by
  funext k
  exact dayF_o (by omega)
theorem dayT_TI (h : TI T) (hS : 0 ≤ S.2.2) : TI (dayT S T) := by
  obtain ⟨h1, h2, h3, h4, h5, h6⟩ := h
  have e : ∀ k, k ≠ 77 → (k < 16 ∨ 76 ≤ k ∨ (k - 16) % 10 ≠ 2 ∧ (k - 16) % 10 ≠ 4 ∧ (k - 16) % 10 ≠ 5) → dayT S T k = T k := fun k a b => by
    unfold dayT
    rw [if_neg a]
    exact dayF_o (by omega)
  have e77 : dayT S T 77 = T 77 + 1 := by unfold dayT; rw [if_pos rfl]
  refine ⟨fun g g1 g2 => ⟨?_, fun k k1 k2 => ?_⟩, fun p p1 p2 => ⟨?_, ?_, ?_, ?_, ?_, ?_, fun k k1 k2 => ?_⟩, ?_, ?_, ?_, ?_⟩
  · rw [e _ (by omega) (by omega)]; exact (h1 g g1 g2).1
  · rw [e _ (by omega) (by omega)]; exact (h1 g g1 g2).2 k k1 k2
  · rw [e _ (by omega) (by omega)]; exact (h2 p p1 p2).1
  · rw [e _ (by omega) (by omega)]; exact (h2 p p1 p2).2.1
  · have := wkS_rg (age := S.2.2) (day := T 77) (num := p) (h2 p p1 p2).2.2.1 p1 h4
    unfold dayT
    rw [if_neg (by omega), dayF_w p1]
    split
    · exact this
    · exact (h2 p p1 p2).2.2.1
  · rw [e _ (by omega) (by omega)]; exact (h2 p p1 p2).2.2.2.1
  · have a := (h2 p p1 p2).2.2.2.2.1
    have b := pI_rg (LT S T p)
    unfold dayT
    rw [if_neg (by omega), dayF_t p1]
    split <;> omega
  · have a := (h2 p p1 p2).2.2.2.2.2.1
    have b := pI_rg (LT S T p)
    rw [e77]
    unfold dayT
    rw [if_neg (by omega), dayF_p p1]
    split <;> omega
  · rw [e _ (by omega) (by omega)]; exact (h2 p p1 p2).2.2.2.2.2.2 k k1 k2
  · rw [e _ (by omega) (by omega)]; exact h3
  · rw [e77]; omega
  · rw [e _ (by omega) (by omega)]; exact h5
  · obtain ⟨r1, r2, r3, r4, r5, r6⟩ := h6
    have e76 := e 76 (by omega) (by omega)
    refine ⟨?_, ?_, ?_, ?_, ?_, ?_⟩
    · rw [e _ (by omega) (by omega)]; exact r1
    · intro k k1 k2
      rw [e 79 (by omega) (by omega)] at k2
      rw [e (80 + 3 * k) (by omega) (by omega), e (81 + 3 * k) (by omega) (by omega), e (82 + 3 * k) (by omega) (by omega), e76]
      exact r2 k k1 k2
    · rw [e _ (by omega) (by omega)]; exact r3
    · intro k k1 k2
      rw [e 95 (by omega) (by omega)] at k2
      have := r4 k k1 k2
      unfold PI1 at this ⊢
      rw [e (96 + 2 * k) (by omega) (by omega), e (97 + 2 * k) (by omega) (by omega), e76]
      exact this
    · rw [e _ (by omega) (by omega)]; exact r5
    · intro k k1 k2
      rw [e 116 (by omega) (by omega)] at k2
      rw [e (117 + 2 * k) (by omega) (by omega), e (118 + 2 * k) (by omega) (by omega), e76]
      exact r6 k k1 k2
theorem dayT_o {k : Int} (h : k ≠ 77) (h2 : k < 16 ∨ 76 ≤ k ∨ (k - 16) % 10 ≠ 2 ∧ (k - 16) % 10 ≠ 4 ∧ (k - 16) % 10 ≠ 5) (hm : T 76 ≤ 6) : dayT S T k = T k := by
  unfold dayT
  rw [if_neg h]
  exact dayF_o (by omega)
theorem dayT_77 : dayT S T 77 = T 77 + 1 := by unfold dayT; rw [if_pos rfl]
theorem daysT_TI (h : TI T) (hS : 0 ≤ S.2.2) : ∀ n : Nat, TI (daysT S n T)
  | 0 => h
  | n + 1 => dayT_TI (daysT_TI h hS n) hS
theorem daysT_77 : ∀ n : Nat, daysT S n T 77 = T 77 + n
  | 0 => by simp [daysT]
  | n + 1 => by
    have := daysT_77 n
    simp only [daysT, dayT_77]
    omega
theorem daysT_o {k : Int} (hI : TI T) (hS : 0 ≤ S.2.2) (h : k ≠ 77) (h2 : k < 16 ∨ 76 ≤ k ∨ (k - 16) % 10 ≠ 2 ∧ (k - 16) % 10 ≠ 4 ∧ (k - 16) % 10 ≠ 5) : ∀ n : Nat, daysT S n T k = T k
  | 0 => rfl
  | n + 1 => by
    have := daysT_o hI hS h h2 n
    simp only [daysT]
    rw [dayT_o h h2 (daysT_TI hI hS n).2.2.1.2, this]
end DAYF
/-- the cells of Houses -/
def hs3 (o : Ob) : Prop := o.1 = 12 ∨ o.1 = 13 ∨ o.1 = 14
theorem HouseOK.fr {μ μ' : Me} {h : Int} (hh : HouseOK μ h) (hf : ∀ o, hs3 o → μ' o = μ o) : HouseOK μ' h := by
  unfold HouseOK at hh ⊢
  rw [hf (12, h, 0) (Or.inl rfl), hf (13, h, 0) (Or.inr (Or.inl rfl)), hf (14, h, 0) (Or.inr (Or.inr rfl))]
  exact hh
theorem HRel.fr {μ μ' : Me} {nh r : Int} {S : Hs} (h : HRel μ nh r S) (hf : ∀ o, hs3 o → μ' o = μ o) : HRel μ' nh r S := by
  obtain ⟨h1, h2, h3, h4, h5⟩ := h
  refine ⟨h1, h2.fr hf, fun vals => ?_, ?_, ?_⟩
  · rw [← h3 vals]
    unfold bonH
    rw [hf (12, hR r, 0) (Or.inl rfl), hf (13, hR r, 0) (Or.inr (Or.inl rfl)), hf (14, hR r, 0) (Or.inr (Or.inr rfl))]
  · rw [hf (12, hR r, 0) (Or.inl rfl)]; exact h4
  · rw [hf (12, hR r, 0) (Or.inl rfl)]; exact h5
section TDAYS
variable {ad : Ob → Nat} {μ : Me} {nh t p g : Int} {T : Tn} {S : Hs}
set_option maxRecDepth 20000 in
theorem c_X6_whoIsLet (hR0 : TR μ t T) (hI : TI T) (hH : HRel μ nh (T 78) S) (ht : 0 ≤ t ∧ t < 3) (hd : T 77 ≤ 20000) (l : Launch) (E : Ev) (A : Nat → Prop) : Con l E 5 m_X6_whoIsLet A (VC nh) ad μ [.ref (ad (1, t, 0))] (pi fun z μ' => z = whoT S T ∧ μ = μ') := by
  have hT := hR0.town hI hH ht hd
  have hm : μ (1, t, 0) 5 = T 76 := hR0.2.2.1.1
  have hm6 := hI.2.2.1
  refine con (own := RX6) (by decide +kernel) rfl rfl rfl (fun Γ F => ?_)
  have loop : ∀ (N : Nat) (n : Nat), T 76 - n < N → n ≤ T 76 → XX Γ 3 (VC nh) ad (vl ad μ) 0 0 4 [(0, .ref (ad (1, t, 0))), (1, .int (I (bitsP (LT S T) n))), (2, .int (I n))] [] := by
    intro N
    induction N with
    | zero => intro n a1 a2; omega
    | succ N ih =>
      intro n a1 a2
      have hb := bitsP_rg (LT S T) n
      have hp2 := p2_le (k := n) (m := 6) (by omega)
      have hp6 : p2 6 = 64 := by decide
      have hnn : ((n : Nat) : Int) = n := rfl
      refine x_iload_n (i := 2) (pc := 4) F dX6_whoIsLet_4 rfl rfl ?_
      refine x_aload_n (i := 0) (pc := 5) F dX6_whoIsLet_5 rfl rfl ?_
      refine gf_X6_54 (pc := 6) F dX6_whoIsLet_6 (v_1 (by omega)) ?_
      refine x_icmp_ge (tgt := 46) (pc := 9) F dX6_whoIsLet_9 rfl (by omega) (fun h9 => ?_) (fun h9 => ?_)
      · refine x_iload_n (i := 1) (pc := 46) F dX6_whoIsLet_46 rfl rfl ?_
        refine tq_reti (pc := 47) F dX6_whoIsLet_47 ?_ rfl rfl rfl
        exact ⟨by unfold whoT; rw [show (T 76).toNat = n by omega], rfl⟩
      · have hc := hR0.comer (p := n) hI ht (by omega) hd
        have hgt : μ (4, t, (n : Int)) 4 = T (19 + 10 * n) := (hR0.2.1 n (by omega) (by omega)).2.2.2.2.1
        have hgr := (hI.2.1 n (by omega) (by omega)).2.2.2.1
        refine x_aload_n (i := 0) (pc := 12) F dX6_whoIsLet_12 rfl rfl ?_
        refine x_aload_n (i := 0) (pc := 13) F dX6_whoIsLet_13 rfl rfl ?_
        refine gf_X6_19 (pc := 14) F dX6_whoIsLet_14 (v_1 (by omega)) ?_
        refine x_iload_n (i := 2) (pc := 17) F dX6_whoIsLet_17 rfl rfl ?_
        refine tq_pa (pc := 18) F dX6_whoIsLet_18 (v_11 (by omega)) (by omega) ?_
        refine x_aload_n (i := 0) (pc := 19) F dX6_whoIsLet_19 rfl rfl ?_
        refine gf_X6_19 (pc := 20) F dX6_whoIsLet_20 (v_1 (by omega)) ?_
        refine x_iload_n (i := 2) (pc := 23) F dX6_whoIsLet_23 rfl rfl ?_
        refine tq_pa (pc := 24) F dX6_whoIsLet_24 (v_11 (by omega)) (by omega) ?_
        refine gf_X6_83 (pc := 25) F dX6_whoIsLet_25 (v_4 (by omega)) ?_
        rw [hgt]
        refine x_V2z (ci := 6) (pc := 28) F dX6_whoIsLet_28 lk_X6_109 rfl (v_1 (by omega)) rfl rfl (c_X6_letsBy hT hc (by omega) (hR0.gate hI (by omega))) rfl rfl rfl ?_
        rintro b _ ⟨hbb, rfl⟩
        rw [hR0.let hH hI (by omega) (by omega)] at hbb
        have hbb : b = true ↔ LT S T n := hbb
        refine x_if_eqB (tgt := 40) (pc := 31) F dX6_whoIsLet_31 rfl (fun h31 => ?_) (fun h31 => ?_)
        · try simp only [decide_eq_true_eq, decide_eq_false_iff_not, Bool.and_eq_true, Bool.or_eq_true, Bool.not_eq_true', Bool.not_eq_false', Bool.and_eq_false_iff, Bool.or_eq_false_iff] at h31
          refine x_iinc (pc := 40) F dX6_whoIsLet_40 rfl rfl ?_
          refine x_goto (tgt := 4) (pc := 43) F dX6_whoIsLet_43 rfl ?_
          refine x_sub (L' := [(0, .ref (ad (1, t, 0))), (1, .int (I (bitsP (LT S T) (n + 1)))), (2, .int (I ((n + 1 : Nat) : Int)))]) ⟨rfl, lk_i rfl ?_, rfl, trivial⟩ (ih (n + 1) (by omega) (by omega))
          simp only [bitsP]
          first | (rw [pI_f (fun z => by have := hbb.mpr z; rw [h31] at this; cases this)]; omega) | (rw [pI_t (hbb.mp h31), wo_p2 hb]; omega)
        · try simp only [decide_eq_true_eq, decide_eq_false_iff_not, Bool.and_eq_true, Bool.or_eq_true, Bool.not_eq_true', Bool.not_eq_false', Bool.and_eq_false_iff, Bool.or_eq_false_iff] at h31
          refine x_iload_n (i := 1) (pc := 34) F dX6_whoIsLet_34 rfl rfl ?_
          refine x_iconst (pc := 35) F dX6_whoIsLet_35 ?_
          refine x_iload_n (i := 2) (pc := 36) F dX6_whoIsLet_36 rfl rfl ?_
          refine tq_ishl (pc := 37) F dX6_whoIsLet_37 (by omega) ?_
          refine tq_ior (pc := 38) F dX6_whoIsLet_38 (by omega) ?_
          refine x_istore_n (i := 1) (pc := 39) F dX6_whoIsLet_39 rfl rfl ?_
          refine x_iinc (pc := 40) F dX6_whoIsLet_40 rfl rfl ?_
          refine x_goto (tgt := 4) (pc := 43) F dX6_whoIsLet_43 rfl ?_
          refine x_sub (L' := [(0, .ref (ad (1, t, 0))), (1, .int (I (bitsP (LT S T) (n + 1)))), (2, .int (I ((n + 1 : Nat) : Int)))]) ⟨rfl, lk_i rfl ?_, rfl, trivial⟩ (ih (n + 1) (by omega) (by omega))
          simp only [bitsP]
          first | (rw [pI_f (fun z => by have := hbb.mpr z; rw [h31] at this; cases this)]; omega) | (rw [pI_t (hbb.mp h31), wo_p2 hb]; omega)
  refine x_iconst (pc := 0) F dX6_whoIsLet_0 ?_
  refine x_istore_n (i := 1) (pc := 1) F dX6_whoIsLet_1 rfl rfl ?_
  refine x_iconst (pc := 2) F dX6_whoIsLet_2 ?_
  refine x_istore_n (i := 2) (pc := 3) F dX6_whoIsLet_3 rfl rfl ?_
  exact x_sub (L' := [(0, .ref (ad (1, t, 0))), (1, .int (I (bitsP (LT S T) 0))), (2, .int (I ((0 : Nat) : Int)))]) ⟨rfl, rfl, rfl, trivial⟩ (loop 7 0 (by omega) (by omega))
set_option maxRecDepth 20000 in
theorem c_X6_passedTogether (hR0 : TR μ t T) (hI : TI T) (ht : 0 ≤ t ∧ t < 3) (hd : T 77 ≤ 20000) (l : Launch) (E : Ev) (A : Nat → Prop) : Con l E 1 m_X6_passedTogether A (VC nh) ad μ [.ref (ad (1, t, 0))] (pi fun z μ' => z = passT T ∧ μ = μ') := by
  have hm : μ (1, t, 0) 5 = T 76 := hR0.2.2.1.1
  have hm6 := hI.2.2.1
  refine con (own := RX6) (by decide +kernel) rfl rfl rfl (fun Γ F => ?_)
  have loop : ∀ (N : Nat) (n : Nat), T 76 - n < N → n ≤ T 76 → XX Γ 3 (VC nh) ad (vl ad μ) 0 0 4 [(0, .ref (ad (1, t, 0))), (1, .int (I (sumP T n))), (2, .int (I n))] [] := by
    intro N
    induction N with
    | zero => intro n a1 a2; omega
    | succ N ih =>
      intro n a1 a2
      refine x_iload_n (i := 2) (pc := 4) F dX6_passedTogether_4 rfl rfl ?_
      refine x_aload_n (i := 0) (pc := 5) F dX6_passedTogether_5 rfl rfl ?_
      refine gf_X6_54 (pc := 6) F dX6_passedTogether_6 (v_1 (by omega)) ?_
      refine x_icmp_ge (tgt := 30) (pc := 9) F dX6_passedTogether_9 rfl (by omega) (fun h9 => ?_) (fun h9 => ?_)
      · refine x_iload_n (i := 1) (pc := 30) F dX6_passedTogether_30 rfl rfl ?_
        refine tq_reti (pc := 31) F dX6_passedTogether_31 ?_ rfl rfl rfl
        exact ⟨by unfold passT; rw [show (T 76).toNat = n by omega], rfl⟩
      · have hgt : μ (4, t, (n : Int)) 6 = T (21 + 10 * n) := (hR0.2.1 n (by omega) (by omega)).2.2.2.2.2.2.1
        refine x_iload_n (i := 1) (pc := 12) F dX6_passedTogether_12 rfl rfl ?_
        refine x_aload_n (i := 0) (pc := 13) F dX6_passedTogether_13 rfl rfl ?_
        refine gf_X6_19 (pc := 14) F dX6_passedTogether_14 (v_1 (by omega)) ?_
        refine x_iload_n (i := 2) (pc := 17) F dX6_passedTogether_17 rfl rfl ?_
        refine tq_pa (pc := 18) F dX6_passedTogether_18 (v_11 (by omega)) (by omega) ?_
        refine gf_X6_113 (pc := 19) F dX6_passedTogether_19 (v_4 (by omega)) ?_
        rw [hgt]
        refine x_iadd (pc := 22) F dX6_passedTogether_22 ?_
        refine x_istore_n (i := 1) (pc := 23) F dX6_passedTogether_23 rfl rfl ?_
        refine x_iinc (pc := 24) F dX6_passedTogether_24 rfl rfl ?_
        refine x_goto (tgt := 4) (pc := 27) F dX6_passedTogether_27 rfl ?_
        exact x_sub (L' := [(0, .ref (ad (1, t, 0))), (1, .int (I (sumP T (n + 1)))), (2, .int (I ((n + 1 : Nat) : Int)))]) ⟨rfl, rfl, rfl, trivial⟩ (ih (n + 1) (by omega) (by omega))
  refine x_iconst (pc := 0) F dX6_passedTogether_0 ?_
  refine x_istore_n (i := 1) (pc := 1) F dX6_passedTogether_1 rfl rfl ?_
  refine x_iconst (pc := 2) F dX6_passedTogether_2 ?_
  refine x_istore_n (i := 2) (pc := 3) F dX6_passedTogether_3 rfl rfl ?_
  exact x_sub (L' := [(0, .ref (ad (1, t, 0))), (1, .int (I (sumP T 0))), (2, .int (I ((0 : Nat) : Int)))]) ⟨rfl, rfl, rfl, trivial⟩ (loop 7 0 (by omega) (by omega))
set_option maxRecDepth 20000 in
theorem c_X6_spendDay (hT : TownOK μ nh t) (hC : ComerOK μ t p) (hG : GateOK μ t (μ (4, t, p) 4)) (l : Launch) (E : Ev) (A : Nat → Prop) : Con l E 5 m_X6_spendDay A (VC nh) ad μ [.ref (ad (1, t, 0)), .ref (ad (4, t, p))] (pv fun μ' => μ' (4, t, p) 6 = μ (4, t, p) 6 + pI (letM μ t t p (μ (4, t, p) 4)) ∧ μ' (4, t, p) 5 = min 9 (μ (4, t, p) 5 + (1 - pI (letM μ t t p (μ (4, t, p) 4)))) ∧ μ' (4, t, p) 3 = wkS (μ (12, μ (1, t, 0) 7, 0) 4) (μ (1, t, 0) 6) (μ (4, t, p) 0) (μ (4, t, p) 3) ∧ (∀ k, k ≠ 3 → k ≠ 5 → k ≠ 6 → μ' (4, t, p) k = μ (4, t, p) k) ∧ ∀ o, o ≠ (4, t, p) → μ' o = μ o) := by
  obtain ⟨t1, t2, t3, t4, t5⟩ := id hT
  obtain ⟨q0, q1, q2, q3, q4, q5, q6, q7, q8⟩ := id hC
  have hag : 0 ≤ μ (12, μ (1, t, 0) 7, 0) 4 ∧ μ (12, μ (1, t, 0) 7, 0) 4 ≤ 99 := t5.2.2.2.2.2.2
  have hpp := p2_rg (k := (μ (4, t, p) 0 + μ (1, t, 0) 6) % 12) (by omega)
  generalize hL : letM μ t t p (μ (4, t, p) 4) = Lp
  refine con (own := RX6) (by decide +kernel) rfl rfl rfl (fun Γ F => ?_)
  have mid : ∀ (μ1 : Me), (∀ k, k ≠ 5 → k ≠ 6 → μ1 (4, t, p) k = μ (4, t, p) k) → (∀ o, o ≠ (4, t, p) → μ1 o = μ o) → μ1 (4, t, p) 6 = μ (4, t, p) 6 + pI Lp → μ1 (4, t, p) 5 = min 9 (μ (4, t, p) 5 + (1 - pI Lp)) → XX Γ 2 (VC nh) ad (vl ad μ1) 0 0 44 [(0, .ref (ad (1, t, 0))), (1, .ref (ad (4, t, p)))] [] := by
    intro μ1 b1 b2 b3 b4
    have d1 : μ1 (1, t, 0) = μ (1, t, 0) := b2 _ (by simp)
    have d2 : μ1 (12, μ (1, t, 0) 7, 0) = μ (12, μ (1, t, 0) 7, 0) := b2 _ (by simp)
    have d3 : μ1 (4, t, p) 0 = μ (4, t, p) 0 := b1 0 (by decide) (by decide)
    have d4 : μ1 (4, t, p) 3 = μ (4, t, p) 3 := b1 3 (by decide) (by decide)
    have d5 : μ1 (1, t, 0) 7 = μ (1, t, 0) 7 := by rw [d1]
    have d6 : μ1 (1, t, 0) 6 = μ (1, t, 0) 6 := by rw [d1]
    have d7 : μ1 (12, μ (1, t, 0) 7, 0) 4 = μ (12, μ (1, t, 0) 7, 0) 4 := by rw [d2]
    refine x_aload_n (i := 0) (pc := 44) F dX6_spendDay_44 rfl rfl ?_
    refine gf_X6_38 (pc := 45) F dX6_spendDay_45 (v_1 (by omega)) ?_
    rw [hvl_r (by omega)]
    rw [d5]
    refine gf_X6_119 (pc := 48) F dX6_spendDay_48 (v_12 (by omega)) ?_
    rw [d7]
    refine x_if_le (tgt := 92) (pc := 51) F dX6_spendDay_51 rfl (by omega) (fun h51 => ?_) (fun h51 => ?_)
    · refine tq_retv (pc := 92) F dX6_spendDay_92 ?_ rfl rfl rfl
      first | (refine ⟨b3, b4, by rw [d4]; unfold wkS; rw [if_neg (by omega)], fun k k1 k2 k3 => b1 k k2 k3, b2⟩; done) | (refine ⟨by rw [upM_i, if_neg (by decide)]; exact b3, by rw [upM_i, if_neg (by decide)]; exact b4, by rw [upM_i, if_pos rfl]; unfold wkS; rw [if_pos (by omega)], fun k k1 k2 k3 => by rw [upM_i, if_neg k1]; exact b1 k k2 k3, fun o ho => by rw [upM_ne ho, b2 o ho]⟩)
    · refine x_aload_n (i := 0) (pc := 54) F dX6_spendDay_54 rfl rfl ?_
      refine gf_X6_58 (pc := 55) F dX6_spendDay_55 (v_1 (by omega)) ?_
      rw [d6]
      refine x_aload_n (i := 0) (pc := 58) F dX6_spendDay_58 rfl rfl ?_
      refine gf_X6_38 (pc := 59) F dX6_spendDay_59 (v_1 (by omega)) ?_
      rw [hvl_r (by omega)]
      rw [d5]
      refine gf_X6_119 (pc := 62) F dX6_spendDay_62 (v_12 (by omega)) ?_
      rw [d7]
      refine tq_irem (pc := 65) F dX6_spendDay_65 (by omega) ?_
      have hm1 := Int.emod_nonneg (μ (1, t, 0) 6) (show μ (12, μ (1, t, 0) 7, 0) 4 ≠ 0 by omega)
      have hm2 := Int.emod_lt_of_pos (μ (1, t, 0) 6) (show 0 < μ (12, μ (1, t, 0) 7, 0) 4 by omega)
      refine x_if_ne (tgt := 92) (pc := 66) F dX6_spendDay_66 rfl (by omega) (fun h66 => ?_) (fun h66 => ?_)
      · refine tq_retv (pc := 92) F dX6_spendDay_92 ?_ rfl rfl rfl
        first | (refine ⟨b3, b4, by rw [d4]; unfold wkS; rw [if_neg (by omega)], fun k k1 k2 k3 => b1 k k2 k3, b2⟩; done) | (refine ⟨by rw [upM_i, if_neg (by decide)]; exact b3, by rw [upM_i, if_neg (by decide)]; exact b4, by rw [upM_i, if_pos rfl]; unfold wkS; rw [if_pos (by omega)], fun k k1 k2 k3 => by rw [upM_i, if_neg k1]; exact b1 k k2 k3, fun o ho => by rw [upM_ne ho, b2 o ho]⟩)
      · refine x_aload_n (i := 1) (pc := 69) F dX6_spendDay_69 rfl rfl ?_
        refine x_dup (pc := 70) F dX6_spendDay_70 rfl ?_
        refine gf_X6_61 (pc := 71) F dX6_spendDay_71 (v_4 (by omega)) ?_
        rw [d4]
        refine x_iconst (pc := 74) F dX6_spendDay_74 ?_
        refine x_aload_n (i := 1) (pc := 75) F dX6_spendDay_75 rfl rfl ?_
        refine gf_X6_122 (pc := 76) F dX6_spendDay_76 (v_4 (by omega)) ?_
        rw [d3]
        refine x_aload_n (i := 0) (pc := 79) F dX6_spendDay_79 rfl rfl ?_
        refine gf_X6_58 (pc := 80) F dX6_spendDay_80 (v_1 (by omega)) ?_
        rw [d6]
        refine x_iadd (pc := 83) F dX6_spendDay_83 ?_
        refine x_bipush (pc := 84) F dX6_spendDay_84 (by decide) ?_
        refine tq_irem (pc := 86) F dX6_spendDay_86 (by omega) ?_
        refine tq_ishl (pc := 87) F dX6_spendDay_87 (by omega) ?_
        refine tq_ixor (pc := 88) F dX6_spendDay_88 (by omega) ?_
        refine pf_X6_61 (pc := 89) F dX6_spendDay_89 (v_4 (by omega)) ?_
        refine tq_retv (pc := 92) F dX6_spendDay_92 ?_ rfl rfl rfl
        first | (refine ⟨b3, b4, by rw [d4]; unfold wkS; rw [if_neg (by omega)], fun k k1 k2 k3 => b1 k k2 k3, b2⟩; done) | (refine ⟨by rw [upM_i, if_neg (by decide)]; exact b3, by rw [upM_i, if_neg (by decide)]; exact b4, by rw [upM_i, if_pos rfl]; unfold wkS; rw [if_pos (by omega)], fun k k1 k2 k3 => by rw [upM_i, if_neg k1]; exact b1 k k2 k3, fun o ho => by rw [upM_ne ho, b2 o ho]⟩)
  refine x_aload_n (i := 0) (pc := 0) F dX6_spendDay_0 rfl rfl ?_
  refine x_aload_n (i := 1) (pc := 1) F dX6_spendDay_1 rfl rfl ?_
  refine x_aload_n (i := 1) (pc := 2) F dX6_spendDay_2 rfl rfl ?_
  refine gf_X6_83 (pc := 3) F dX6_spendDay_3 (v_4 (by omega)) ?_
  refine x_V2z (ci := 6) (pc := 6) F dX6_spendDay_6 lk_X6_109 rfl (v_1 (by omega)) rfl rfl (c_X6_letsBy hT hC (by omega) hG) rfl rfl rfl ?_
  rintro b _ ⟨hbb, rfl⟩
  rw [hL] at hbb
  refine x_if_eqB (tgt := 25) (pc := 9) F dX6_spendDay_9 rfl (fun h9 => ?_) (fun h9 => ?_)
  · try simp only [decide_eq_true_eq, decide_eq_false_iff_not, Bool.and_eq_true, Bool.or_eq_true, Bool.not_eq_true', Bool.not_eq_false', Bool.and_eq_false_iff, Bool.or_eq_false_iff] at h9
    refine x_aload_n (i := 1) (pc := 25) F dX6_spendDay_25 rfl rfl ?_
    refine gf_X6_91 (pc := 26) F dX6_spendDay_26 (v_4 (by omega)) ?_
    refine x_bipush (pc := 29) F dX6_spendDay_29 (by decide) ?_
    refine x_icmp_ge (tgt := 44) (pc := 31) F dX6_spendDay_31 rfl (by omega) (fun h31 => ?_) (fun h31 => ?_)
    · refine x_sub (L' := [(0, .ref (ad (1, t, 0))), (1, .ref (ad (4, t, p)))]) ⟨rfl, rfl, trivial⟩ (mid _ (fun k k1 k2 => by simp [upM, k1, k2]) (fun o ho => by first | rfl | rw [upM_ne ho]) ?_ ?_)
      all_goals first | rw [pI_t (hbb.mp h9)] | rw [pI_f (fun z => by have := hbb.mpr z; rw [h9] at this; cases this)]
      all_goals first | (simp [upM]; done) | (simp [upM]; omega) | omega
    · refine x_aload_n (i := 1) (pc := 34) F dX6_spendDay_34 rfl rfl ?_
      refine x_dup (pc := 35) F dX6_spendDay_35 rfl ?_
      refine gf_X6_91 (pc := 36) F dX6_spendDay_36 (v_4 (by omega)) ?_
      refine x_iconst (pc := 39) F dX6_spendDay_39 ?_
      refine x_iadd (pc := 40) F dX6_spendDay_40 ?_
      refine pf_X6_91 (pc := 41) F dX6_spendDay_41 (v_4 (by omega)) ?_
      refine x_sub (L' := [(0, .ref (ad (1, t, 0))), (1, .ref (ad (4, t, p)))]) ⟨rfl, rfl, trivial⟩ (mid _ (fun k k1 k2 => by simp [upM, k1, k2]) (fun o ho => by first | rfl | rw [upM_ne ho]) ?_ ?_)
      all_goals first | rw [pI_t (hbb.mp h9)] | rw [pI_f (fun z => by have := hbb.mpr z; rw [h9] at this; cases this)]
      all_goals first | (simp [upM]; done) | (simp [upM]; omega) | omega
  · try simp only [decide_eq_true_eq, decide_eq_false_iff_not, Bool.and_eq_true, Bool.or_eq_true, Bool.not_eq_true', Bool.not_eq_false', Bool.and_eq_false_iff, Bool.or_eq_false_iff] at h9
    refine x_aload_n (i := 1) (pc := 12) F dX6_spendDay_12 rfl rfl ?_
    refine x_dup (pc := 13) F dX6_spendDay_13 rfl ?_
    refine gf_X6_113 (pc := 14) F dX6_spendDay_14 (v_4 (by omega)) ?_
    refine x_iconst (pc := 17) F dX6_spendDay_17 ?_
    refine x_iadd (pc := 18) F dX6_spendDay_18 ?_
    refine pf_X6_113 (pc := 19) F dX6_spendDay_19 (v_4 (by omega)) ?_
    refine x_goto (tgt := 44) (pc := 22) F dX6_spendDay_22 rfl ?_
    refine x_sub (L' := [(0, .ref (ad (1, t, 0))), (1, .ref (ad (4, t, p)))]) ⟨rfl, rfl, trivial⟩ (mid _ (fun k k1 k2 => by simp [upM, k1, k2]) (fun o ho => by first | rfl | rw [upM_ne ho]) ?_ ?_)
    all_goals first | rw [pI_t (hbb.mp h9)] | rw [pI_f (fun z => by have := hbb.mpr z; rw [h9] at this; cases this)]
    all_goals first | (simp [upM]; done) | (simp [upM]; omega) | omega
end TDAYS
