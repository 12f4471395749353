/-! ===== teaching a town; become; goByPlan ===== -/
theorem lpK_c {G G' : Int → Int} {w : Int} : ∀ n : Nat, (∀ i : Int, 0 ≤ i → i ≤ n → G i = G' i) → lpK G w n = lpK G' w n
  | 0, _ => rfl
  | n + 1, h => by
    have ih := lpK_c (w := w) n (fun i a b => h i a (by omega))
    have hr := lpK_rg G' w n
    simp only [lpK]
    rw [ih, h ((n : Int) + 1) (by omega) (by omega), h (lpK G' w n) (by omega) (by omega)]
theorem lostS_c {G G' : Int → Int} {kn w : Int} (h : ∀ i : Int, 0 ≤ i → i < 3 → G i = G' i) : lostS kn G w = lostS kn G' w := by
  have hr := lpK_rg G' w 2
  unfold lostS
  rw [lpK_c 2 (fun i a b => h i a (by omega)), h (lpK G' w 2) (by omega) (by omega)]
theorem lernG_c {G G' : Int → Int} {kn w k : Int} (h : ∀ i : Int, 0 ≤ i → i < 3 → G i = G' i) (hk : 0 ≤ k ∧ k < 3) : lernG kn G w k = lernG kn G' w k := by
  have hr := lpK_rg G' w 2
  unfold lernG
  rw [lpK_c 2 (fun i a b => h i a (by omega)), h k hk.1 hk.2]
  by_cases e : k = 2
  · simp [e]
  · rw [h (k + 1) (by omega) (by omega)]
theorem lernG_rg {G : Int → Int} {kn w k : Int} (h : ∀ i : Int, 0 ≤ i → i < 3 → 0 ≤ G i ∧ G i < 4096) (hw : 0 ≤ w ∧ w < 4096) (hk : 0 ≤ k ∧ k < 3) : 0 ≤ lernG kn G w k ∧ lernG kn G w k < 4096 := by
  have hr := lpK_rg G w 2
  have h1 := h k hk.1 hk.2
  unfold lernG
  split
  · by_cases e : k = 2
    · rw [if_pos e]; exact hw
    · have h2 := h (k + 1) (by omega) (by omega)
      rw [if_neg e]
      split
      · exact h1
      · exact h2
  · split
    · exact hw
    · exact h1
/-- a GATE g of T is taught w -/
def tauT (T : Tn) (g w : Int) : Tn := fun k => if k = 4 * g then lernK (T (4 * g)) else if 4 * g + 1 ≤ k ∧ k ≤ 4 * g + 3 then lernG (T (4 * g)) (fun i => T (4 * g + 1 + i)) w (k - (4 * g + 1)) else T k
def lostT (T : Tn) (g w : Int) : Int := lostS (T (4 * g)) (fun i => T (4 * g + 1 + i)) w
theorem tauT_o {T : Tn} {g w k : Int} (h : k < 4 * g ∨ 4 * g + 3 < k) : tauT T g w k = T k := by
  unfold tauT
  rw [if_neg (by omega), if_neg (by omega)]
/-- a row of a PLAN -/
noncomputable def plS (S : Hs) (T : Tn) (a n : Int) : Tn := if a = 0 then dayT S T else if a = 1 then tauT T (n / 10) (T (18 + 10 * (n % 10))) else if a = 2 then (fun k => if k = 4 * n then 0 else T k) else (fun k => if k = 20 + 10 * n then 0 else T k)
noncomputable def goT (S : Hs) (T : Tn) : Nat → Tn
  | 0 => T
  | n + 1 => plS S (goT S T n) (T (96 + 2 * (n : Int))) (T (97 + 2 * (n : Int)))
theorem RI_eq {T T' : Tn} (h : RI T) (e : ∀ k, 79 ≤ k → T' k = T k) (e76 : T' 76 = T 76) : RI T' := by
  obtain ⟨r1, r2, r3, r4, r5, r6⟩ := h
  refine ⟨by rw [e _ (by omega)]; exact r1, fun k a b => ?_, by rw [e _ (by omega)]; exact r3, fun k a b => ?_, by rw [e _ (by omega)]; exact r5, fun k a b => ?_⟩
  · rw [e 79 (by omega)] at b
    rw [e76, e _ (by omega), e _ (by omega), e _ (by omega)]
    exact r2 k a b
  · rw [e 95 (by omega)] at b
    have := r4 k a b
    unfold PI1 at this ⊢
    rw [e76, e _ (by omega), e _ (by omega)]
    exact this
  · rw [e 116 (by omega)] at b
    rw [e76, e _ (by omega), e _ (by omega)]
    exact r6 k a b
theorem CI_eq {T T' : Tn} {p : Int} (h : CI T p) (e : ∀ k, 16 + 10 * p ≤ k → k < 26 + 10 * p → T' k = T k) (e77 : T' 77 = T 77) : CI T' p := by
  obtain ⟨i1, i2, i3, i4, i5, i6, i7⟩ := h
  refine ⟨?_, ?_, ?_, ?_, ?_, ?_, fun k a b => ?_⟩
  · rw [e _ (by omega) (by omega)]; exact i1
  · rw [e _ (by omega) (by omega)]; exact i2
  · rw [e _ (by omega) (by omega)]; exact i3
  · rw [e _ (by omega) (by omega)]; exact i4
  · rw [e _ (by omega) (by omega)]; exact i5
  · rw [e _ (by omega) (by omega), e77]; exact i6
  · rw [e _ (by omega) (by omega)]; exact i7 k a b
theorem GI_eq {T T' : Tn} {g : Int} (h : GI T g) (e : ∀ k, 4 * g ≤ k → k < 4 * g + 4 → T' k = T k) : GI T' g := by
  obtain ⟨i1, i2⟩ := h
  refine ⟨?_, fun k a b => ?_⟩
  · rw [e _ (by omega) (by omega)]; exact i1
  · rw [e _ (by omega) (by omega)]; exact i2 k a b
theorem tauT_TI {T : Tn} {g w : Int} (h : TI T) (hg : 0 ≤ g ∧ g < 4) (hw : 0 ≤ w ∧ w < 4096) : TI (tauT T g w) := by
  obtain ⟨h1, h2, h3, h4, h5, h6⟩ := h
  have e : ∀ k, k < 4 * g ∨ 4 * g + 3 < k → tauT T g w k = T k := fun k hk => tauT_o hk
  refine ⟨fun g' a b => ?_, fun p a b => CI_eq (h2 p a b) (fun k x y => e k (by omega)) (e _ (by omega)), by rw [e _ (by omega)]; exact h3, by rw [e _ (by omega)]; exact h4, by rw [e _ (by omega)]; exact h5, RI_eq h6 (fun k x => e k (by omega)) (e _ (by omega))⟩
  by_cases hgg : g' = g
  · subst hgg
    obtain ⟨i1, i2⟩ := h1 g' a b
    refine ⟨?_, fun k x y => ?_⟩
    · unfold tauT lernK
      rw [if_pos rfl]
      split <;> omega
    · unfold tauT
      rw [if_neg (by omega), if_pos (by omega), show 4 * g' + 1 + k - (4 * g' + 1) = k by omega]
      exact lernG_rg (fun i u v => i2 i u v) hw ⟨x, y⟩
  · exact GI_eq (h1 g' a b) (fun k x y => e k (by omega))
theorem plS_TI {S : Hs} {T : Tn} {a n : Int} (h : TI T) (hS : 0 ≤ S.2.2) (hr : PI1 T a n) : TI (plS S T a n) := by
  unfold plS
  unfold PI1 at hr
  have h76 := h.2.2.1
  by_cases h0 : a = 0
  · rw [if_pos h0]; exact dayT_TI h hS
  · rw [if_neg h0]
    by_cases h1 : a = 1
    · rw [if_pos h1]
      exact tauT_TI h (by omega) (h.2.1 (n % 10) (by omega) (by omega)).2.2.1
    · rw [if_neg h1]
      obtain ⟨k1, k2, k3, k4, k5, k6⟩ := h
      by_cases h2 : a = 2
      · rw [if_pos h2]
        have e : ∀ k, k ≠ 4 * n → (fun k => if k = 4 * n then (0 : Int) else T k) k = T k := fun k hk => if_neg hk
        refine ⟨fun g' x y => ?_, fun p x y => CI_eq (k2 p x y) (fun k u v => e k (by omega)) (e _ (by omega)), by rw [e _ (by omega)]; exact k3, by rw [e _ (by omega)]; exact k4, by rw [e _ (by omega)]; exact k5, RI_eq k6 (fun k u => e k (by omega)) (e _ (by omega))⟩
        obtain ⟨i1, i2⟩ := k1 g' x y
        refine ⟨?_, fun k u v => ?_⟩
        · show 0 ≤ (if 4 * g' = 4 * n then (0 : Int) else T (4 * g')) ∧ (if 4 * g' = 4 * n then (0 : Int) else T (4 * g')) ≤ 3
          split <;> omega
        · rw [e _ (by omega)]; exact i2 k u v
      · rw [if_neg h2]
        have e : ∀ k, k ≠ 20 + 10 * n → (fun k => if k = 20 + 10 * n then (0 : Int) else T k) k = T k := fun k hk => if_neg hk
        refine ⟨fun g' x y => GI_eq (k1 g' x y) (fun k u v => e k (by omega)), fun p x y => ?_, by rw [e _ (by omega)]; exact k3, by rw [e _ (by omega)]; exact k4, by rw [e _ (by omega)]; exact k5, RI_eq k6 (fun k u => e k (by omega)) (e _ (by omega))⟩
        by_cases hp : p = n
        · subst hp
          obtain ⟨i1, i2, i3, i4, i5, i6, i7⟩ := k2 p x y
          refine ⟨by rw [e _ (by omega)]; exact i1, by rw [e _ (by omega)]; exact i2, by rw [e _ (by omega)]; exact i3, by rw [e _ (by omega)]; exact i4, ?_, by rw [e _ (by omega), e _ (by omega)]; exact i6, fun k u v => by rw [e _ (by omega)]; exact i7 k u v⟩
          show 0 ≤ (if 20 + 10 * p = 20 + 10 * p then (0 : Int) else _) ∧ (if 20 + 10 * p = 20 + 10 * p then (0 : Int) else _) ≤ 9
          rw [if_pos rfl]
          omega
        · exact CI_eq (k2 p x y) (fun k u v => e k (by omega)) (e _ (by omega))
/-- the rows, who, which rule: as they were -/
theorem plS_o {S : Hs} {T : Tn} {a n k : Int} (h : TI T) (hr : PI1 T a n) (hk : k = 76 ∨ 78 ≤ k) : plS S T a n k = T k := by
  unfold plS
  unfold PI1 at hr
  have h76 := h.2.2.1
  by_cases h0 : a = 0
  · rw [if_pos h0]; exact dayT_o (by omega) (by omega) (by omega)
  · rw [if_neg h0]
    by_cases h1 : a = 1
    · rw [if_pos h1]; exact tauT_o (by omega)
    · rw [if_neg h1]
      by_cases h2 : a = 2
      · rw [if_pos h2]; exact if_neg (by omega)
      · rw [if_neg h2]; exact if_neg (by omega)
theorem plS_77 {S : Hs} {T : Tn} {a n : Int} (hr : PI1 T a n) (h : TI T) : T 77 ≤ plS S T a n 77 ∧ plS S T a n 77 ≤ T 77 + 1 := by
  have h76 := h.2.2.1
  unfold plS
  unfold PI1 at hr
  by_cases h0 : a = 0
  · rw [if_pos h0, dayT_77]; omega
  · rw [if_neg h0]
    by_cases h1 : a = 1
    · rw [if_pos h1, tauT_o (by omega)]; omega
    · rw [if_neg h1]
      by_cases h2 : a = 2
      · rw [if_pos h2]
        show T 77 ≤ (if (77 : Int) = 4 * n then 0 else T 77) ∧ (if (77 : Int) = 4 * n then 0 else T 77) ≤ T 77 + 1
        rw [if_neg (by omega)]; omega
      · rw [if_neg h2]
        show T 77 ≤ (if (77 : Int) = 20 + 10 * n then 0 else T 77) ∧ (if (77 : Int) = 20 + 10 * n then 0 else T 77) ≤ T 77 + 1
        rw [if_neg (by omega)]; omega
theorem goT_ok {S : Hs} {T : Tn} (h : TI T) (hS : 0 ≤ S.2.2) : ∀ n : Nat, (n : Int) ≤ T 95 → TI (goT S T n) ∧ (∀ k, k = 76 ∨ 78 ≤ k → goT S T n k = T k) ∧ T 77 ≤ goT S T n 77 ∧ goT S T n 77 ≤ T 77 + n
  | 0, _ => ⟨h, fun _ _ => rfl, by simp [goT], by simp [goT]⟩
  | n + 1, hn => by
    obtain ⟨a1, a2, a3, a4⟩ := goT_ok h hS n (by omega)
    have hr := h.2.2.2.2.2.2.2.2.1 n (by omega) (by omega)
    have hr2 : PI1 (goT S T n) (T (96 + 2 * (n : Int))) (T (97 + 2 * (n : Int))) := by
      unfold PI1 at hr ⊢
      rw [a2 76 (Or.inl rfl)]
      exact hr
    have b := plS_77 (S := S) hr2 a1
    refine ⟨plS_TI a1 hS hr2, fun k hk => ?_, ?_, ?_⟩
    · simp only [goT]
      rw [plS_o a1 hr2 hk, a2 k hk]
    · simp only [goT]; omega
    · simp only [goT]; omega
section PLAN
variable {ad : Ob → Nat} {μ : Me} {nh t t2 g : Int} {T : Tn} {S : Hs}
/-- a taught Gate of the class's Town -/
theorem TR_tau {μ' : Me} {w : Int} (h : TR μ t T) (hg : 0 ≤ g ∧ g < 4) (e1 : μ' (2, t, g) 1 = lernK (μ (2, t, g) 1)) (e2 : ∀ k, 0 ≤ k → k < 3 → μ' (3, t, g) k = lernG (μ (2, t, g) 1) (μ (3, t, g)) w k) (e3 : ∀ o, o ≠ (2, t, g) → o ≠ (3, t, g) → μ' o = μ o) : TR μ' t (tauT T g w) := by
  have eo : ∀ k, k < 4 * g ∨ 4 * g + 3 < k → tauT T g w k = T k := fun k hk => tauT_o hk
  refine ⟨fun g' a b => ?_, fun p a b => CR_eq (CR_fr (h.2.1 p a b) (e3 _ (by simp) (by simp)) (e3 _ (by simp) (by simp))) (fun k x y => eo k (by omega)), ?_, RR_eq (RR_fr h.2.2.2 (fun o ho hot => e3 o (by rintro rfl; simp at ho) (by rintro rfl; simp at ho))) (fun k x => eo k (by omega))⟩
  · by_cases hgg : g' = g
    · subst hgg
      obtain ⟨g0, g1⟩ := h.1 g' a b
      refine ⟨?_, fun k x y => ?_⟩
      · unfold tauT; rw [if_pos rfl, e1, g0]
      · unfold tauT
        rw [if_neg (by omega), if_pos (by omega), e2 k x y, g0, show 4 * g' + 1 + k - (4 * g' + 1) = k by omega]
        exact lernG_c g1 ⟨x, y⟩
    · exact GR_eq (GR_fr (h.1 g' a b) (e3 _ (by simp; omega) (by simp)) (e3 _ (by simp) (by simp; omega))) (fun k x y => eo k (by omega))
  · unfold SR
    rw [e3 (1, t, 0) (by simp) (by simp), eo _ (by omega), eo _ (by omega), eo _ (by omega)]
    exact h.2.2.1
set_option maxRecDepth 20000 in
theorem c_X6_become (hR2 : TR μ t2 T) (hne : t ≠ t2) (ht : 0 ≤ t ∧ t < 3) (ht2 : 0 ≤ t2 ∧ t2 < 3) (h78 : 0 ≤ T 78 ∧ T 78 ≤ 6) (hI : True) (hh : hR (T 78) ≠ 7) (l : Launch) (E : Ev) (A : Nat → Prop) : Con l E 3 m_X6_become A (VC nh) ad μ [.ref (ad (1, t, 0)), .ref (ad (1, t2, 0))] (pv fun μ' => TR μ' t T ∧ ∀ o, ¬ (1 ≤ o.1 ∧ o.1 ≤ 9 ∧ o.2.1 = t) → μ' o = μ o) := by
  refine con (own := RX6) (by decide +kernel) rfl rfl rfl (fun Γ F => ?_)
  have loop2 : ∀ (N : Nat) (i : Int) (μ1 : Me), 6 - i < N → 0 ≤ i → i ≤ 6 → (∀ g, 0 ≤ g → g < 4 → GR μ1 t T g) → (∀ p, 0 ≤ p → p < i → CR μ1 t T p) → (∀ o, ¬ (1 ≤ o.1 ∧ o.1 ≤ 9 ∧ o.2.1 = t) → μ1 o = μ o) → XX Γ 3 (VC nh) ad (vl ad μ1) 0 0 30 [(0, .ref (ad (1, t, 0))), (1, .ref (ad (1, t2, 0))), (2, .int (I i))] [] := by
    intro N
    induction N with
    | zero => intro i μ1 a1 a2 a3; omega
    | succ N ih =>
      intro i μ1 a1 a2 a3 a4 a5 a6
      have hR3 : TR μ1 t2 T := TR_fr hR2 (fun o x y z => a6 o (by omega))
      refine x_iload_n (i := 2) (pc := 30) F dX6_become_30 rfl rfl ?_
      refine x_bipush (pc := 31) F dX6_become_31 (by decide) ?_
      refine x_icmp_ge (tgt := 57) (pc := 33) F dX6_become_33 rfl (by omega) (fun h33 => ?_) (fun h33 => ?_)
      · refine x_aload_n (i := 0) (pc := 57) F dX6_become_57 rfl rfl ?_
        refine gf_X6_28 (pc := 58) F dX6_become_58 (v_1 (by omega)) ?_
        refine x_aload_n (i := 1) (pc := 61) F dX6_become_61 rfl rfl ?_
        refine gf_X6_28 (pc := 62) F dX6_become_62 (v_1 (by omega)) ?_
        refine x_V1v (ci := 4) (pc := 65) F dX6_become_65 lk_X6_51 rfl (v_6 (by omega)) rfl rfl (c_X4_become (by omega) (by omega)) rfl rfl rfl ?_
        rintro μ3 ⟨s1, s2, s3⟩
        refine x_aload_n (i := 0) (pc := 68) F dX6_become_68 rfl rfl ?_
        refine gf_X6_32 (pc := 69) F dX6_become_69 (v_1 (by omega)) ?_
        refine x_aload_n (i := 1) (pc := 72) F dX6_become_72 rfl rfl ?_
        refine gf_X6_32 (pc := 73) F dX6_become_73 (v_1 (by omega)) ?_
        refine x_V1v (ci := 4) (pc := 76) F dX6_become_76 lk_X6_51 rfl (v_6 (by omega)) rfl rfl (c_X4_become (by omega) (by omega)) rfl rfl rfl ?_
        rintro μ4 ⟨p1, p2, p3⟩
        refine x_aload_n (i := 0) (pc := 79) F dX6_become_79 rfl rfl ?_
        refine gf_X6_35 (pc := 80) F dX6_become_80 (v_1 (by omega)) ?_
        refine x_aload_n (i := 1) (pc := 83) F dX6_become_83 rfl rfl ?_
        refine gf_X6_35 (pc := 84) F dX6_become_84 (v_1 (by omega)) ?_
        refine x_V1v (ci := 4) (pc := 87) F dX6_become_87 lk_X6_51 rfl (v_6 (by omega)) rfl rfl (c_X4_become (by omega) (by omega)) rfl rfl rfl ?_
        rintro μ5 ⟨b1, b2, b3⟩
        have d5 : ∀ o, (o.1 = 1 ∨ o.1 = 2 ∨ o.1 = 3 ∨ o.1 = 4 ∨ o.1 = 5) → μ5 o = μ1 o := fun o ho => by rw [b3 o (by rintro rfl; simp at ho) (by rintro rfl; simp at ho) (by rintro rfl; simp at ho) (by rintro rfl; simp at ho), p3 o (by rintro rfl; simp at ho) (by rintro rfl; simp at ho) (by rintro rfl; simp at ho) (by rintro rfl; simp at ho), s3 o (by rintro rfl; simp at ho) (by rintro rfl; simp at ho) (by rintro rfl; simp at ho) (by rintro rfl; simp at ho)]
        have f5 : μ5 (1, t2, 0) = μ1 (1, t2, 0) := d5 _ (by simp)
        obtain ⟨z5, z6, z7⟩ := hR3.2.2.1
        have f7 : μ5 (1, t2, 0) 7 = hR (T 78) := by rw [f5]; exact z7
        have hne1 : ¬ (((1, t2, 0) : Ob) = (1, t, 0)) := by simp; omega
        refine x_aload_n (i := 0) (pc := 90) F dX6_become_90 rfl rfl ?_
        refine x_aload_n (i := 1) (pc := 91) F dX6_become_91 rfl rfl ?_
        refine gf_X6_54 (pc := 92) F dX6_become_92 (v_1 (by omega)) ?_
        refine pf_X6_54 (pc := 95) F dX6_become_95 (v_1 (by omega)) ?_
        refine x_aload_n (i := 0) (pc := 98) F dX6_become_98 rfl rfl ?_
        refine x_aload_n (i := 1) (pc := 99) F dX6_become_99 rfl rfl ?_
        refine gf_X6_58 (pc := 100) F dX6_become_100 (v_1 (by omega)) ?_
        refine pf_X6_58 (pc := 103) F dX6_become_103 (v_1 (by omega)) ?_
        refine x_aload_n (i := 0) (pc := 106) F dX6_become_106 rfl rfl ?_
        refine x_aload_n (i := 1) (pc := 107) F dX6_become_107 rfl rfl ?_
        refine gf_X6_38 (pc := 108) F dX6_become_108 (v_1 (by omega)) ?_
        rw [show upM (upM μ5 (1, t, 0) 5 (μ5 (1, t2, 0) 5)) (1, t, 0) 6 (upM μ5 (1, t, 0) 5 (μ5 (1, t2, 0) 5) (1, t2, 0) 6) (1, t2, 0) 7 = hR (T 78) by rw [upM_ne hne1, upM_ne hne1]; exact f7, hvl_r hh]
        have f8 : upM (upM μ5 (1, t, 0) 5 (μ5 (1, t2, 0) 5)) (1, t, 0) 6 (upM μ5 (1, t, 0) 5 (μ5 (1, t2, 0) 5) (1, t2, 0) 6) (1, t2, 0) 7 = hR (T 78) := by rw [upM_ne hne1, upM_ne hne1]; exact f7
        refine pf_X6_38 (pc := 111) F dX6_become_111 (v_1 (by omega)) (hvl_r (by omega)).symm rfl ?_
        refine tq_retv (pc := 114) F dX6_become_114 ?_ rfl rfl rfl
        have d6 : ∀ (a b c : Int), ∀ o, o ≠ (1, t, 0) → upM (upM (upM μ5 (1, t, 0) 5 a) (1, t, 0) 6 b) (1, t, 0) 7 c o = μ5 o := fun a b c o ho => by rw [upM_ne ho, upM_ne ho, upM_ne ho]
        refine ⟨⟨fun g x y => GR_fr (a4 g x y) (by rw [d6 _ _ _ _ (by simp), d5 _ (by simp)]) (by rw [d6 _ _ _ _ (by simp), d5 _ (by simp)]), fun p x y => CR_fr (a5 p x (by omega)) (by rw [d6 _ _ _ _ (by simp), d5 _ (by simp)]) (by rw [d6 _ _ _ _ (by simp), d5 _ (by simp)]), ⟨?_, ?_, ?_⟩, ?_⟩, fun o ho => ?_⟩
        · rw [upM_i, if_neg (by decide), upM_i, if_neg (by decide), upM_i, if_pos rfl, f5]; exact z5
        · rw [upM_i, if_neg (by decide), upM_i, if_pos rfl, upM_ne hne1, f5]; exact z6
        · rw [upM_i, if_pos rfl]
        · obtain ⟨⟨r1, r2⟩, ⟨r3, r4⟩, r5, r6⟩ := hR3.2.2.2
          have q6 : ∀ j : Int, j ≠ 0 → ∀ o : Ob, o.2.2 = j → μ3 o = μ1 o := fun j hj o ho => s3 o (by rintro rfl; simp at ho; omega) (by rintro rfl; simp at ho; omega) (by rintro rfl; simp at ho; omega) (by rintro rfl; simp at ho; omega)
          have q7 : ∀ j : Int, j ≠ 1 → ∀ o : Ob, o.2.2 = j → μ4 o = μ3 o := fun j hj o ho => p3 o (by rintro rfl; simp at ho; omega) (by rintro rfl; simp at ho; omega) (by rintro rfl; simp at ho; omega) (by rintro rfl; simp at ho; omega)
          have q8 : ∀ j : Int, j ≠ 2 → ∀ o : Ob, o.2.2 = j → μ5 o = μ4 o := fun j hj o ho => b3 o (by rintro rfl; simp at ho; omega) (by rintro rfl; simp at ho; omega) (by rintro rfl; simp at ho; omega) (by rintro rfl; simp at ho; omega)
          refine ⟨⟨?_, fun k u v => ⟨?_, ?_, ?_⟩⟩, ⟨?_, fun k u v => ⟨?_, ?_⟩⟩, ?_, fun k u v => ⟨?_, ?_⟩⟩
          · rw [d6 _ _ _ _ (by simp), q8 0 (by decide) _ rfl, q7 0 (by decide) _ rfl, s1]; exact r1
          · rw [d6 _ _ _ _ (by simp), q8 0 (by decide) _ rfl, q7 0 (by decide) _ rfl, (s2 k u (by simp [rsz]; omega)).1]; exact (r2 k u v).1
          · rw [d6 _ _ _ _ (by simp), q8 0 (by decide) _ rfl, q7 0 (by decide) _ rfl, (s2 k u (by simp [rsz]; omega)).2.1]; exact (r2 k u v).2.1
          · rw [d6 _ _ _ _ (by simp), q8 0 (by decide) _ rfl, q7 0 (by decide) _ rfl, (s2 k u (by simp [rsz]; omega)).2.2]; exact (r2 k u v).2.2
          · rw [d6 _ _ _ _ (by simp), q8 1 (by decide) _ rfl, p1, q6 1 (by decide) _ rfl]; exact r3
          · rw [d6 _ _ _ _ (by simp), q8 1 (by decide) _ rfl, (p2 k u (by simp [rsz]; omega)).1, q6 1 (by decide) _ rfl]; exact (r4 k u v).1
          · rw [d6 _ _ _ _ (by simp), q8 1 (by decide) _ rfl, (p2 k u (by simp [rsz]; omega)).2.1, q6 1 (by decide) _ rfl]; exact (r4 k u v).2
          · rw [d6 _ _ _ _ (by simp), b1, q7 2 (by decide) _ rfl, q6 2 (by decide) _ rfl]; exact r5
          · rw [d6 _ _ _ _ (by simp), (b2 k u (by simp [rsz]; omega)).1, q7 2 (by decide) _ rfl, q6 2 (by decide) _ rfl]; exact (r6 k u v).1
          · rw [d6 _ _ _ _ (by simp), (b2 k u (by simp [rsz]; omega)).2.1, q7 2 (by decide) _ rfl, q6 2 (by decide) _ rfl]; exact (r6 k u v).2
        · rw [d6 _ _ _ _ (by rintro rfl; simp at ho), b3 o (by rintro rfl; simp at ho) (by rintro rfl; simp at ho) (by rintro rfl; simp at ho) (by rintro rfl; simp at ho), p3 o (by rintro rfl; simp at ho) (by rintro rfl; simp at ho) (by rintro rfl; simp at ho) (by rintro rfl; simp at ho), s3 o (by rintro rfl; simp at ho) (by rintro rfl; simp at ho) (by rintro rfl; simp at ho) (by rintro rfl; simp at ho)]
          exact a6 o ho
      · refine x_aload_n (i := 0) (pc := 36) F dX6_become_36 rfl rfl ?_
        refine gf_X6_19 (pc := 37) F dX6_become_37 (v_1 (by omega)) ?_
        refine x_iload_n (i := 2) (pc := 40) F dX6_become_40 rfl rfl ?_
        refine tq_pa (pc := 41) F dX6_become_41 (v_11 (by omega)) (by omega) ?_
        refine x_aload_n (i := 1) (pc := 42) F dX6_become_42 rfl rfl ?_
        refine gf_X6_19 (pc := 43) F dX6_become_43 (v_1 (by omega)) ?_
        refine x_iload_n (i := 2) (pc := 46) F dX6_become_46 rfl rfl ?_
        refine tq_pa (pc := 47) F dX6_become_47 (v_11 (by omega)) (by omega) ?_
        refine x_V1v (ci := 0) (pc := 48) F dX6_become_48 lk_X6_48 rfl (v_4 (by omega)) rfl rfl (c_X0_become (by omega) (by omega) (by omega)) rfl rfl rfl ?_
        rintro μ2 ⟨e1, e2, e3⟩
        refine x_iinc (pc := 51) F dX6_become_51 rfl rfl ?_
        refine x_goto (tgt := 30) (pc := 54) F dX6_become_54 rfl ?_
        refine x_sub (L' := [(0, .ref (ad (1, t, 0))), (1, .ref (ad (1, t2, 0))), (2, .int (I (i + 1)))]) ⟨rfl, rfl, rfl, trivial⟩ (ih (i + 1) μ2 (by omega) (by omega) (by omega) (fun g x y => GR_fr (a4 g x y) (e3 _ (by simp) (by simp)) (e3 _ (by simp) (by simp))) (fun p x y => ?_) (fun o ho => ?_))
        · by_cases hp : p = i
          · subst hp
            obtain ⟨c0, c1, c2, c3, c4, c5, c6, c7⟩ := hR3.2.1 p x (by omega)
            refine ⟨?_, ?_, ?_, ?_, ?_, ?_, ?_, fun k u v => ?_⟩
            · rw [e1 0 (by decide) (by decide)]; exact c0
            · rw [e1 1 (by decide) (by decide)]; exact c1
            · rw [e1 2 (by decide) (by decide)]; exact c2
            · rw [e1 3 (by decide) (by decide)]; exact c3
            · rw [e1 4 (by decide) (by decide)]; exact c4
            · rw [e1 5 (by decide) (by decide)]; exact c5
            · rw [e1 6 (by decide) (by decide)]; exact c6
            · rw [e2 k u v]; exact c7 k u v
          · exact CR_fr (a5 p x (by omega)) (e3 _ (by simp; omega) (by simp)) (e3 _ (by simp) (by simp; omega))
        · rw [e3 o (by rintro rfl; simp at ho) (by rintro rfl; simp at ho)]; exact a6 o ho
  have loop1 : ∀ (N : Nat) (i : Int) (μ1 : Me), 4 - i < N → 0 ≤ i → i ≤ 4 → (∀ g, 0 ≤ g → g < i → GR μ1 t T g) → (∀ o, ¬ (1 ≤ o.1 ∧ o.1 ≤ 9 ∧ o.2.1 = t) → μ1 o = μ o) → XX Γ 3 (VC nh) ad (vl ad μ1) 0 0 2 [(0, .ref (ad (1, t, 0))), (1, .ref (ad (1, t2, 0))), (2, .int (I i))] [] := by
    intro N
    induction N with
    | zero => intro i μ1 a1 a2 a3; omega
    | succ N ih =>
      intro i μ1 a1 a2 a3 a4 a6
      have hR3 : TR μ1 t2 T := TR_fr hR2 (fun o x y z => a6 o (by omega))
      refine x_iload_n (i := 2) (pc := 2) F dX6_become_2 rfl rfl ?_
      refine x_iconst (pc := 3) F dX6_become_3 ?_
      refine x_icmp_ge (tgt := 28) (pc := 4) F dX6_become_4 rfl (by omega) (fun h4 => ?_) (fun h4 => ?_)
      · refine x_iconst (pc := 28) F dX6_become_28 ?_
        refine x_istore_n (i := 2) (pc := 29) F dX6_become_29 rfl rfl ?_
        exact x_sub (L' := [(0, .ref (ad (1, t, 0))), (1, .ref (ad (1, t2, 0))), (2, .int (I 0))]) ⟨rfl, rfl, rfl, trivial⟩ (loop2 7 0 μ1 (by omega) (by omega) (by omega) (fun g x y => a4 g x (by omega)) (fun p x y => by omega) a6)
      · refine x_aload_n (i := 0) (pc := 7) F dX6_become_7 rfl rfl ?_
        refine gf_X6_11 (pc := 8) F dX6_become_8 (v_1 (by omega)) ?_
        refine x_iload_n (i := 2) (pc := 11) F dX6_become_11 rfl rfl ?_
        refine tq_ga (pc := 12) F dX6_become_12 (v_10 (by omega)) (by omega) ?_
        refine x_aload_n (i := 1) (pc := 13) F dX6_become_13 rfl rfl ?_
        refine gf_X6_11 (pc := 14) F dX6_become_14 (v_1 (by omega)) ?_
        refine x_iload_n (i := 2) (pc := 17) F dX6_become_17 rfl rfl ?_
        refine tq_ga (pc := 18) F dX6_become_18 (v_10 (by omega)) (by omega) ?_
        refine x_V1v (ci := 1) (pc := 19) F dX6_become_19 lk_X6_44 rfl (v_2 (by omega)) rfl rfl (c_X1_become (by omega) (by omega)) rfl rfl rfl ?_
        rintro μ2 ⟨e1, e2, e3⟩
        refine x_iinc (pc := 22) F dX6_become_22 rfl rfl ?_
        refine x_goto (tgt := 2) (pc := 25) F dX6_become_25 rfl ?_
        refine x_sub (L' := [(0, .ref (ad (1, t, 0))), (1, .ref (ad (1, t2, 0))), (2, .int (I (i + 1)))]) ⟨rfl, rfl, rfl, trivial⟩ (ih (i + 1) μ2 (by omega) (by omega) (by omega) (fun g x y => ?_) (fun o ho => ?_))
        · by_cases hg : g = i
          · subst hg
            obtain ⟨c0, c1⟩ := hR3.1 g x (by omega)
            refine ⟨by rw [e1]; exact c0, fun k u v => by rw [e2 k u v]; exact c1 k u v⟩
          · exact GR_fr (a4 g x (by omega)) (e3 _ (by simp; omega) (by simp)) (e3 _ (by simp) (by simp; omega))
        · rw [e3 o (by rintro rfl; simp at ho) (by rintro rfl; simp at ho)]; exact a6 o ho
  refine x_iconst (pc := 0) F dX6_become_0 ?_
  refine x_istore_n (i := 2) (pc := 1) F dX6_become_1 rfl rfl ?_
  exact x_sub (L' := [(0, .ref (ad (1, t, 0))), (1, .ref (ad (1, t2, 0))), (2, .int (I 0))]) ⟨rfl, rfl, rfl, trivial⟩ (loop1 5 0 μ (by omega) (by omega) (by omega) (fun g x y => by omega) (fun o _ => rfl))
end PLAN
