/-! ===== the class: what can be, by what is seen ===== -/
def seenSo (S : Hs) (X : Tn) (c : Int) : Prop := ∀ r, 0 ≤ r → r < X 79 → X (80 + 3 * r) = c → soP S X r
/-- from N - 1 down, j steps: how many with P, and the least -/
noncomputable def cdL (P : Int → Prop) (N : Nat) : Nat → Int × Int
  | 0 => (0, -5)
  | j + 1 => @ite (Int × Int) (P ((N : Int) - 1 - j)) (Classical.propDecidable _) ((cdL P N j).1 + 1, (N : Int) - 1 - j) (cdL P N j)
theorem cdL_t {P : Int → Prop} {N j : Nat} (h : P ((N : Int) - 1 - j)) : cdL P N (j + 1) = ((cdL P N j).1 + 1, (N : Int) - 1 - j) := by simp only [cdL]; rw [if_pos h]
theorem cdL_f {P : Int → Prop} {N j : Nat} (h : ¬ P ((N : Int) - 1 - j)) : cdL P N (j + 1) = cdL P N j := by simp only [cdL]; rw [if_neg h]
theorem cdL_rg {P : Int → Prop} {N : Nat} : ∀ j : Nat, 0 ≤ (cdL P N j).1 ∧ (cdL P N j).1 ≤ j
  | 0 => by simp [cdL]
  | j + 1 => by
    have ih := cdL_rg (P := P) (N := N) j
    rcases Classical.em (P ((N : Int) - 1 - j)) with h | h
    · rw [cdL_t h]; simp only; omega
    · rw [cdL_f h]; omega
noncomputable def canP (S : Hs) (T : Tn) (c k : Int) : Int → Prop := fun v => seenSo S (upT T k v) c
noncomputable def canL (S : Hs) (T : Tn) (c which : Int) : Int × Int := if which = 0 then cdL (canP S T c (18 + 10 * c)) 4096 4096 else cdL (canP S T c (17 + 10 * c)) 10 10
noncomputable def canZ (S : Hs) (T : Tn) (c which what : Int) : Int := if (0 ≤ c ∧ c < T 76) ∧ (0 ≤ which ∧ which < 2) ∧ 0 ≤ what ∧ what < 2 then (if what = 0 then (canL S T c which).1 else (canL S T c which).2) else -1
/-- the probe is X's comer c -/
def PB (μ : Me) (X : Tn) (c : Int) : Prop := μ (4, 3, 0) 0 = c ∧ μ (4, 3, 0) 1 = X (16 + 10 * c) ∧ μ (4, 3, 0) 2 = X (17 + 10 * c) ∧ μ (4, 3, 0) 3 = X (18 + 10 * c) ∧ μ (4, 3, 0) 4 = X (19 + 10 * c) ∧ μ (4, 3, 0) 5 = X (20 + 10 * c) ∧ μ (4, 3, 0) 6 = X (21 + 10 * c) ∧ ∀ k, 0 ≤ k → k < 4 → μ (5, 3, 0) k = X (22 + 10 * c + k)
def NG (μ : Me) (S : Hs) (X : Tn) (c : Int) : Prop := ∀ g, 0 ≤ g → g < 4 → mnT S X c g (μ (23, 0, 0) g)
/-- X is T but for the number or the walk of comer c -/
def XC (T X : Tn) (c : Int) : Prop := (∀ k, k ≠ 17 + 10 * c → k ≠ 18 + 10 * c → X k = T k) ∧ (0 ≤ X (17 + 10 * c) ∧ X (17 + 10 * c) ≤ 9) ∧ 0 ≤ X (18 + 10 * c) ∧ X (18 + 10 * c) < 4096
section CLS7
variable {ad : Ob → Nat} {μ : Me} {nh : Int} {T X : Tn} {S : Hs} {c : Int}
theorem PB_fr {μ' : Me} (h : PB μ X c) (e1 : μ' (4, 3, 0) = μ (4, 3, 0)) (e2 : μ' (5, 3, 0) = μ (5, 3, 0)) : PB μ' X c := by
  unfold PB
  rw [e1, e2]
  exact h
theorem PB_set {X' : Tn} {f v : Int} (h : PB μ X c) (hf : f = 2 ∨ f = 3) (e : ∀ k, k ≠ 15 + 10 * c + f → X' k = X k) (e' : X' (15 + 10 * c + f) = v) : PB (upM μ (4, 3, 0) f v) X' c := by
  obtain ⟨p0, p1, p2, p3, p4, p5, p6, p7⟩ := h
  refine ⟨?_, ?_, ?_, ?_, ?_, ?_, ?_, fun k a b => ?_⟩
  · rw [upM_i, if_neg (by omega)]; exact p0
  · rw [upM_i, if_neg (by omega), e _ (by omega)]; exact p1
  · rw [upM_i]
    split
    · rw [← e', show 15 + 10 * c + f = 17 + 10 * c by omega]
    · rw [e _ (by omega)]; exact p2
  · rw [upM_i]
    split
    · rw [← e', show 15 + 10 * c + f = 18 + 10 * c by omega]
    · rw [e _ (by omega)]; exact p3
  · rw [upM_i, if_neg (by omega), e _ (by omega)]; exact p4
  · rw [upM_i, if_neg (by omega), e _ (by omega)]; exact p5
  · rw [upM_i, if_neg (by omega), e _ (by omega)]; exact p6
  · rw [upM_ne (by simp), e _ (by omega)]; exact p7 k a b
theorem mnT_c {X' : Tn} {p g z : Int} (h : mnT S X p g z) (e : ∀ k, k ≠ 18 + 10 * p → X' k = X k) (hp : 0 ≤ p ∧ p < 6) (hg : 0 ≤ g ∧ g < 4) : mnT S X' p g z := by
  refine ⟨h.1, h.2.1, fun m a b => ?_⟩
  have := h.2.2 m a b
  rw [this]
  unfold lbT vsT
  rw [e 77 (by omega), e (16 + 10 * p) (by omega), e (17 + 10 * p) (by omega), e (19 + 10 * p) (by omega), e (20 + 10 * p) (by omega), e (22 + 10 * p + g) (by omega)]
theorem XC.ci (h : XC T X c) (hI : TI T) (hc : 0 ≤ c ∧ c < 6) : CI X c := by
  obtain ⟨h1, h2, h3⟩ := h
  have := hI.2.1 c hc.1 hc.2
  unfold CI at this ⊢
  rw [h1 77 (by omega) (by omega), h1 (16 + 10 * c) (by omega) (by omega), h1 (19 + 10 * c) (by omega) (by omega), h1 (20 + 10 * c) (by omega) (by omega), h1 (21 + 10 * c) (by omega) (by omega)]
  refine ⟨this.1, h2, h3, this.2.2.2.1, this.2.2.2.2.1, this.2.2.2.2.2.1, fun k a b => ?_⟩
  rw [h1 _ (by omega) (by omega)]
  exact this.2.2.2.2.2.2 k a b
theorem PB.ok (h : PB μ X c) (hx : XC T X c) (hI : TI T) (hc : 0 ≤ c ∧ c < 6) (hd : T 77 ≤ 20000) : ComerOK μ 3 0 := by
  obtain ⟨c0, c1, c2, c3, c4, c5, c6, c7⟩ := h
  obtain ⟨i1, i2, i3, i4, i5, i6, i7⟩ := hx.ci hI hc
  have e77 := hx.1 77 (by omega) (by omega)
  refine ⟨by omega, by omega, by omega, by omega, by omega, by omega, by omega, by omega, fun k a b => ?_⟩
  rw [c7 k a b]
  exact i7 k a b
theorem PB.mn {g z : Int} (h : PB μ X c) (hx : XC T X c) (hR : TR μ 0 T) (hH : HRel μ nh (T 78) S) (hc : 0 ≤ c ∧ c < 6) (hg : 0 ≤ g ∧ g < 4) (hz : mnP μ 0 3 0 g z) : mnT S X c g z := by
  obtain ⟨c0, c1, c2, c3, c4, c5, c6, c7⟩ := h
  refine ⟨hz.1, hz.2.1, fun m a b => ?_⟩
  have := hz.2.2 m a b
  rw [hR.nd hH] at this
  rw [this]
  have e77 := hx.1 77 (by omega) (by omega)
  unfold lbM lbT bnM vsT
  rw [c0, c1, c2, c4, c5, c7 g hg.1 hg.2, hR.2.2.1.2.1, hR.2.2.1.2.2, hH.2.2.1, e77]
set_option maxRecDepth 20000 in
theorem c_X7_askNeededByGate (hc : 0 ≤ c ∧ c < 6) (hR0 : TR μ 0 T) (hI : TI T) (hH : HRel μ nh (T 78) S) (hd : T 77 ≤ 9999) (hP : PB μ X c) (hx : XC T X c) (l : Launch) (E : Ev) (A : Nat → Prop) : Con l E 4 m_X7_askNeededByGate A (VC nh) ad μ [.ref (ad (0, 0, 0))] (pv fun μ' => NG μ' S X c ∧ ∀ o, o ≠ (23, 0, 0) → μ' o = μ o) := by
  refine con (own := RX7) (by decide +kernel) rfl rfl rfl (fun Γ F => ?_)
  have loop : ∀ (N : Nat) (n : Int) (μ1 : Me), 4 - n < N → 0 ≤ n → n ≤ 4 → (∀ p, 0 ≤ p → p < n → mnT S X c p (μ1 (23, 0, 0) p)) → (∀ o, o ≠ (23, 0, 0) → μ1 o = μ o) → XX Γ 2 (VC nh) ad (vl ad μ1) 0 0 2 [(0, .ref (ad (0, 0, 0))), (1, .int (I n))] [] := by
    intro N
    induction N with
    | zero => intro n μ1 a1 a2 a3; omega
    | succ N ih =>
      intro n μ1 a1 a2 a3 a4 a5
      have hR1 : TR μ1 0 T := TR_fr hR0 (fun o a b c => a5 o (by rintro rfl; simp at b))
      have hH1 : HRel μ1 nh (T 78) S := hH.fr (fun o ho => a5 o (by rintro rfl; simp [hs3] at ho))
      have hP1 : PB μ1 X c := PB_fr hP (a5 _ (by simp)) (a5 _ (by simp))
      refine x_iload_n (i := 1) (pc := 2) F dX7_askNeededByGate_2 rfl rfl ?_
      refine x_iconst (pc := 3) F dX7_askNeededByGate_3 ?_
      refine x_icmp_ge (tgt := 31) (pc := 4) F dX7_askNeededByGate_4 rfl (by omega) (fun h4 => ?_) (fun h4 => ?_)
      · refine tq_retv (pc := 31) F dX7_askNeededByGate_31 ?_ rfl rfl rfl
        exact ⟨fun p x y => a4 p x (by omega), a5⟩
      · refine x_aload_n (i := 0) (pc := 7) F dX7_askNeededByGate_7 rfl rfl ?_
        refine gf_X7_53 (pc := 8) F dX7_askNeededByGate_8 (v_0 (by omega)) ?_
        refine x_iload_n (i := 1) (pc := 11) F dX7_askNeededByGate_11 rfl rfl ?_
        refine x_aload_n (i := 0) (pc := 12) F dX7_askNeededByGate_12 rfl rfl ?_
        refine gf_X7_62 (pc := 13) F dX7_askNeededByGate_13 (v_0 (by omega)) ?_
        refine x_aload_n (i := 0) (pc := 16) F dX7_askNeededByGate_16 rfl rfl ?_
        refine gf_X7_46 (pc := 17) F dX7_askNeededByGate_17 (v_0 (by omega)) ?_
        refine x_iload_n (i := 1) (pc := 20) F dX7_askNeededByGate_20 rfl rfl ?_
        refine x_V2i (ci := 6) (pc := 21) F dX7_askNeededByGate_21 lk_X7_202 rfl (v_1 (by omega)) rfl rfl (c_X6_marksNeeded (hR1.town hI hH1 (by omega) (by omega)) (hP1.ok hx hI hc (by omega)) (by omega)) rfl rfl rfl ?_
        rintro z _ ⟨hmn, rfl⟩
        refine tq_ias (pc := 24) F dX7_askNeededByGate_24 (v_23 (by omega)) rfl (fun _ => rfl) (by omega) ?_
        refine x_iinc (pc := 25) F dX7_askNeededByGate_25 rfl rfl ?_
        refine x_goto (tgt := 2) (pc := 28) F dX7_askNeededByGate_28 rfl ?_
        refine x_sub (L' := [(0, .ref (ad (0, 0, 0))), (1, .int (I (n + 1)))]) ⟨rfl, rfl, trivial⟩ (ih (n + 1) _ (by omega) (by omega) (by omega) (fun p x y => ?_) (fun o ho => by rw [upM_ne ho, a5 o ho]))
        by_cases e : p = n
        · rw [upM_i, if_pos e, e]; exact hP1.mn hx hR1 hH1 hc (by omega) hmn
        · rw [upM_i, if_neg e]; exact a4 p x (by omega)
  refine x_iconst (pc := 0) F dX7_askNeededByGate_0 ?_
  refine x_istore_n (i := 1) (pc := 1) F dX7_askNeededByGate_1 rfl rfl ?_
  exact x_sub (L' := [(0, .ref (ad (0, 0, 0))), (1, .int (I 0))]) ⟨rfl, rfl, trivial⟩ (loop 5 0 μ (by omega) (by omega) (by omega) (fun p x y => by omega) (fun o _ => rfl))
set_option maxRecDepth 20000 in
theorem c_X7_isAllSeenSo (hc : 0 ≤ c ∧ c < 6) (hR0 : TR μ 0 T) (hI : TI T) (hP : PB μ X c) (hx : XC T X c) (hN : NG μ S X c) (l : Launch) (E : Ev) (A : Nat → Prop) : Con l E 3 m_X7_isAllSeenSo A (VC nh) ad μ [.ref (ad (0, 0, 0))] (pz fun z μ' => (z = true ↔ seenSo S X c) ∧ μ = μ') := by
  have h76 := hI.2.2.1
  have h79 := hI.2.2.2.2.2.1
  obtain ⟨r1, r2⟩ := hR0.2.2.2.1
  have hrs : rsz 0 = 5 := rfl
  have e79 := hx.1 79 (by omega) (by omega)
  refine con (own := RX7) (by decide +kernel) rfl rfl rfl (fun Γ F => ?_)
  have loop : ∀ (N : Nat) (n : Nat), T 79 - n < N → n ≤ T 79 → (∀ r : Int, 0 ≤ r → r < n → X (80 + 3 * r) = c → soP S X r) → XX Γ 5 (VC nh) ad (vl ad μ) 0 0 10 [(0, .ref (ad (0, 0, 0))), (1, .ref (ad (6, 0, 0))), (2, .int (I n))] [] := by
    intro N
    induction N with
    | zero => intro n a1 a2; omega
    | succ N ih =>
      intro n a1 a2 a3
      have e80 := hx.1 (80 + 3 * n) (by omega) (by omega)
      have e81 := hx.1 (81 + 3 * n) (by omega) (by omega)
      have e82 := hx.1 (82 + 3 * n) (by omega) (by omega)
      have hp0 := hP.1
      refine x_iload_n (i := 2) (pc := 10) F dX7_isAllSeenSo_10 rfl rfl ?_
      refine x_aload_n (i := 1) (pc := 11) F dX7_isAllSeenSo_11 rfl rfl ?_
      refine gf_X7_244 (pc := 12) F dX7_isAllSeenSo_12 (v_6 (by omega)) ?_
      refine x_icmp_ge (tgt := 96) (pc := 15) F dX7_isAllSeenSo_15 rfl (by omega) (fun h15 => ?_) (fun h15 => ?_)
      · refine x_iconst (pc := 96) F dX7_isAllSeenSo_96 ?_
        refine tq_retz (b := true) (pc := 97) F dX7_isAllSeenSo_97 ?_ rfl rfl rfl
        exact ⟨⟨fun _ => fun r x y q => a3 r x (by omega) q, fun _ => rfl⟩, rfl⟩
      · refine x_aload_n (i := 1) (pc := 18) F dX7_isAllSeenSo_18 rfl rfl ?_
        refine gf_X7_245 (pc := 19) F dX7_isAllSeenSo_19 (v_6 (by omega)) ?_
        refine x_iload_n (i := 2) (pc := 22) F dX7_isAllSeenSo_22 rfl rfl ?_
        obtain ⟨w1, w2, w3⟩ := r2 n (by omega) (by omega)
        obtain ⟨i1, i2, i3⟩ := hI.2.2.2.2.2.2.1 n (by omega) (by omega)
        refine tq_ia (pc := 23) F dX7_isAllSeenSo_23 (v_7 (by omega)) sh_7 (fun _ => rfl) (by omega) ?_
        rw [w1]
        refine x_aload_n (i := 0) (pc := 24) F dX7_isAllSeenSo_24 rfl rfl ?_
        refine gf_X7_46 (pc := 25) F dX7_isAllSeenSo_25 (v_0 (by omega)) ?_
        refine gf_X7_269 (pc := 28) F dX7_isAllSeenSo_28 (v_4 (by omega)) ?_
        rw [hp0]
        refine x_icmp_ne (tgt := 90) (pc := 31) F dX7_isAllSeenSo_31 rfl (by omega) (fun h31 => ?_) (fun h31 => ?_)
        · have hso : X (80 + 3 * (n : Int)) = c → soP S X n := by intro q; unfold soP; rw [e80, e81, e82, show T (80 + 3 * n) = c by omega, ← pI_1 (P := LTg S X _ _)]; omega
          refine x_iinc (pc := 90) F dX7_isAllSeenSo_90 rfl rfl ?_
          refine x_goto (tgt := 10) (pc := 93) F dX7_isAllSeenSo_93 rfl ?_
          exact x_sub (L' := [(0, .ref (ad (0, 0, 0))), (1, .ref (ad (6, 0, 0))), (2, .int (I ((n + 1 : Nat) : Int)))]) ⟨rfl, rfl, rfl, trivial⟩ (ih (n + 1) (by omega) (by omega) (fun r x y q => by by_cases e : r = n; exact e ▸ hso (e ▸ q); exact a3 r x (by omega) q))
        · refine x_aload_n (i := 1) (pc := 34) F dX7_isAllSeenSo_34 rfl rfl ?_
          refine gf_X7_248 (pc := 35) F dX7_isAllSeenSo_35 (v_6 (by omega)) ?_
          refine x_iload_n (i := 2) (pc := 38) F dX7_isAllSeenSo_38 rfl rfl ?_
          refine tq_ia (pc := 39) F dX7_isAllSeenSo_39 (v_8 (by omega)) sh_8 (fun _ => rfl) (by omega) ?_
          rw [w2]
          refine x_istore_n (i := 3) (pc := 40) F dX7_isAllSeenSo_40 rfl rfl ?_
          refine x_aload_n (i := 0) (pc := 41) F dX7_isAllSeenSo_41 rfl rfl ?_
          refine gf_X7_62 (pc := 42) F dX7_isAllSeenSo_42 (v_0 (by omega)) ?_
          refine gf_X7_135 (pc := 45) F dX7_isAllSeenSo_45 (v_1 (by omega)) ?_
          refine x_iload_n (i := 3) (pc := 48) F dX7_isAllSeenSo_48 rfl rfl ?_
          refine tq_ga (pc := 49) F dX7_isAllSeenSo_49 (v_10 (by omega)) (by omega) ?_
          refine x_aload_n (i := 0) (pc := 50) F dX7_isAllSeenSo_50 rfl rfl ?_
          refine gf_X7_46 (pc := 51) F dX7_isAllSeenSo_51 (v_0 (by omega)) ?_
          have hpw := hP.2.2.2.1
          refine gf_X7_120 (pc := 54) F dX7_isAllSeenSo_54 (v_4 (by omega)) ?_
          rw [hpw]
          refine x_aload_n (i := 0) (pc := 57) F dX7_isAllSeenSo_57 rfl rfl ?_
          refine gf_X7_53 (pc := 58) F dX7_isAllSeenSo_58 (v_0 (by omega)) ?_
          refine x_iload_n (i := 3) (pc := 61) F dX7_isAllSeenSo_61 rfl rfl ?_
          refine tq_ia (pc := 62) F dX7_isAllSeenSo_62 (v_23 (by omega)) rfl (fun _ => rfl) (by omega) ?_
          have hgg := hR0.gate hI (g := T (81 + 3 * (n : Int))) (by omega)
          have hmn := hN (T (81 + 3 * (n : Int))) (by omega) (by omega)
          have hw := hx.2.2
          obtain ⟨g0, g1⟩ := hR0.1 (T (81 + 3 * (n : Int))) (by omega) (by omega)
          have hgi := (hI.1 (T (81 + 3 * (n : Int))) (by omega) (by omega)).1
          refine x_V2z (ci := 1) (pc := 63) F dX7_isAllSeenSo_63 lk_X7_229 rfl (v_2 (by omega)) rfl rfl (c_X1_knowsAlike _ _ (by omega) hgg.1 hgg.2 (by omega) ⟨hmn.1, hmn.2.1⟩) rfl rfl rfl ?_
          rintro b _ ⟨hb, rfl⟩
          have hb2 : b = true ↔ LTg S X c (T (81 + 3 * (n : Int))) := by
            rw [hb, g0]
            unfold LTg
            rw [hx.1 (4 * T (81 + 3 * (n : Int))) (by omega) (by omega)]
            refine exists_congr fun k => and_congr_right fun k1 => and_congr_right fun k2 => ?_
            rw [hx.1 (4 * T (81 + 3 * (n : Int)) + 1 + k) (by omega) (by omega), g1 k k1 (by omega), hmn.2.2 _ (alk_rg _ _).1 (alk_rg _ _).2]
            rfl
          have hpb := pI_b hb2
          have hbr := bI_rg b
          refine x_istore (i := 4) (pc := 66) F dX7_isAllSeenSo_66 rfl ?_
          refine x_iload (i := 4) (pc := 68) F dX7_isAllSeenSo_68 rfl ?_
          refine x_aload_n (i := 1) (pc := 70) F dX7_isAllSeenSo_70 rfl rfl ?_
          refine gf_X7_251 (pc := 71) F dX7_isAllSeenSo_71 (v_6 (by omega)) ?_
          refine x_iload_n (i := 2) (pc := 74) F dX7_isAllSeenSo_74 rfl rfl ?_
          refine tq_ia (pc := 75) F dX7_isAllSeenSo_75 (v_9 (by omega)) sh_9 (fun _ => rfl) (by omega) ?_
          rw [w3]
          refine x_iconst (pc := 76) F dX7_isAllSeenSo_76 ?_
          refine x_icmp_ne (tgt := 84) (pc := 77) F dX7_isAllSeenSo_77 rfl (by omega) (fun h77 => ?_) (fun h77 => ?_)
          · refine x_iconst (pc := 84) F dX7_isAllSeenSo_84 ?_
            refine x_icmp_eq (tgt := 90) (pc := 85) F dX7_isAllSeenSo_85 rfl (by omega) (fun h85 => ?_) (fun h85 => ?_)
            · have hso : X (80 + 3 * (n : Int)) = c → soP S X n := by intro q; unfold soP; rw [e80, e81, e82, show T (80 + 3 * n) = c by omega, ← pI_1 (P := LTg S X _ _)]; omega
              refine x_iinc (pc := 90) F dX7_isAllSeenSo_90 rfl rfl ?_
              refine x_goto (tgt := 10) (pc := 93) F dX7_isAllSeenSo_93 rfl ?_
              exact x_sub (L' := [(0, .ref (ad (0, 0, 0))), (1, .ref (ad (6, 0, 0))), (2, .int (I ((n + 1 : Nat) : Int)))]) ⟨rfl, rfl, rfl, trivial⟩ (ih (n + 1) (by omega) (by omega) (fun r x y q => by by_cases e : r = n; exact e ▸ hso (e ▸ q); exact a3 r x (by omega) q))
            · have hso : ¬ soP S X n := by unfold soP; rw [e80, e81, e82, show T (80 + 3 * n) = c by omega, ← pI_1 (P := LTg S X _ _)]; omega
              refine x_iconst (pc := 88) F dX7_isAllSeenSo_88 ?_
              refine tq_retz (b := false) (pc := 89) F dX7_isAllSeenSo_89 ?_ rfl rfl rfl
              exact ⟨⟨fun z => (by cases z), fun z => absurd (z n (by omega) (by omega) (by omega)) hso⟩, rfl⟩
          · refine x_iconst (pc := 80) F dX7_isAllSeenSo_80 ?_
            refine x_goto (tgt := 85) (pc := 81) F dX7_isAllSeenSo_81 rfl ?_
            refine x_icmp_eq (tgt := 90) (pc := 85) F dX7_isAllSeenSo_85 rfl (by omega) (fun h85 => ?_) (fun h85 => ?_)
            · have hso : X (80 + 3 * (n : Int)) = c → soP S X n := by intro q; unfold soP; rw [e80, e81, e82, show T (80 + 3 * n) = c by omega, ← pI_1 (P := LTg S X _ _)]; omega
              refine x_iinc (pc := 90) F dX7_isAllSeenSo_90 rfl rfl ?_
              refine x_goto (tgt := 10) (pc := 93) F dX7_isAllSeenSo_93 rfl ?_
              exact x_sub (L' := [(0, .ref (ad (0, 0, 0))), (1, .ref (ad (6, 0, 0))), (2, .int (I ((n + 1 : Nat) : Int)))]) ⟨rfl, rfl, rfl, trivial⟩ (ih (n + 1) (by omega) (by omega) (fun r x y q => by by_cases e : r = n; exact e ▸ hso (e ▸ q); exact a3 r x (by omega) q))
            · have hso : ¬ soP S X n := by unfold soP; rw [e80, e81, e82, show T (80 + 3 * n) = c by omega, ← pI_1 (P := LTg S X _ _)]; omega
              refine x_iconst (pc := 88) F dX7_isAllSeenSo_88 ?_
              refine tq_retz (b := false) (pc := 89) F dX7_isAllSeenSo_89 ?_ rfl rfl rfl
              exact ⟨⟨fun z => (by cases z), fun z => absurd (z n (by omega) (by omega) (by omega)) hso⟩, rfl⟩
  refine x_aload_n (i := 0) (pc := 0) F dX7_isAllSeenSo_0 rfl rfl ?_
  refine gf_X7_62 (pc := 1) F dX7_isAllSeenSo_1 (v_0 (by omega)) ?_
  refine gf_X7_232 (pc := 4) F dX7_isAllSeenSo_4 (v_1 (by omega)) ?_
  refine x_astore_n (i := 1) (pc := 7) F dX7_isAllSeenSo_7 rfl rfl ?_
  refine x_iconst (pc := 8) F dX7_isAllSeenSo_8 ?_
  refine x_istore_n (i := 2) (pc := 9) F dX7_isAllSeenSo_9 rfl rfl ?_
  exact x_sub (L' := [(0, .ref (ad (0, 0, 0))), (1, .ref (ad (6, 0, 0))), (2, .int (I ((0 : Nat) : Int)))]) ⟨rfl, rfl, rfl, trivial⟩ (loop 6 0 (by omega) (by omega) (fun r x y => by omega))
set_option maxRecDepth 20000 in
theorem c_X7_walksBySeen (what : Int) (hw : 0 ≤ what ∧ what < 2) (hc : 0 ≤ c ∧ c < T 76) (hR0 : TR μ 0 T) (hI : TI T) (hH : HRel μ nh (T 78) S) (hd : T 77 ≤ 9999) (l : Launch) (E : Ev) (A : Nat → Prop) : Con l E 5 m_X7_walksBySeen A (VC nh) ad μ [.ref (ad (0, 0, 0)), .int (I c), .int (I what)] (pi fun z μ' => z = (if what = 0 then (canL S T c 0).1 else (canL S T c 0).2) ∧ ∀ o, ¬ scO o → μ' o = μ o) := by
  have h76 := hI.2.2.1
  have hwr := (hI.2.1 c (by omega) (by omega)).2.2.1
  have hvr := (hI.2.1 c (by omega) (by omega)).2.1
  refine con (own := RX7) (by decide +kernel) rfl rfl rfl (fun Γ F => ?_)
  have loop : ∀ (N : Nat) (n : Nat) (w : Int) (μ1 : Me), 4096 - n < N → n ≤ 4096 → (0 ≤ w ∧ w < 4096) → PB μ1 (upT T (18 + 10 * c) w) c → NG μ1 S T c → (∀ o, ¬ scO o → μ1 o = μ o) → XX Γ 6 (VC nh) ad (vl ad μ1) 0 0 31 [(0, .ref (ad (0, 0, 0))), (1, .int (I c)), (2, .int (I what)), (3, .int (I (cdL (canP S T c (18 + 10 * c)) 4096 n).1)), (4, .int (I (cdL (canP S T c (18 + 10 * c)) 4096 n).2)), (5, .int (I (4095 - n)))] [] := by
    intro N
    induction N with
    | zero => intro n w μ1 a1 a2; omega
    | succ N ih =>
      intro n w μ1 a1 a2 a3 a4 a5 a6
      have hcr := cdL_rg (P := canP S T c (18 + 10 * c)) (N := 4096) n
      have ct := cdL_t (P := canP S T c (18 + 10 * c)) (N := 4096) (j := n)
      have cf := cdL_f (P := canP S T c (18 + 10 * c)) (N := 4096) (j := n)
      have he : (((4096 : Nat) : Int) - 1 - n) = 4095 - n := by omega
      rw [he] at ct cf
      have hend : n = 4096 → cdL (canP S T c (18 + 10 * c)) 4096 n = canL S T c 0 := fun h => by unfold canL; rw [if_pos rfl, h]
      generalize hs : cdL (canP S T c (18 + 10 * c)) 4096 n = s at hcr ct cf hend ⊢
      refine x_iload (i := 5) (pc := 31) F dX7_walksBySeen_31 rfl ?_
      refine x_if_lt (tgt := 65) (pc := 33) F dX7_walksBySeen_33 rfl (by omega) (fun h33 => ?_) (fun h33 => ?_)
      · refine x_iload_n (i := 2) (pc := 65) F dX7_walksBySeen_65 rfl rfl ?_
        refine x_if_ne (tgt := 73) (pc := 66) F dX7_walksBySeen_66 rfl (by omega) (fun h66 => ?_) (fun h66 => ?_)
        · refine x_iload (i := 4) (pc := 73) F dX7_walksBySeen_73 rfl ?_
          refine tq_reti (pc := 75) F dX7_walksBySeen_75 ?_ rfl rfl rfl
          rw [← hend (by omega)]
          first | exact ⟨by rw [if_pos (by omega)], a6⟩ | exact ⟨by rw [if_neg (by omega)], a6⟩
        · refine x_iload_n (i := 3) (pc := 69) F dX7_walksBySeen_69 rfl rfl ?_
          refine x_goto (tgt := 75) (pc := 70) F dX7_walksBySeen_70 rfl ?_
          refine tq_reti (pc := 75) F dX7_walksBySeen_75 ?_ rfl rfl rfl
          rw [← hend (by omega)]
          first | exact ⟨by rw [if_pos (by omega)], a6⟩ | exact ⟨by rw [if_neg (by omega)], a6⟩
      · refine x_aload_n (i := 0) (pc := 36) F dX7_walksBySeen_36 rfl rfl ?_
        refine gf_X7_46 (pc := 37) F dX7_walksBySeen_37 (v_0 (by omega)) ?_
        refine x_iload (i := 5) (pc := 40) F dX7_walksBySeen_40 rfl ?_
        refine pf_X7_120 (pc := 42) F dX7_walksBySeen_42 (v_4 (by omega)) ?_
        have hP2 := PB_set (X' := upT T (18 + 10 * c) (4095 - n)) (f := 3) (v := 4095 - n) a4 (Or.inr rfl) (fun k hk => by rw [upT_ne (by omega), upT_ne (by omega)]) (by rw [show 15 + 10 * c + 3 = 18 + 10 * c by omega, upT_eq])
        have hx2 : XC T (upT T (18 + 10 * c) (4095 - n)) c := ⟨fun k _ h => upT_ne h, by rw [upT_ne (by omega)]; exact hvr, by rw [upT_eq]; omega⟩
        have hN2 : NG (upM μ1 (4, 3, 0) 3 (4095 - n)) S (upT T (18 + 10 * c) (4095 - n)) c := fun g a b => by rw [upM_ne (by simp)]; exact mnT_c (a5 g a b) (fun k hk => upT_ne hk) (by omega) ⟨a, b⟩
        have hf2 : ∀ o, ¬ scO o → upM μ1 (4, 3, 0) 3 (4095 - n) o = μ o := fun o ho => by rw [upM_ne (by rintro rfl; exact ho (by simp [scO])), a6 o ho]
        have hR2 := TR_sc hR0 (Or.inl rfl) hf2
        refine x_aload_n (i := 0) (pc := 45) F dX7_walksBySeen_45 rfl rfl ?_
        refine x_V0z (ci := 7) (pc := 46) F dX7_walksBySeen_46 lk_X7_265 rfl (v_0 (by omega)) rfl rfl (c_X7_isAllSeenSo (by omega) hR2 hI hP2 hx2 hN2) rfl rfl rfl ?_
        rintro b _ ⟨hb, rfl⟩
        refine x_if_eqB (tgt := 59) (pc := 49) F dX7_walksBySeen_49 rfl (fun h49 => ?_) (fun h49 => ?_)
        · try simp only [decide_eq_true_eq, decide_eq_false_iff_not, Bool.and_eq_true, Bool.or_eq_true, Bool.not_eq_true', Bool.not_eq_false', Bool.and_eq_false_iff, Bool.or_eq_false_iff] at h49
          refine x_iinc (pc := 59) F dX7_walksBySeen_59 rfl rfl ?_
          refine x_goto (tgt := 31) (pc := 62) F dX7_walksBySeen_62 rfl ?_
          refine x_sub (L' := [(0, .ref (ad (0, 0, 0))), (1, .int (I c)), (2, .int (I what)), (3, .int (I (cdL (canP S T c (18 + 10 * c)) 4096 (n + 1)).1)), (4, .int (I (cdL (canP S T c (18 + 10 * c)) 4096 (n + 1)).2)), (5, .int (I (4095 - ((n + 1 : Nat) : Int))))]) ⟨rfl, rfl, rfl, lk_i rfl ?_, lk_i rfl ?_, lk_i rfl (by omega), trivial⟩ (ih (n + 1) (4095 - n) _ (by omega) (by omega) (by omega) hP2 (fun g a b => by rw [upM_ne (by simp)]; exact a5 g a b) hf2)
          all_goals first | (rw [ct (hb.mp h49)]; done) | (rw [cf (fun q => by have := hb.mpr q; rw [h49] at this; cases this)]; done)
        · try simp only [decide_eq_true_eq, decide_eq_false_iff_not, Bool.and_eq_true, Bool.or_eq_true, Bool.not_eq_true', Bool.not_eq_false', Bool.and_eq_false_iff, Bool.or_eq_false_iff] at h49
          refine x_iinc (pc := 52) F dX7_walksBySeen_52 rfl rfl ?_
          refine x_iload (i := 5) (pc := 55) F dX7_walksBySeen_55 rfl ?_
          refine x_istore (i := 4) (pc := 57) F dX7_walksBySeen_57 rfl ?_
          refine x_iinc (pc := 59) F dX7_walksBySeen_59 rfl rfl ?_
          refine x_goto (tgt := 31) (pc := 62) F dX7_walksBySeen_62 rfl ?_
          refine x_sub (L' := [(0, .ref (ad (0, 0, 0))), (1, .int (I c)), (2, .int (I what)), (3, .int (I (cdL (canP S T c (18 + 10 * c)) 4096 (n + 1)).1)), (4, .int (I (cdL (canP S T c (18 + 10 * c)) 4096 (n + 1)).2)), (5, .int (I (4095 - ((n + 1 : Nat) : Int))))]) ⟨rfl, rfl, rfl, lk_i rfl ?_, lk_i rfl ?_, lk_i rfl (by omega), trivial⟩ (ih (n + 1) (4095 - n) _ (by omega) (by omega) (by omega) hP2 (fun g a b => by rw [upM_ne (by simp)]; exact a5 g a b) hf2)
          all_goals first | (rw [ct (hb.mp h49)]; done) | (rw [cf (fun q => by have := hb.mpr q; rw [h49] at this; cases this)]; done)
  refine x_aload_n (i := 0) (pc := 0) F dX7_walksBySeen_0 rfl rfl ?_
  refine gf_X7_46 (pc := 1) F dX7_walksBySeen_1 (v_0 (by omega)) ?_
  refine x_aload_n (i := 0) (pc := 4) F dX7_walksBySeen_4 rfl rfl ?_
  refine gf_X7_62 (pc := 5) F dX7_walksBySeen_5 (v_0 (by omega)) ?_
  refine gf_X7_94 (pc := 8) F dX7_walksBySeen_8 (v_1 (by omega)) ?_
  refine x_iload_n (i := 1) (pc := 11) F dX7_walksBySeen_11 rfl rfl ?_
  refine tq_pa (pc := 12) F dX7_walksBySeen_12 (v_11 (by omega)) (by omega) ?_
  refine x_V1v (ci := 0) (pc := 13) F dX7_walksBySeen_13 lk_X7_260 rfl (v_4 (by omega)) rfl rfl (c_X0_become (Or.inr ⟨rfl, rfl⟩) (by omega) (by omega)) rfl rfl rfl ?_
  rintro μ1 ⟨b1, b2, b3⟩
  have hf1 : ∀ o, ¬ scO o → μ1 o = μ o := fun o ho => b3 o (by rintro rfl; exact ho (by simp [scO])) (by rintro rfl; exact ho (by simp [scO]))
  have hR1 := TR_sc hR0 (Or.inl rfl) hf1
  have hx1 : XC T T c := ⟨fun k _ _ => rfl, hvr, hwr⟩
  have hP1 : PB μ1 T c := by
    obtain ⟨c0, c1, c2, c3, c4, c5, c6, c7⟩ := hR0.2.1 c (by omega) (by omega)
    exact ⟨by rw [b1 0 (by omega) (by omega)]; exact c0, by rw [b1 1 (by omega) (by omega)]; exact c1, by rw [b1 2 (by omega) (by omega)]; exact c2, by rw [b1 3 (by omega) (by omega)]; exact c3, by rw [b1 4 (by omega) (by omega)]; exact c4, by rw [b1 5 (by omega) (by omega)]; exact c5, by rw [b1 6 (by omega) (by omega)]; exact c6, fun k x y => by rw [b2 k x y]; exact c7 k x y⟩
  refine x_aload_n (i := 0) (pc := 16) F dX7_walksBySeen_16 rfl rfl ?_
  refine x_V0v (ci := 7) (pc := 17) F dX7_walksBySeen_17 lk_X7_262 rfl (v_0 (by omega)) rfl rfl (c_X7_askNeededByGate (by omega) hR1 hI (hH.fr (fun o ho => hf1 o (scO_hs ho))) hd hP1 hx1) rfl rfl rfl ?_
  rintro μ2 ⟨d1, d2⟩
  refine x_iconst (pc := 20) F dX7_walksBySeen_20 ?_
  refine x_istore_n (i := 3) (pc := 21) F dX7_walksBySeen_21 rfl rfl ?_
  refine x_bipush (pc := 22) F dX7_walksBySeen_22 (by decide) ?_
  refine x_istore (i := 4) (pc := 24) F dX7_walksBySeen_24 rfl ?_
  refine x_sipush (pc := 26) F dX7_walksBySeen_26 (by decide) ?_
  refine x_istore (i := 5) (pc := 29) F dX7_walksBySeen_29 rfl ?_
  have hP2 : PB μ2 (upT T (18 + 10 * c) (T (18 + 10 * c))) c := by
    rw [show upT T (18 + 10 * c) (T (18 + 10 * c)) = T from funext fun k => by unfold upT; split; (rename_i q; rw [q]); rfl]
    exact PB_fr hP1 (d2 _ (by simp)) (d2 _ (by simp))
  exact x_sub (L' := [(0, .ref (ad (0, 0, 0))), (1, .int (I c)), (2, .int (I what)), (3, .int (I (cdL (canP S T c (18 + 10 * c)) 4096 0).1)), (4, .int (I (cdL (canP S T c (18 + 10 * c)) 4096 0).2)), (5, .int (I (4095 - ((0 : Nat) : Int))))]) ⟨rfl, rfl, rfl, rfl, rfl, rfl, trivial⟩ (loop 4097 0 _ μ2 (by omega) (by omega) hwr hP2 d1 (fun o ho => by rw [d2 o (by rintro rfl; exact ho (by simp [scO])), hf1 o ho]))
set_option maxRecDepth 20000 in
theorem c_X7_numbersBySeen (what : Int) (hw : 0 ≤ what ∧ what < 2) (hc : 0 ≤ c ∧ c < T 76) (hR0 : TR μ 0 T) (hI : TI T) (hH : HRel μ nh (T 78) S) (hd : T 77 ≤ 9999) (l : Launch) (E : Ev) (A : Nat → Prop) : Con l E 5 m_X7_numbersBySeen A (VC nh) ad μ [.ref (ad (0, 0, 0)), .int (I c), .int (I what)] (pi fun z μ' => z = (if what = 0 then (canL S T c 1).1 else (canL S T c 1).2) ∧ ∀ o, ¬ scO o → μ' o = μ o) := by
  have h76 := hI.2.2.1
  have hwr := (hI.2.1 c (by omega) (by omega)).2.2.1
  have hvr := (hI.2.1 c (by omega) (by omega)).2.1
  refine con (own := RX7) (by decide +kernel) rfl rfl rfl (fun Γ F => ?_)
  have loop : ∀ (N : Nat) (n : Nat) (w : Int) (μ1 : Me), 10 - n < N → n ≤ 10 → PB μ1 (upT T (17 + 10 * c) w) c → (∀ o, ¬ scO o → μ1 o = μ o) → XX Γ 6 (VC nh) ad (vl ad μ1) 0 0 26 [(0, .ref (ad (0, 0, 0))), (1, .int (I c)), (2, .int (I what)), (3, .int (I (cdL (canP S T c (17 + 10 * c)) 10 n).1)), (4, .int (I (cdL (canP S T c (17 + 10 * c)) 10 n).2)), (5, .int (I (9 - n)))] [] := by
    intro N
    induction N with
    | zero => intro n w μ1 a1 a2; omega
    | succ N ih =>
      intro n w μ1 a1 a2 a4 a6
      have hcr := cdL_rg (P := canP S T c (17 + 10 * c)) (N := 10) n
      have ct := cdL_t (P := canP S T c (17 + 10 * c)) (N := 10) (j := n)
      have cf := cdL_f (P := canP S T c (17 + 10 * c)) (N := 10) (j := n)
      have he : (((10 : Nat) : Int) - 1 - n) = 9 - n := by omega
      rw [he] at ct cf
      have hend : n = 10 → cdL (canP S T c (17 + 10 * c)) 10 n = canL S T c 1 := fun h => by unfold canL; rw [if_neg (by decide), h]
      generalize hs : cdL (canP S T c (17 + 10 * c)) 10 n = s at hcr ct cf hend ⊢
      refine x_iload (i := 5) (pc := 26) F dX7_numbersBySeen_26 rfl ?_
      refine x_if_lt (tgt := 64) (pc := 28) F dX7_numbersBySeen_28 rfl (by omega) (fun h28 => ?_) (fun h28 => ?_)
      · refine x_iload_n (i := 2) (pc := 64) F dX7_numbersBySeen_64 rfl rfl ?_
        refine x_if_ne (tgt := 72) (pc := 65) F dX7_numbersBySeen_65 rfl (by omega) (fun h65 => ?_) (fun h65 => ?_)
        · refine x_iload (i := 4) (pc := 72) F dX7_numbersBySeen_72 rfl ?_
          refine tq_reti (pc := 74) F dX7_numbersBySeen_74 ?_ rfl rfl rfl
          rw [← hend (by omega)]
          first | exact ⟨by rw [if_pos (by omega)], a6⟩ | exact ⟨by rw [if_neg (by omega)], a6⟩
        · refine x_iload_n (i := 3) (pc := 68) F dX7_numbersBySeen_68 rfl rfl ?_
          refine x_goto (tgt := 74) (pc := 69) F dX7_numbersBySeen_69 rfl ?_
          refine tq_reti (pc := 74) F dX7_numbersBySeen_74 ?_ rfl rfl rfl
          rw [← hend (by omega)]
          first | exact ⟨by rw [if_pos (by omega)], a6⟩ | exact ⟨by rw [if_neg (by omega)], a6⟩
      · refine x_aload_n (i := 0) (pc := 31) F dX7_numbersBySeen_31 rfl rfl ?_
        refine gf_X7_46 (pc := 32) F dX7_numbersBySeen_32 (v_0 (by omega)) ?_
        refine x_iload (i := 5) (pc := 35) F dX7_numbersBySeen_35 rfl ?_
        refine pf_X7_117 (pc := 37) F dX7_numbersBySeen_37 (v_4 (by omega)) ?_
        have hP2 := PB_set (X' := upT T (17 + 10 * c) (9 - n)) (f := 2) (v := 9 - n) a4 (Or.inl rfl) (fun k hk => by rw [upT_ne (by omega), upT_ne (by omega)]) (by rw [show 15 + 10 * c + 2 = 17 + 10 * c by omega, upT_eq])
        have hx2 : XC T (upT T (17 + 10 * c) (9 - n)) c := ⟨fun k h _ => upT_ne h, by rw [upT_eq]; omega, by rw [upT_ne (by omega)]; exact hwr⟩
        have hf2 : ∀ o, ¬ scO o → upM μ1 (4, 3, 0) 2 (9 - n) o = μ o := fun o ho => by rw [upM_ne (by rintro rfl; exact ho (by simp [scO])), a6 o ho]
        have hR2 := TR_sc hR0 (Or.inl rfl) hf2
        refine x_aload_n (i := 0) (pc := 40) F dX7_numbersBySeen_40 rfl rfl ?_
        refine x_V0v (ci := 7) (pc := 41) F dX7_numbersBySeen_41 lk_X7_262 rfl (v_0 (by omega)) rfl rfl (c_X7_askNeededByGate (by omega) hR2 hI (hH.fr (fun o ho => hf2 o (scO_hs ho))) hd hP2 hx2) rfl rfl rfl ?_
        rintro μ2 ⟨d1, d2⟩
        have hP3 := PB_fr hP2 (d2 _ (by simp)) (d2 _ (by simp))
        have hf3 : ∀ o, ¬ scO o → μ2 o = μ o := fun o ho => by rw [d2 o (by rintro rfl; exact ho (by simp [scO])), hf2 o ho]
        have hR3 := TR_sc hR0 (Or.inl rfl) hf3
        refine x_aload_n (i := 0) (pc := 44) F dX7_numbersBySeen_44 rfl rfl ?_
        refine x_V0z (ci := 7) (pc := 45) F dX7_numbersBySeen_45 lk_X7_265 rfl (v_0 (by omega)) rfl rfl (c_X7_isAllSeenSo (by omega) hR3 hI hP3 hx2 d1) rfl rfl rfl ?_
        rintro b _ ⟨hb, rfl⟩
        refine x_if_eqB (tgt := 58) (pc := 48) F dX7_numbersBySeen_48 rfl (fun h48 => ?_) (fun h48 => ?_)
        · try simp only [decide_eq_true_eq, decide_eq_false_iff_not, Bool.and_eq_true, Bool.or_eq_true, Bool.not_eq_true', Bool.not_eq_false', Bool.and_eq_false_iff, Bool.or_eq_false_iff] at h48
          refine x_iinc (pc := 58) F dX7_numbersBySeen_58 rfl rfl ?_
          refine x_goto (tgt := 26) (pc := 61) F dX7_numbersBySeen_61 rfl ?_
          refine x_sub (L' := [(0, .ref (ad (0, 0, 0))), (1, .int (I c)), (2, .int (I what)), (3, .int (I (cdL (canP S T c (17 + 10 * c)) 10 (n + 1)).1)), (4, .int (I (cdL (canP S T c (17 + 10 * c)) 10 (n + 1)).2)), (5, .int (I (9 - ((n + 1 : Nat) : Int))))]) ⟨rfl, rfl, rfl, lk_i rfl ?_, lk_i rfl ?_, lk_i rfl (by omega), trivial⟩ (ih (n + 1) (9 - n) _ (by omega) (by omega) hP3 hf3)
          all_goals first | (rw [ct (hb.mp h48)]; done) | (rw [cf (fun q => by have := hb.mpr q; rw [h48] at this; cases this)]; done)
        · try simp only [decide_eq_true_eq, decide_eq_false_iff_not, Bool.and_eq_true, Bool.or_eq_true, Bool.not_eq_true', Bool.not_eq_false', Bool.and_eq_false_iff, Bool.or_eq_false_iff] at h48
          refine x_iinc (pc := 51) F dX7_numbersBySeen_51 rfl rfl ?_
          refine x_iload (i := 5) (pc := 54) F dX7_numbersBySeen_54 rfl ?_
          refine x_istore (i := 4) (pc := 56) F dX7_numbersBySeen_56 rfl ?_
          refine x_iinc (pc := 58) F dX7_numbersBySeen_58 rfl rfl ?_
          refine x_goto (tgt := 26) (pc := 61) F dX7_numbersBySeen_61 rfl ?_
          refine x_sub (L' := [(0, .ref (ad (0, 0, 0))), (1, .int (I c)), (2, .int (I what)), (3, .int (I (cdL (canP S T c (17 + 10 * c)) 10 (n + 1)).1)), (4, .int (I (cdL (canP S T c (17 + 10 * c)) 10 (n + 1)).2)), (5, .int (I (9 - ((n + 1 : Nat) : Int))))]) ⟨rfl, rfl, rfl, lk_i rfl ?_, lk_i rfl ?_, lk_i rfl (by omega), trivial⟩ (ih (n + 1) (9 - n) _ (by omega) (by omega) hP3 hf3)
          all_goals first | (rw [ct (hb.mp h48)]; done) | (rw [cf (fun q => by have := hb.mpr q; rw [h48] at this; cases this)]; done)
  refine x_aload_n (i := 0) (pc := 0) F dX7_numbersBySeen_0 rfl rfl ?_
  refine gf_X7_46 (pc := 1) F dX7_numbersBySeen_1 (v_0 (by omega)) ?_
  refine x_aload_n (i := 0) (pc := 4) F dX7_numbersBySeen_4 rfl rfl ?_
  refine gf_X7_62 (pc := 5) F dX7_numbersBySeen_5 (v_0 (by omega)) ?_
  refine gf_X7_94 (pc := 8) F dX7_numbersBySeen_8 (v_1 (by omega)) ?_
  refine x_iload_n (i := 1) (pc := 11) F dX7_numbersBySeen_11 rfl rfl ?_
  refine tq_pa (pc := 12) F dX7_numbersBySeen_12 (v_11 (by omega)) (by omega) ?_
  refine x_V1v (ci := 0) (pc := 13) F dX7_numbersBySeen_13 lk_X7_260 rfl (v_4 (by omega)) rfl rfl (c_X0_become (Or.inr ⟨rfl, rfl⟩) (by omega) (by omega)) rfl rfl rfl ?_
  rintro μ1 ⟨b1, b2, b3⟩
  refine x_iconst (pc := 16) F dX7_numbersBySeen_16 ?_
  refine x_istore_n (i := 3) (pc := 17) F dX7_numbersBySeen_17 rfl rfl ?_
  refine x_bipush (pc := 18) F dX7_numbersBySeen_18 (by decide) ?_
  refine x_istore (i := 4) (pc := 20) F dX7_numbersBySeen_20 rfl ?_
  refine x_bipush (pc := 22) F dX7_numbersBySeen_22 (by decide) ?_
  refine x_istore (i := 5) (pc := 24) F dX7_numbersBySeen_24 rfl ?_
  have hf1 : ∀ o, ¬ scO o → μ1 o = μ o := fun o ho => b3 o (by rintro rfl; exact ho (by simp [scO])) (by rintro rfl; exact ho (by simp [scO]))
  have hP1 : PB μ1 T c := by
    obtain ⟨c0, c1, c2, c3, c4, c5, c6, c7⟩ := hR0.2.1 c (by omega) (by omega)
    exact ⟨by rw [b1 0 (by omega) (by omega)]; exact c0, by rw [b1 1 (by omega) (by omega)]; exact c1, by rw [b1 2 (by omega) (by omega)]; exact c2, by rw [b1 3 (by omega) (by omega)]; exact c3, by rw [b1 4 (by omega) (by omega)]; exact c4, by rw [b1 5 (by omega) (by omega)]; exact c5, by rw [b1 6 (by omega) (by omega)]; exact c6, fun k x y => by rw [b2 k x y]; exact c7 k x y⟩
  have hP2 : PB μ1 (upT T (17 + 10 * c) (T (17 + 10 * c))) c := by
    rw [show upT T (17 + 10 * c) (T (17 + 10 * c)) = T from funext fun k => by unfold upT; split; (rename_i q; rw [q]); rfl]
    exact hP1
  exact x_sub (L' := [(0, .ref (ad (0, 0, 0))), (1, .int (I c)), (2, .int (I what)), (3, .int (I (cdL (canP S T c (17 + 10 * c)) 10 0).1)), (4, .int (I (cdL (canP S T c (17 + 10 * c)) 10 0).2)), (5, .int (I (9 - ((0 : Nat) : Int))))]) ⟨rfl, rfl, rfl, rfl, rfl, rfl, trivial⟩ (loop 11 0 _ μ1 (by omega) (by omega) hP2 hf1)
set_option maxRecDepth 20000 in
theorem c_X7_can (c w a : Int) (hc : -2147483648 ≤ c ∧ c < 2147483648) (hw : -2147483648 ≤ w ∧ w < 2147483648) (ha : -2147483648 ≤ a ∧ a < 2147483648) (hR0 : TR μ 0 T) (hI : TI T) (hH : HRel μ nh (T 78) S) (hd : T 77 ≤ 9999) (l : Launch) (E : Ev) (A : Nat → Prop) : Con l E 6 m_X7_can A (VC nh) ad μ [.ref (ad (0, 0, 0)), .int (I c), .int (I w), .int (I a)] (pi fun z μ' => z = canZ S T c w a ∧ ∀ o, ¬ scO o → μ' o = μ o) := by
  refine con (own := RX7) (by decide +kernel) rfl rfl rfl (fun Γ F => ?_)
  refine x_aload_n (i := 0) (pc := 0) F dX7_can_0 rfl rfl ?_
  refine x_iload_n (i := 1) (pc := 1) F dX7_can_1 rfl rfl ?_
  refine x_V1z (ci := 7) (pc := 2) F dX7_can_2 lk_X7_102 rfl (v_0 (by omega)) rfl rfl (c_X7_isComer _ (by omega) hR0 hI) rfl rfl rfl ?_
  rintro _ _ ⟨rfl, rfl⟩
  refine x_if_eqB (tgt := 24) (pc := 5) F dX7_can_5 rfl (fun h5 => ?_) (fun h5 => ?_)
  · try simp only [decide_eq_true_eq, decide_eq_false_iff_not, Bool.and_eq_true, Bool.or_eq_true, Bool.not_eq_true', Bool.not_eq_false', Bool.and_eq_false_iff, Bool.or_eq_false_iff] at h5
    refine x_iconst (pc := 24) F dX7_can_24 ?_
    refine tq_reti (pc := 25) F dX7_can_25 ?_ rfl rfl rfl
    exact ⟨by unfold canZ; rw [if_neg (by omega)], fun o _ => rfl⟩
  · try simp only [decide_eq_true_eq, decide_eq_false_iff_not, Bool.and_eq_true, Bool.or_eq_true, Bool.not_eq_true', Bool.not_eq_false', Bool.and_eq_false_iff, Bool.or_eq_false_iff] at h5
    refine x_iload_n (i := 2) (pc := 8) F dX7_can_8 rfl rfl ?_
    refine x_iconst (pc := 9) F dX7_can_9 ?_
    refine x_S2z (pc := 10) F dX7_can_10 lk_X7_83 rfl (c_isInW _ _ _ (by omega)) rfl rfl rfl ?_
    rintro _ _ ⟨rfl, rfl⟩
    refine x_if_eqB (tgt := 24) (pc := 13) F dX7_can_13 rfl (fun h13 => ?_) (fun h13 => ?_)
    · try simp only [decide_eq_true_eq, decide_eq_false_iff_not, Bool.and_eq_true, Bool.or_eq_true, Bool.not_eq_true', Bool.not_eq_false', Bool.and_eq_false_iff, Bool.or_eq_false_iff] at h13
      refine x_iconst (pc := 24) F dX7_can_24 ?_
      refine tq_reti (pc := 25) F dX7_can_25 ?_ rfl rfl rfl
      exact ⟨by unfold canZ; rw [if_neg (by omega)], fun o _ => rfl⟩
    · try simp only [decide_eq_true_eq, decide_eq_false_iff_not, Bool.and_eq_true, Bool.or_eq_true, Bool.not_eq_true', Bool.not_eq_false', Bool.and_eq_false_iff, Bool.or_eq_false_iff] at h13
      refine x_iload_n (i := 3) (pc := 16) F dX7_can_16 rfl rfl ?_
      refine x_iconst (pc := 17) F dX7_can_17 ?_
      refine x_S2z (pc := 18) F dX7_can_18 lk_X7_83 rfl (c_isInW _ _ _ (by omega)) rfl rfl rfl ?_
      rintro _ _ ⟨rfl, rfl⟩
      refine x_if_neB (tgt := 26) (pc := 21) F dX7_can_21 rfl (fun h21 => ?_) (fun h21 => ?_)
      · try simp only [decide_eq_true_eq, decide_eq_false_iff_not, Bool.and_eq_true, Bool.or_eq_true, Bool.not_eq_true', Bool.not_eq_false', Bool.and_eq_false_iff, Bool.or_eq_false_iff] at h21
        refine x_iload_n (i := 2) (pc := 26) F dX7_can_26 rfl rfl ?_
        refine x_if_ne (tgt := 39) (pc := 27) F dX7_can_27 rfl (by omega) (fun h27 => ?_) (fun h27 => ?_)
        · refine x_aload_n (i := 0) (pc := 39) F dX7_can_39 rfl rfl ?_
          refine x_iload_n (i := 1) (pc := 40) F dX7_can_40 rfl rfl ?_
          refine x_iload_n (i := 3) (pc := 41) F dX7_can_41 rfl rfl ?_
          refine x_V2i (ci := 7) (pc := 42) F dX7_can_42 lk_X7_257 rfl (v_0 (by omega)) rfl rfl (c_X7_numbersBySeen a (by omega) (by omega) hR0 hI hH hd) rfl rfl rfl ?_
          rintro _ μ1 ⟨rfl, b1⟩
          refine tq_reti (pc := 45) F dX7_can_45 ?_ rfl rfl rfl
          first | exact ⟨by unfold canZ; rw [show w = 0 by omega, if_pos (show (0 ≤ c ∧ c < T 76) ∧ (0 ≤ (0 : Int) ∧ (0 : Int) < 2) ∧ 0 ≤ a ∧ a < 2 by omega)], b1⟩ | exact ⟨by unfold canZ; rw [show w = 1 by omega, if_pos (show (0 ≤ c ∧ c < T 76) ∧ (0 ≤ (1 : Int) ∧ (1 : Int) < 2) ∧ 0 ≤ a ∧ a < 2 by omega)], b1⟩
        · refine x_aload_n (i := 0) (pc := 30) F dX7_can_30 rfl rfl ?_
          refine x_iload_n (i := 1) (pc := 31) F dX7_can_31 rfl rfl ?_
          refine x_iload_n (i := 3) (pc := 32) F dX7_can_32 rfl rfl ?_
          refine x_V2i (ci := 7) (pc := 33) F dX7_can_33 lk_X7_254 rfl (v_0 (by omega)) rfl rfl (c_X7_walksBySeen a (by omega) (by omega) hR0 hI hH hd) rfl rfl rfl ?_
          rintro _ μ1 ⟨rfl, b1⟩
          refine x_goto (tgt := 45) (pc := 36) F dX7_can_36 rfl ?_
          refine tq_reti (pc := 45) F dX7_can_45 ?_ rfl rfl rfl
          first | exact ⟨by unfold canZ; rw [show w = 0 by omega, if_pos (show (0 ≤ c ∧ c < T 76) ∧ (0 ≤ (0 : Int) ∧ (0 : Int) < 2) ∧ 0 ≤ a ∧ a < 2 by omega)], b1⟩ | exact ⟨by unfold canZ; rw [show w = 1 by omega, if_pos (show (0 ≤ c ∧ c < T 76) ∧ (0 ≤ (1 : Int) ∧ (1 : Int) < 2) ∧ 0 ≤ a ∧ a < 2 by omega)], b1⟩
      · try simp only [decide_eq_true_eq, decide_eq_false_iff_not, Bool.and_eq_true, Bool.or_eq_true, Bool.not_eq_true', Bool.not_eq_false', Bool.and_eq_false_iff, Bool.or_eq_false_iff] at h21
        refine x_iconst (pc := 24) F dX7_can_24 ?_
        refine tq_reti (pc := 25) F dX7_can_25 ?_ rfl rfl rfl
        exact ⟨by unfold canZ; rw [if_neg (by omega)], fun o _ => rfl⟩
end CLS7
