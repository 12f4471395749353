/-! ===== the GatesBent's constructor ===== -/
theorem X7_l {V : Ob → Prop} {ad : Ob → Nat} {κ : Ka} (ho : V (0, 0, 0)) (hn : ∀ o, NGo o → ¬ V o) {Γ : Ct} (F : Fx Γ cX7_init "GatesBent" 3 none (ctP V ad κ NGo (0, 0, 0)) 3 131 1119) (kk : ∀ a : Ob → Nat, (∀ o, V o → a o = ad o) → ∀ cs sl, cs = 131 → sl = 1119 → kOK V (GB 3 6) (DG 3 6) κ → XX Γ 3 (kW V (GB 3 6)) a (nv a (kT (GB 3 6) (DG 3 6) κ)) cs sl 151 [] []) : ∀ m : Nat, ∀ i : Int, 0 ≤ i → i + m = 6 → ∀ a : Ob → Nat, (∀ o, V o → a o = ad o) → ∀ cs sl : Nat, (cs : Int) = 119 + 2 * i → (sl : Int) = 741 + 63 * i → kOK V (GB 3 i) (DG 3 i) κ → XX Γ 3 (kW V (GB 3 i)) a (nv a (kT (GB 3 i) (DG 3 i) κ)) cs sl 126 [(2, .int (I i)), (0, .ref (a (0, 0, 0)))] [] := by
  intro m
  induction m with
  | zero =>
    intro i h0 hi a hag cs sl hcs hsl hk
    have hi : i = 6 := by omega
    subst hi
    refine x_iload_n (i := 2) (pc := 126) F dX7_init_126 rfl rfl ?_
    refine x_bipush (pc := 127) F dX7_init_127 (by decide) ?_
    refine x_icmp_ge (tgt := 151) (pc := 129) F dX7_init_129 rfl (by omega) (fun _ => ?_) (fun hq => ?_)
    · refine x_sub (L' := []) trivial ?_
      exact kk a hag cs sl (by omega) (by omega) hk
    · exact absurd hq (by decide)
  | succ m ih =>
    intro i h0 hi a hag cs sl hcs hsl hk
    have n1 : ¬ V (20, i, 0) := hn _ ⟨v_20 (by omega), by simp⟩
    have n2 : ¬ V (21, i, 0) := hn _ ⟨v_21 (by omega), by simp⟩
    have n3 : ¬ kW V (fun o' => GB 3 i o' ∨ o' = (20, i, 0)) (21, i, 0) := fun h => h.elim n2 (fun h => h.elim (fun (h : 0 ≤ i ∧ i < i ∧ (0 : Int) = 0) => by omega) (fun e => by cases e))
    refine x_iload_n (i := 2) (pc := 126) F dX7_init_126 rfl rfl ?_
    refine x_bipush (pc := 127) F dX7_init_127 (by decide) ?_
    refine x_icmp_ge (tgt := 151) (pc := 129) F dX7_init_129 rfl (by omega) (fun hq => absurd hq (by omega)) (fun _ => ?_)
    refine x_aload_n (i := 0) (pc := 132) F dX7_init_132 rfl rfl ?_
    refine x_get (V := kW V (GB 3 i)) (o := (0, 0, 0)) (v := .ref (a (19, 0, 0))) (pc := 133) F dX7_init_133 rfl inx7 9 (by decide) kw_316 rfl (Or.inl ho) rfl (by unfold nv; rw [kT_d (o := (0, 0, 0)) (k := 9) (M := GB 3 i) (D := DG 3 i) ⟨rfl, rfl⟩ ⟨⟨rfl, rfl⟩, by omega⟩]; rfl) ?_
    refine x_iload_n (i := 2) (pc := 136) F dX7_init_136 rfl rfl ?_
    refine kt_new (20, i, 0) (pc := 137) F dX7_init_137 rfl kw_121 kw_289 kw_79 inx5 tyX5 tyX5_ok (dfX5 _ _) hk (fun h => h.elim n1 (fun (h : 0 ≤ i ∧ i < i ∧ (0 : Int) = 0) => by omega)) rfl (by omega) (by omega) ?_
    intro a1 e1 hk1 hb1
    rw [← e1 (0, 0, 0) (Or.inl ho), ← e1 (19, 0, 0) (Or.inr ⟨rfl, rfl⟩)]
    refine x_dup (pc := 140) F dX7_init_140 rfl ?_
    refine kt_IN (o := (20, i, 0)) (As := []) (pc := 141) F dX7_init_141 lk_X7_72 rfl rfl rfl (by omega) (by omega) (by omega) (by omega) hk1 (Or.inr rfl) (fun o' h => by cases h; exact n3) (c_X5_init (t := i) (Or.inr (Or.inr rfl)) hk1.1 hb1 n3) ?_
    intro a2 e2 hk2
    rw [← e2 (0, 0, 0) (Or.inl ho), ← e2 (19, 0, 0) (Or.inr (Or.inl ⟨rfl, rfl⟩)), ← e2 (20, i, 0) (Or.inr (Or.inr rfl))]
    refine kt_aa (o := (19, 0, 0)) (j := i) (ov := (20, i, 0)) (Or.inl (Or.inl ⟨rfl, rfl⟩)) hk2 (by show rvO (20, ((i.toNat : Nat) : Int), 0) = rvO (20, i, 0); rw [show ((i.toNat : Nat) : Int) = i by omega]) (pc := 144) F dX7_init_144 rfl (by decide) rfl (Or.inr (Or.inl (Or.inr rfl))) rfl rfl (by omega) ?_
    intro hk3
    refine x_iinc (pc := 145) F dX7_init_145 rfl rfl ?_
    refine kt_co (M2 := GB 3 (i + 1)) (D2 := DG 3 (i + 1)) hk3 (fun o => ?_) (fun o k _ => ?_) (fun o k h => DG_GB h) (fun hk4 => ?_)
    · exact GB_m h0 o
    · exact DG_m h0 o k
    refine x_goto (tgt := 126) (pc := 148) F dX7_init_148 rfl ?_
    refine x_sub (L' := [(2, .int (I (i + 1))), (0, .ref (a2 (0, 0, 0)))]) ⟨rfl, rfl, trivial⟩ ?_
    exact ih (i + 1) (by omega) (by omega) a2 (fun o hv => by rw [e2 o (Or.inl hv), e1 o (Or.inl hv), hag o hv]) _ _ (by omega) (by omega) hk4
theorem c_X7_init {V : Ob → Prop} {ad : Ob → Nat} {κ : Ka} (ho : V (0, 0, 0)) (hn : ∀ o, NGo o → ¬ V o) (hc : clo V κ) (h0 : ∀ k, k < nsl (0, 0, 0) → κ (0, 0, 0) k = dfl (0, 0, 0) k) : ∀ (l : Launch) (E : Ev) (A : Nat → Prop), ctor l E 3 m_X7_init A V ad κ NGo (0, 0, 0) [.ref (ad (0, 0, 0))] 131 1119 := by
  intro l E A
  have h6 : hsz 6 = 0 := rfl
  refine conI (own := "GatesBent") (by decide +kernel) rfl rfl rfl rfl (fun Γ F hin2 => ?_)
  refine kt_0 (0, 0, 0) hc ho h0 (fun hk0 => ?_)
  refine x_aload_n (i := 0) (pc := 0) F dX7_init_0 rfl rfl ?_
  refine x_objI (pc := 1) F dX7_init_1 kw_93 (by omega) rfl ?_
  refine x_aload_n (i := 0) (pc := 4) F dX7_init_4 rfl rfl ?_
  refine kt_new (15, 0, 0) (pc := 5) F dX7_init_5 rfl kw_96 kw_97 kw_73 inx3 tyX3 tyX3_ok (dfX3 _ _) hk0 (fun h => h.elim (hn (15, 0, 0) ⟨v_15 (by omega), by simp⟩) (by simp)) rfl (by omega) (by omega) ?_
  intro a1 e1 hk1 hb1
  rw [← e1 (0, 0, 0) (Or.inr (by simp))]
  refine x_dup (pc := 8) F dX7_init_8 rfl ?_
  refine kt_IN (o := (15, 0, 0)) (As := []) (pc := 9) F dX7_init_9 lk_X7_11 rfl rfl rfl (by omega) (by omega) (by omega) (by omega) hk1 (by simp) (fun o' h => by cases h; exact (fun h => h.elim (hn (16, 0, 0) ⟨v_16 (by omega), by simp⟩) (by simp))) (c_X3_init (t := 0) (Or.inr (by simp)) hk1.1 hb1 (fun h => h.elim (hn (16, 0, 0) ⟨v_16 (by omega), by simp⟩) (by simp))) ?_
  intro a2 e2 hk2
  rw [← e2 (0, 0, 0) (Or.inr (by simp))]
  rw [← e2 (15, 0, 0) (Or.inr (by simp))]
  refine kt_F (o := (0, 0, 0)) (k := 4) (r := rvO (15, 0, 0)) (by simp) hk2 rfl (fun o' e => by cases e; exact Or.inr (by simp)) rfl (pc := 12) F hin2 dX7_init_12 rfl inx7 tyX7 tyX7_ok nmX7 (by decide) kw_311 rfl rfl rfl rfl rfl rfl ?_
  intro hk3
  refine x_aload_n (i := 0) (pc := 15) F dX7_init_15 rfl rfl ?_
  refine x_bipush (pc := 16) F dX7_init_16 (by decide) ?_
  refine kt_Q (ti := 6) (17, 0, 0) (pc := 18) F dX7_init_18 rfl (by decide) kw_119 (by decide +kernel) (fun _ => rfl) hk3 (fun h => h.elim (hn (17, 0, 0) ⟨v_17 (by omega), by simp⟩) (by simp)) rfl rfl (by decide) (by omega) (by omega) ?_
  intro a4 e4 hk4
  rw [← e4 (0, 0, 0) (Or.inr (by simp))]
  refine kt_F (o := (0, 0, 0)) (k := 5) (r := rvO (17, 0, 0)) (by simp) hk4 rfl (fun o' e => by cases e; exact Or.inr (by simp)) rfl (pc := 21) F hin2 dX7_init_21 rfl inx7 tyX7 tyX7_ok nmX7 (by decide) kw_312 rfl rfl rfl rfl rfl rfl ?_
  intro hk5
  refine x_aload_n (i := 0) (pc := 24) F dX7_init_24 rfl rfl ?_
  refine x_bipush (pc := 25) F dX7_init_25 (by decide) ?_
  refine kt_A (ti := 0) (18, 0, 0) (rvI 0) (pc := 27) F dX7_init_27 rfl (by decide) kw_139 (fun _ => rfl) (fun _ h => by cases h) (fun _ => rfl) hk5 (fun h => h.elim (hn (18, 0, 0) ⟨v_18 (by omega), by simp⟩) (by simp)) rfl rfl (by decide) (by omega) (by omega) ?_
  intro a6 e6 hk6
  rw [← e6 (0, 0, 0) (Or.inr (by simp))]
  refine kt_F (o := (0, 0, 0)) (k := 7) (r := rvO (18, 0, 0)) (by simp) hk6 rfl (fun o' e => by cases e; exact Or.inr (by simp)) rfl (pc := 29) F hin2 dX7_init_29 rfl inx7 tyX7 tyX7_ok nmX7 (by decide) kw_314 rfl rfl rfl rfl rfl rfl ?_
  intro hk7
  refine x_aload_n (i := 0) (pc := 32) F dX7_init_32 rfl rfl ?_
  refine x_bipush (pc := 33) F dX7_init_33 (by decide) ?_
  refine kt_Q (ti := 7) (19, 0, 0) (pc := 35) F dX7_init_35 rfl (by decide) kw_121 (by decide +kernel) (fun _ => rfl) hk7 (fun h => h.elim (hn (19, 0, 0) ⟨v_19 (by omega), by simp⟩) (by simp)) rfl rfl (by decide) (by omega) (by omega) ?_
  intro a8 e8 hk8
  rw [← e8 (0, 0, 0) (Or.inr (by simp))]
  refine kt_F (o := (0, 0, 0)) (k := 9) (r := rvO (19, 0, 0)) (by simp) hk8 rfl (fun o' e => by cases e; exact Or.inr (by simp)) rfl (pc := 38) F hin2 dX7_init_38 rfl inx7 tyX7 tyX7_ok nmX7 (by decide) kw_316 rfl rfl rfl rfl rfl rfl ?_
  intro hk9
  refine x_aload_n (i := 0) (pc := 41) F dX7_init_41 rfl rfl ?_
  refine kt_new (2, 3, 0) (pc := 42) F dX7_init_42 rfl kw_123 kw_124 kw_74 inx1 tyX1 tyX1_ok (dfX1 _ _) hk9 (fun h => h.elim (hn (2, 3, 0) ⟨v_2 (by omega), by simp⟩) (by simp)) rfl (by omega) (by omega) ?_
  intro a10 e10 hk10 hb10
  rw [← e10 (0, 0, 0) (Or.inr (by simp))]
  refine x_dup (pc := 45) F dX7_init_45 rfl ?_
  refine kt_IN (o := (2, 3, 0)) (As := []) (pc := 46) F dX7_init_46 lk_X7_36 rfl rfl rfl (by omega) (by omega) (by omega) (by omega) hk10 (by simp) (fun o' h => by cases h; exact (fun h => h.elim (hn (3, 3, 0) ⟨v_3 (by omega), by simp⟩) (by simp))) (c_X1_init (t := 3) (j := 0) (Or.inr (by simp)) hk10.1 hb10 (fun h => h.elim (hn (3, 3, 0) ⟨v_3 (by omega), by simp⟩) (by simp))) ?_
  intro a11 e11 hk11
  rw [← e11 (0, 0, 0) (Or.inr (by simp))]
  rw [← e11 (2, 3, 0) (Or.inr (by simp))]
  refine kt_F (o := (0, 0, 0)) (k := 10) (r := rvO (2, 3, 0)) (by simp) hk11 rfl (fun o' e => by cases e; exact Or.inr (by simp)) rfl (pc := 49) F hin2 dX7_init_49 rfl inx7 tyX7 tyX7_ok nmX7 (by decide) kw_317 rfl rfl rfl rfl rfl rfl ?_
  intro hk12
  refine x_aload_n (i := 0) (pc := 52) F dX7_init_52 rfl rfl ?_
  refine kt_new (4, 3, 0) (pc := 53) F dX7_init_53 rfl kw_140 kw_141 kw_75 inx0 tyX0 tyX0_ok (dfX0 _ _) hk12 (fun h => h.elim (hn (4, 3, 0) ⟨v_4 (by omega), by simp⟩) (by simp)) rfl (by omega) (by omega) ?_
  intro a13 e13 hk13 hb13
  rw [← e13 (0, 0, 0) (Or.inr (by simp))]
  refine x_dup (pc := 56) F dX7_init_56 rfl ?_
  refine x_iconst (pc := 57) F dX7_init_57 ?_
  refine kt_I (o := (4, 3, 0)) (As := [.int (I 0)]) (pc := 58) F dX7_init_58 lk_X7_43 rfl rfl rfl (by omega) (by omega) (by omega) (by omega) hk13 (by simp) (fun o' h => by cases h; exact (fun h => h.elim (hn (5, 3, 0) ⟨v_5 (by omega), by simp⟩) (by simp))) (c_X0_init (t := 3) (j := 0) (Or.inr (by simp)) hk13.1 hb13 (fun h => h.elim (hn (5, 3, 0) ⟨v_5 (by omega), by simp⟩) (by simp))) ?_
  intro a14 e14 hk14
  rw [← e14 (0, 0, 0) (Or.inr (by simp))]
  rw [← e14 (4, 3, 0) (Or.inr (by simp))]
  refine kt_F (o := (0, 0, 0)) (k := 11) (r := rvO (4, 3, 0)) (by simp) hk14 rfl (fun o' e => by cases e; exact Or.inr (by simp)) rfl (pc := 61) F hin2 dX7_init_61 rfl inx7 tyX7 tyX7_ok nmX7 (by decide) kw_318 rfl rfl rfl rfl rfl rfl ?_
  intro hk15
  refine x_aload_n (i := 0) (pc := 64) F dX7_init_64 rfl rfl ?_
  refine x_bipush (pc := 65) F dX7_init_65 (by decide) ?_
  refine kt_A (ti := 0) (22, 0, 0) (rvI 0) (pc := 67) F dX7_init_67 rfl (by decide) kw_139 (fun _ => rfl) (fun _ h => by cases h) (fun _ => rfl) hk15 (fun h => h.elim (hn (22, 0, 0) ⟨v_22 (by omega), by simp⟩) (by simp)) rfl rfl (by decide) (by omega) (by omega) ?_
  intro a16 e16 hk16
  rw [← e16 (0, 0, 0) (Or.inr (by simp))]
  refine kt_F (o := (0, 0, 0)) (k := 12) (r := rvO (22, 0, 0)) (by simp) hk16 rfl (fun o' e => by cases e; exact Or.inr (by simp)) rfl (pc := 69) F hin2 dX7_init_69 rfl inx7 tyX7 tyX7_ok nmX7 (by decide) kw_319 rfl rfl rfl rfl rfl rfl ?_
  intro hk17
  refine x_aload_n (i := 0) (pc := 72) F dX7_init_72 rfl rfl ?_
  refine x_iconst (pc := 73) F dX7_init_73 ?_
  refine kt_A (ti := 0) (23, 0, 0) (rvI 0) (pc := 74) F dX7_init_74 rfl (by decide) kw_139 (fun _ => rfl) (fun _ h => by cases h) (fun _ => rfl) hk17 (fun h => h.elim (hn (23, 0, 0) ⟨v_23 (by omega), by simp⟩) (by simp)) rfl rfl (by decide) (by omega) (by omega) ?_
  intro a18 e18 hk18
  rw [← e18 (0, 0, 0) (Or.inr (by simp))]
  refine kt_F (o := (0, 0, 0)) (k := 13) (r := rvO (23, 0, 0)) (by simp) hk18 rfl (fun o' e => by cases e; exact Or.inr (by simp)) rfl (pc := 76) F hin2 dX7_init_76 rfl inx7 tyX7 tyX7_ok nmX7 (by decide) kw_320 rfl rfl rfl rfl rfl rfl ?_
  intro hk19
  refine kt_new (12, 6, 0) (pc := 79) F dX7_init_79 rfl kw_119 kw_191 kw_76 inx2 tyX2 tyX2_ok (dfX2 _ _) hk19 (fun h => h.elim (hn (12, 6, 0) ⟨v_12 (by omega), by simp⟩) (by simp)) rfl (by omega) (by omega) ?_
  intro a20 e20 hk20 hb20
  rw [← e20 (0, 0, 0) (Or.inr (by simp))]
  refine x_dup (pc := 82) F dX7_init_82 rfl ?_
  refine x_iconst (pc := 83) F dX7_init_83 ?_
  refine kt_I (o := (12, 6, 0)) (As := [.int (I 0)]) (pc := 84) F dX7_init_84 lk_X7_56 rfl rfl rfl (by omega) (by omega) (by omega) (by omega) hk20 (by simp) (fun o' h => by
      rcases h with rfl | rfl
      · exact (fun h => h.elim (hn (13, 6, 0) ⟨v_13 (by omega), by simp⟩) (by simp))
      · exact (fun h => h.elim (hn (14, 6, 0) ⟨v_14 (by omega), by simp⟩) (by simp))) (c_X2_init (t := 6) (z := 0) (Or.inr (by simp)) hk20.1 hb20 (fun h => h.elim (hn (13, 6, 0) ⟨v_13 (by omega), by simp⟩) (by simp)) (fun h => h.elim (hn (14, 6, 0) ⟨v_14 (by omega), by simp⟩) (by simp)) rfl) ?_
  intro a21 e21 hk21
  rw [← e21 (0, 0, 0) (Or.inr (by simp))]
  rw [← e21 (12, 6, 0) (Or.inr (by simp))]
  refine x_astore_n (i := 1) (pc := 87) F dX7_init_87 rfl rfl ?_
  refine kt_co (M2 := GB 0 0) (D2 := DG 0 0) hk21 (fun o => ?_) (fun o k _ => ?_) (fun o k h => DG_GB h) (fun hkT0 => ?_)
  · rw [GB_0]
    simp only [or_assoc]
  · rw [DG_0]
    simp only [false_or, or_assoc]
    constructor
    · rintro (⟨h, h2⟩ | h | h | h | h | h | h | h | h | h)
      · rcases (show k = 4 ∨ k = 5 ∨ k = 7 ∨ k = 9 ∨ k = 10 ∨ k = 11 ∨ k = 12 ∨ k = 13 by omega) with rfl | rfl | rfl | rfl | rfl | rfl | rfl | rfl <;> simp [h]
      all_goals simp [h]
    · intro h
      rcases h with h
      revert h
      rintro (h | h | h | h | h | h | h | h | h | h | h | h | h | h | h | h | h) <;> first | (obtain ⟨h, rfl⟩ := h; simp [h]) | simp [h]
  have hg0 : ∀ o, V o → a21 o = ad o := fun o ho => by rw [e21 o (Or.inl ho), e20 o (Or.inl ho), e18 o (Or.inl ho), e16 o (Or.inl ho), e14 o (Or.inl ho), e13 o (Or.inl ho), e11 o (Or.inl ho), e10 o (Or.inl ho), e8 o (Or.inl ho), e6 o (Or.inl ho), e4 o (Or.inl ho), e2 o (Or.inl ho), e1 o (Or.inl ho)]
  refine x_aload_n (i := 0) (pc := 88) F dX7_init_88 rfl rfl ?_
  refine kt_new (1, 0, 0) (pc := 89) F dX7_init_89 rfl kw_218 kw_219 kw_77 inx6 tyX6 tyX6_ok (dfX6 _ _) hkT0 (fun h => h.elim (hn _ ⟨v_1 (by omega), by simp⟩) (fun (h : (0 : Int) ≤ 0 ∧ (0 : Int) < 0 ∧ (0 : Int) = 0) => by omega)) rfl (by omega) (by omega) ?_
  intro b0 f0 hkU0 hbU0
  rw [← f0 (0, 0, 0) (Or.inl ho), ← f0 (12, 6, 0) (Or.inr ⟨rfl, rfl⟩)]
  refine x_dup (pc := 92) F dX7_init_92 rfl ?_
  refine x_aload_n (i := 1) (pc := 93) F dX7_init_93 rfl rfl ?_
  refine kt_I (o := (1, 0, 0)) (As := [.ref (b0 (12, 6, 0))]) (pc := 94) F dX7_init_94 lk_X7_59 rfl rfl rfl (by omega) (by omega) (by omega) (by omega) hkU0 (Or.inr rfl) (NT_no hn (by omega)) (c_X6_init (t := 0) (Or.inr (Or.inr rfl)) (Or.inr (Or.inl ⟨rfl, rfl⟩)) (NT_no hn (by omega)) hkU0.1 hbU0) ?_
  intro c0 g0 hkV0
  rw [← g0 (0, 0, 0) (Or.inl ho), ← g0 (12, 6, 0) (Or.inr (Or.inl ⟨rfl, rfl⟩)), ← g0 (1, 0, 0) (Or.inr (Or.inr rfl))]
  refine kt_F (o := (0, 0, 0)) (k := 0) (r := rvO (1, 0, 0)) (Or.inl (Or.inl ⟨rfl, rfl⟩)) hkV0 rfl (fun o' e => by cases e; exact Or.inr (Or.inl (Or.inr rfl))) rfl (pc := 97) F hin2 dX7_init_97 rfl inx7 tyX7 tyX7_ok nmX7 (by decide) kw_307 rfl rfl rfl rfl rfl rfl ?_
  intro hkW0
  refine kt_co (M2 := GB 1 0) (D2 := DG 1 0) hkW0 (fun o => ?_) (fun o k _ => ?_) (fun o k h => DG_GB h) (fun hkT1 => ?_)
  · exact GB_t (t := 0) (by omega) o
  · exact DG_t (t := 0) (by omega) o k
  have hg1 : ∀ o, V o → c0 o = ad o := fun o ho => by rw [g0 o (Or.inl ho), f0 o (Or.inl ho), hg0 o ho]
  refine x_aload_n (i := 0) (pc := 100) F dX7_init_100 rfl rfl ?_
  refine kt_new (1, 1, 0) (pc := 101) F dX7_init_101 rfl kw_218 kw_219 kw_77 inx6 tyX6 tyX6_ok (dfX6 _ _) hkT1 (fun h => h.elim (hn _ ⟨v_1 (by omega), by simp⟩) (fun (h : (0 : Int) ≤ 1 ∧ (1 : Int) < 1 ∧ (0 : Int) = 0) => by omega)) rfl (by omega) (by omega) ?_
  intro b1 f1 hkU1 hbU1
  rw [← f1 (0, 0, 0) (Or.inl ho), ← f1 (12, 6, 0) (Or.inr ⟨rfl, rfl⟩)]
  refine x_dup (pc := 104) F dX7_init_104 rfl ?_
  refine x_aload_n (i := 1) (pc := 105) F dX7_init_105 rfl rfl ?_
  refine kt_I (o := (1, 1, 0)) (As := [.ref (b1 (12, 6, 0))]) (pc := 106) F dX7_init_106 lk_X7_59 rfl rfl rfl (by omega) (by omega) (by omega) (by omega) hkU1 (Or.inr rfl) (NT_no hn (by omega)) (c_X6_init (t := 1) (Or.inr (Or.inr rfl)) (Or.inr (Or.inl ⟨rfl, rfl⟩)) (NT_no hn (by omega)) hkU1.1 hbU1) ?_
  intro c1 g1 hkV1
  rw [← g1 (0, 0, 0) (Or.inl ho), ← g1 (12, 6, 0) (Or.inr (Or.inl ⟨rfl, rfl⟩)), ← g1 (1, 1, 0) (Or.inr (Or.inr rfl))]
  refine kt_F (o := (0, 0, 0)) (k := 1) (r := rvO (1, 1, 0)) (Or.inl (Or.inl ⟨rfl, rfl⟩)) hkV1 rfl (fun o' e => by cases e; exact Or.inr (Or.inl (Or.inr rfl))) rfl (pc := 109) F hin2 dX7_init_109 rfl inx7 tyX7 tyX7_ok nmX7 (by decide) kw_308 rfl rfl rfl rfl rfl rfl ?_
  intro hkW1
  refine kt_co (M2 := GB 2 0) (D2 := DG 2 0) hkW1 (fun o => ?_) (fun o k _ => ?_) (fun o k h => DG_GB h) (fun hkT2 => ?_)
  · exact GB_t (t := 1) (by omega) o
  · exact DG_t (t := 1) (by omega) o k
  have hg2 : ∀ o, V o → c1 o = ad o := fun o ho => by rw [g1 o (Or.inl ho), f1 o (Or.inl ho), hg1 o ho]
  refine x_aload_n (i := 0) (pc := 112) F dX7_init_112 rfl rfl ?_
  refine kt_new (1, 2, 0) (pc := 113) F dX7_init_113 rfl kw_218 kw_219 kw_77 inx6 tyX6 tyX6_ok (dfX6 _ _) hkT2 (fun h => h.elim (hn _ ⟨v_1 (by omega), by simp⟩) (fun (h : (0 : Int) ≤ 2 ∧ (2 : Int) < 2 ∧ (0 : Int) = 0) => by omega)) rfl (by omega) (by omega) ?_
  intro b2 f2 hkU2 hbU2
  rw [← f2 (0, 0, 0) (Or.inl ho), ← f2 (12, 6, 0) (Or.inr ⟨rfl, rfl⟩)]
  refine x_dup (pc := 116) F dX7_init_116 rfl ?_
  refine x_aload_n (i := 1) (pc := 117) F dX7_init_117 rfl rfl ?_
  refine kt_I (o := (1, 2, 0)) (As := [.ref (b2 (12, 6, 0))]) (pc := 118) F dX7_init_118 lk_X7_59 rfl rfl rfl (by omega) (by omega) (by omega) (by omega) hkU2 (Or.inr rfl) (NT_no hn (by omega)) (c_X6_init (t := 2) (Or.inr (Or.inr rfl)) (Or.inr (Or.inl ⟨rfl, rfl⟩)) (NT_no hn (by omega)) hkU2.1 hbU2) ?_
  intro c2 g2 hkV2
  rw [← g2 (0, 0, 0) (Or.inl ho), ← g2 (12, 6, 0) (Or.inr (Or.inl ⟨rfl, rfl⟩)), ← g2 (1, 2, 0) (Or.inr (Or.inr rfl))]
  refine kt_F (o := (0, 0, 0)) (k := 2) (r := rvO (1, 2, 0)) (Or.inl (Or.inl ⟨rfl, rfl⟩)) hkV2 rfl (fun o' e => by cases e; exact Or.inr (Or.inl (Or.inr rfl))) rfl (pc := 121) F hin2 dX7_init_121 rfl inx7 tyX7 tyX7_ok nmX7 (by decide) kw_309 rfl rfl rfl rfl rfl rfl ?_
  intro hkW2
  refine kt_co (M2 := GB 3 0) (D2 := DG 3 0) hkW2 (fun o => ?_) (fun o k _ => ?_) (fun o k h => DG_GB h) (fun hkT3 => ?_)
  · exact GB_t (t := 2) (by omega) o
  · exact DG_t (t := 2) (by omega) o k
  have hg3 : ∀ o, V o → c2 o = ad o := fun o ho => by rw [g2 o (Or.inl ho), f2 o (Or.inl ho), hg2 o ho]
  refine x_iconst (pc := 124) F dX7_init_124 ?_
  refine x_istore_n (i := 2) (pc := 125) F dX7_init_125 rfl rfl ?_
  refine x_sub (L' := [(2, .int (I 0)), (0, .ref (c2 (0, 0, 0)))]) ⟨rfl, rfl, trivial⟩ ?_
  refine X7_l ho hn F (fun a3 g3 cs sl h1 h2 hkC => ?_) 6 0 (by omega) (by omega) _ hg3 _ _ (by omega) (by omega) hkT3
  refine kt_R (pc := 151) F dX7_init_151 ho GB_R (fun o hM k hk hd => ?_) g3 hkC (by omega) (by omega)
  match o, hM, k, hk, hd with
  | (0, q, r), h, k, hk, hd =>
    have hk : k < 14 := hk
    rcases (show k = 3 ∨ k = 6 ∨ k = 8 ∨ ((k : Int) < 3 ∨ k = 4 ∨ k = 5 ∨ k = 7 ∨ 9 ≤ k ∧ k ≤ 13) by omega) with rfl | rfl | rfl | h2
    · rfl
    · rfl
    · rfl
    · exact absurd ⟨h, h2⟩ hd
  | (1, q, r), h, k, hk, hd => exact absurd h hd
  | (2, q, r), h, k, hk, hd => exact absurd h hd
  | (3, q, r), h, k, hk, hd => exact absurd h hd
  | (4, q, r), h, k, hk, hd => exact absurd h hd
  | (5, q, r), h, k, hk, hd => exact absurd h hd
  | (6, q, r), h, k, hk, hd => exact absurd h hd
  | (7, q, r), h, k, hk, hd => exact absurd h hd
  | (8, q, r), h, k, hk, hd => exact absurd h hd
  | (9, q, r), h, k, hk, hd => exact absurd h hd
  | (10, q, r), h, k, hk, hd => exact absurd h hd
  | (11, q, r), h, k, hk, hd => exact absurd h hd
  | (12, q, r), h, k, hk, hd => exact absurd h hd
  | (13, q, r), h, k, hk, hd => exact absurd h hd
  | (14, q, r), h, k, hk, hd => exact absurd h hd
  | (15, q, r), h, k, hk, hd => exact absurd h hd
  | (16, q, r), h, k, hk, hd => exact absurd h hd
  | (17, q, r), h, k, hk, hd => rfl
  | (18, q, r), h, k, hk, hd => rfl
  | (19, q, r), h, k, hk, hd =>
    have hk : k < 6 := hk
    exact absurd (show DG 3 6 (19, q, r) k from ⟨h, by omega⟩) hd
  | (20, q, r), h, k, hk, hd => exact absurd h hd
  | (21, q, r), h, k, hk, hd => exact absurd h hd
  | (22, q, r), h, k, hk, hd => rfl
  | (23, q, r), h, k, hk, hd => rfl
