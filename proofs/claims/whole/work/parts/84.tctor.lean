/-! ===== the Town's constructor ===== -/
theorem NT_iff {t : Int} (o : Ob) : MT t 4 6 o ↔ (o = (1, t, 0) ∨ NT t o) := by
  constructor
  · intro h
    obtain ⟨p, q, r⟩ := o
    by_cases hp : p = 1
    · subst hp
      obtain ⟨rfl, rfl⟩ := (show q = t ∧ r = 0 from h)
      exact Or.inl rfl
    · exact Or.inr ⟨h, hp⟩
  · rintro (rfl | h)
    · exact ⟨rfl, rfl⟩
    · exact h.1
theorem X6_l1 {V : Ob → Prop} {ad : Ob → Nat} {κ : Ka} {t : Int} (ho : V (1, t, 0)) (hH : V (12, 6, 0)) (hn : ∀ o, NT t o → ¬ V o) {Γ : Ct} (F : Fx Γ cX6_init "GatesBent$Town" 3 none (ctP V ad κ (NT t) (1, t, 0)) 2 34 183) (kk : ∀ a : Ob → Nat, (∀ o, V o → a o = ad o) → ∀ cs sl, cs = 14 + 2 * 4 → sl = 91 + 5 * 4 → kOK V (MT t 4 0) (DT t 4 0) κ → XX Γ 3 (kW V (MT t 4 0)) a (nv a (kT (MT t 4 0) (DT t 4 0) κ)) cs sl 90 [(0, .ref (a (1, t, 0))), (1, .ref (a (12, 6, 0)))] []) : ∀ m : Nat, ∀ i : Int, 0 ≤ i → i + m = 4 → ∀ a : Ob → Nat, (∀ o, V o → a o = ad o) → ∀ cs sl : Nat, (cs : Int) = 14 + 2 * i → (sl : Int) = 91 + 5 * i → kOK V (MT t i 0) (DT t i 0) κ → XX Γ 3 (kW V (MT t i 0)) a (nv a (kT (MT t i 0) (DT t i 0) κ)) cs sl 66 [(2, .int (I i)), (0, .ref (a (1, t, 0))), (1, .ref (a (12, 6, 0)))] [] := by
  intro m
  induction m with
  | zero =>
    intro i h0 hi a hag cs sl hcs hsl hk
    have hi : i = 4 := by omega
    subst hi
    refine x_iload_n (i := 2) (pc := 66) F dX6_init_66 rfl rfl ?_
    refine x_iconst (pc := 67) F dX6_init_67 ?_
    refine x_icmp_ge (tgt := 90) (pc := 68) F dX6_init_68 rfl (by omega) (fun _ => ?_) (fun hq => ?_)
    · refine x_sub (L' := [(0, .ref (a (1, t, 0))), (1, .ref (a (12, 6, 0)))]) ⟨rfl, rfl, trivial⟩ ?_
      exact kk a hag cs sl (by omega) (by omega) hk
    · exact absurd hq (by decide)
  | succ m ih =>
    intro i h0 hi a hag cs sl hcs hsl hk
    refine x_iload_n (i := 2) (pc := 66) F dX6_init_66 rfl rfl ?_
    refine x_iconst (pc := 67) F dX6_init_67 ?_
    refine x_icmp_ge (tgt := 90) (pc := 68) F dX6_init_68 rfl (by omega) (fun hq => absurd hq (by omega)) (fun _ => ?_)
    refine x_aload_n (i := 0) (pc := 71) F dX6_init_71 rfl rfl ?_
    refine x_get (V := kW V (MT t i 0)) (o := (1, t, 0)) (v := .ref (a (10, t, 0))) (pc := 72) F dX6_init_72 rfl inx6 0 (by decide) kw_256 rfl (Or.inl ho) rfl (by unfold nv; rw [kT_d (o := (1, t, 0)) (k := 0) (M := MT t i 0) (D := DT t i 0) ⟨rfl, rfl⟩ ⟨⟨rfl, rfl⟩, by decide⟩]; rfl) ?_
    refine x_iload_n (i := 2) (pc := 75) F dX6_init_75 rfl rfl ?_
    refine kt_new (2, t, i) (pc := 76) F dX6_init_76 rfl kw_224 kw_124 kw_74 inx1 tyX1 tyX1_ok (dfX1 _ _) hk (fun h => h.elim (hn (2, t, i) ⟨⟨rfl, by omega, by omega⟩, by simp⟩) (fun (h : t = t ∧ 0 ≤ i ∧ i < i) => by omega)) rfl (by omega) (by omega) ?_
    intro a1 e1 hk1 hb1
    rw [← e1 (1, t, 0) (Or.inl ho), ← e1 (12, 6, 0) (Or.inl hH), ← e1 (10, t, 0) (Or.inr ⟨rfl, rfl⟩)]
    refine x_dup (pc := 79) F dX6_init_79 rfl ?_
    refine kt_IN (o := (2, t, i)) (As := []) (pc := 80) F dX6_init_80 lk_X6_42 rfl rfl rfl (by omega) (by omega) (by omega) (by omega) hk1 (Or.inr rfl) (fun o' h => by cases h; exact (fun h => h.elim (hn (3, t, i) ⟨⟨rfl, by omega, by omega⟩, by simp⟩) (fun h => h.elim (fun (h : t = t ∧ 0 ≤ i ∧ i < i) => by omega) (fun e => by cases e)))) (c_X1_init (t := t) (j := i) (Or.inr (Or.inr rfl)) hk1.1 hb1 (fun h => h.elim (hn (3, t, i) ⟨⟨rfl, by omega, by omega⟩, by simp⟩) (fun h => h.elim (fun (h : t = t ∧ 0 ≤ i ∧ i < i) => by omega) (fun e => by cases e)))) ?_
    intro a2 e2 hk2
    rw [← e2 (1, t, 0) (Or.inl ho), ← e2 (12, 6, 0) (Or.inl hH), ← e2 (10, t, 0) (Or.inr (Or.inl ⟨rfl, rfl⟩)), ← e2 (2, t, i) (Or.inr (Or.inr rfl))]
    refine kt_aa (o := (10, t, 0)) (j := i) (ov := (2, t, i)) (Or.inl (Or.inl ⟨rfl, rfl⟩)) hk2 (by show rvO (2, t, ((i.toNat : Nat) : Int)) = rvO (2, t, i); rw [show ((i.toNat : Nat) : Int) = i by omega]) (pc := 83) F dX6_init_83 rfl (by decide) rfl (Or.inr (Or.inl (Or.inr rfl))) rfl rfl (by omega) ?_
    intro hk3
    refine x_iinc (pc := 84) F dX6_init_84 rfl rfl ?_
    refine kt_co (M2 := MT t (i + 1) 0) (D2 := DT t (i + 1) 0) hk3 (fun o => ?_) (fun o k _ => ?_) (fun o k h => DT_MT h) (fun hk4 => ?_)
    · exact MT_g h0 o
    · exact DT_g h0 o k
    refine x_goto (tgt := 66) (pc := 87) F dX6_init_87 rfl ?_
    refine x_sub (L' := [(2, .int (I (i + 1))), (0, .ref (a2 (1, t, 0))), (1, .ref (a2 (12, 6, 0)))]) ⟨rfl, rfl, rfl, trivial⟩ ?_
    exact ih (i + 1) (by omega) (by omega) a2 (fun o hv => by rw [e2 o (Or.inl hv), e1 o (Or.inl hv), hag o hv]) _ _ (by omega) (by omega) hk4
theorem X6_l2 {V : Ob → Prop} {ad : Ob → Nat} {κ : Ka} {t : Int} (ho : V (1, t, 0)) (hH : V (12, 6, 0)) (hn : ∀ o, NT t o → ¬ V o) {Γ : Ct} (F : Fx Γ cX6_init "GatesBent$Town" 3 none (ctP V ad κ (NT t) (1, t, 0)) 2 34 183) (kk : ∀ a : Ob → Nat, (∀ o, V o → a o = ad o) → ∀ cs sl, cs = 22 + 2 * 6 → sl = 111 + 12 * 6 → kOK V (MT t 4 6) (DT t 4 6) κ → XX Γ 3 (kW V (MT t 4 6)) a (nv a (kT (MT t 4 6) (DT t 4 6) κ)) cs sl 118 [(0, .ref (a (1, t, 0))), (1, .ref (a (12, 6, 0)))] []) : ∀ m : Nat, ∀ i : Int, 0 ≤ i → i + m = 6 → ∀ a : Ob → Nat, (∀ o, V o → a o = ad o) → ∀ cs sl : Nat, (cs : Int) = 22 + 2 * i → (sl : Int) = 111 + 12 * i → kOK V (MT t 4 i) (DT t 4 i) κ → XX Γ 3 (kW V (MT t 4 i)) a (nv a (kT (MT t 4 i) (DT t 4 i) κ)) cs sl 92 [(2, .int (I i)), (0, .ref (a (1, t, 0))), (1, .ref (a (12, 6, 0)))] [] := by
  intro m
  induction m with
  | zero =>
    intro i h0 hi a hag cs sl hcs hsl hk
    have hi : i = 6 := by omega
    subst hi
    refine x_iload_n (i := 2) (pc := 92) F dX6_init_92 rfl rfl ?_
    refine x_bipush (pc := 93) F dX6_init_93 (by decide) ?_
    refine x_icmp_ge (tgt := 118) (pc := 95) F dX6_init_95 rfl (by omega) (fun _ => ?_) (fun hq => ?_)
    · refine x_sub (L' := [(0, .ref (a (1, t, 0))), (1, .ref (a (12, 6, 0)))]) ⟨rfl, rfl, trivial⟩ ?_
      exact kk a hag cs sl (by omega) (by omega) hk
    · exact absurd hq (by decide)
  | succ m ih =>
    intro i h0 hi a hag cs sl hcs hsl hk
    refine x_iload_n (i := 2) (pc := 92) F dX6_init_92 rfl rfl ?_
    refine x_bipush (pc := 93) F dX6_init_93 (by decide) ?_
    refine x_icmp_ge (tgt := 118) (pc := 95) F dX6_init_95 rfl (by omega) (fun hq => absurd hq (by omega)) (fun _ => ?_)
    refine x_aload_n (i := 0) (pc := 98) F dX6_init_98 rfl rfl ?_
    refine x_get (V := kW V (MT t 4 i)) (o := (1, t, 0)) (v := .ref (a (11, t, 0))) (pc := 99) F dX6_init_99 rfl inx6 1 (by decide) kw_258 rfl (Or.inl ho) rfl (by unfold nv; rw [kT_d (o := (1, t, 0)) (k := 1) (M := MT t 4 i) (D := DT t 4 i) ⟨rfl, rfl⟩ ⟨⟨rfl, rfl⟩, by decide⟩]; rfl) ?_
    refine x_iload_n (i := 2) (pc := 102) F dX6_init_102 rfl rfl ?_
    refine kt_new (4, t, i) (pc := 103) F dX6_init_103 rfl kw_226 kw_141 kw_75 inx0 tyX0 tyX0_ok (dfX0 _ _) hk (fun h => h.elim (hn (4, t, i) ⟨⟨rfl, by omega, by omega⟩, by simp⟩) (fun (h : t = t ∧ 0 ≤ i ∧ i < i) => by omega)) rfl (by omega) (by omega) ?_
    intro a1 e1 hk1 hb1
    rw [← e1 (1, t, 0) (Or.inl ho), ← e1 (12, 6, 0) (Or.inl hH), ← e1 (11, t, 0) (Or.inr ⟨rfl, rfl⟩)]
    refine x_dup (pc := 106) F dX6_init_106 rfl ?_
    refine x_iload_n (i := 2) (pc := 107) F dX6_init_107 rfl rfl ?_
    refine kt_I (o := (4, t, i)) (As := [.int (I i)]) (pc := 108) F dX6_init_108 lk_X6_43 rfl rfl rfl (by omega) (by omega) (by omega) (by omega) hk1 (Or.inr rfl) (fun o' h => by cases h; exact (fun h => h.elim (hn (5, t, i) ⟨⟨rfl, by omega, by omega⟩, by simp⟩) (fun h => h.elim (fun (h : t = t ∧ 0 ≤ i ∧ i < i) => by omega) (fun e => by cases e)))) (c_X0_init (t := t) (j := i) (Or.inr (Or.inr rfl)) hk1.1 hb1 (fun h => h.elim (hn (5, t, i) ⟨⟨rfl, by omega, by omega⟩, by simp⟩) (fun h => h.elim (fun (h : t = t ∧ 0 ≤ i ∧ i < i) => by omega) (fun e => by cases e)))) ?_
    intro a2 e2 hk2
    rw [← e2 (1, t, 0) (Or.inl ho), ← e2 (12, 6, 0) (Or.inl hH), ← e2 (11, t, 0) (Or.inr (Or.inl ⟨rfl, rfl⟩)), ← e2 (4, t, i) (Or.inr (Or.inr rfl))]
    refine kt_aa (o := (11, t, 0)) (j := i) (ov := (4, t, i)) (Or.inl (Or.inl ⟨rfl, rfl⟩)) hk2 (by show rvO (4, t, ((i.toNat : Nat) : Int)) = rvO (4, t, i); rw [show ((i.toNat : Nat) : Int) = i by omega]) (pc := 111) F dX6_init_111 rfl (by decide) rfl (Or.inr (Or.inl (Or.inr rfl))) rfl rfl (by omega) ?_
    intro hk3
    refine x_iinc (pc := 112) F dX6_init_112 rfl rfl ?_
    refine kt_co (M2 := MT t 4 (i + 1)) (D2 := DT t 4 (i + 1)) hk3 (fun o => ?_) (fun o k _ => ?_) (fun o k h => DT_MT h) (fun hk4 => ?_)
    · exact MT_c h0 o
    · exact DT_c h0 o k
    refine x_goto (tgt := 92) (pc := 115) F dX6_init_115 rfl ?_
    refine x_sub (L' := [(2, .int (I (i + 1))), (0, .ref (a2 (1, t, 0))), (1, .ref (a2 (12, 6, 0)))]) ⟨rfl, rfl, rfl, trivial⟩ ?_
    exact ih (i + 1) (by omega) (by omega) a2 (fun o hv => by rw [e2 o (Or.inl hv), e1 o (Or.inl hv), hag o hv]) _ _ (by omega) (by omega) hk4
theorem c_X6_init {V : Ob → Prop} {ad : Ob → Nat} {κ : Ka} {t : Int} (ho : V (1, t, 0)) (hH : V (12, 6, 0)) (hn : ∀ o, NT t o → ¬ V o) (hc : clo V κ) (h0 : ∀ k, k < nsl (1, t, 0) → κ (1, t, 0) k = dfl (1, t, 0) k) : ∀ (l : Launch) (E : Ev) (A : Nat → Prop), ctor l E 2 m_X6_init A V ad κ (NT t) (1, t, 0) [.ref (ad (1, t, 0)), .ref (ad (12, 6, 0))] 34 183 := by
  intro l E A
  have r0 : rsz 0 = 5 := rfl
  have r1 : rsz 1 = 10 := rfl
  have r2 : rsz 2 = 8 := rfl
  refine conI (own := "GatesBent$Town") (by decide +kernel) rfl rfl rfl rfl (fun Γ F hin2 => ?_)
  refine kt_0 (1, t, 0) hc ho h0 (fun hk0 => ?_)
  refine x_aload_n (i := 0) (pc := 0) F dX6_init_0 rfl rfl ?_
  refine x_objI (pc := 1) F dX6_init_1 kw_223 (by omega) rfl ?_
  refine x_aload_n (i := 0) (pc := 4) F dX6_init_4 rfl rfl ?_
  refine x_iconst (pc := 5) F dX6_init_5 ?_
  refine kt_Q (ti := 4) (10, t, 0) (pc := 6) F dX6_init_6 rfl (by decide) kw_224 (by decide +kernel) (fun _ => rfl) hk0 (fun h => h.elim (hn (10, t, 0) ⟨⟨rfl, by decide⟩, by simp⟩) (by simp)) rfl rfl (by decide) (by omega) (by omega) ?_
  intro a1 e1 hk1
  rw [← e1 (1, t, 0) (Or.inr (by simp))]
  rw [← e1 (12, 6, 0) (Or.inl hH)]
  refine kt_F (o := (1, t, 0)) (k := 0) (r := rvO (10, t, 0)) (by simp) hk1 rfl (fun o' e => by cases e; exact Or.inr (by simp)) rfl (pc := 9) F hin2 dX6_init_9 rfl inx6 tyX6 tyX6_ok nmX6 (by decide) kw_256 rfl rfl rfl rfl rfl rfl ?_
  intro hk2
  refine x_aload_n (i := 0) (pc := 12) F dX6_init_12 rfl rfl ?_
  refine x_bipush (pc := 13) F dX6_init_13 (by decide) ?_
  refine kt_Q (ti := 5) (11, t, 0) (pc := 15) F dX6_init_15 rfl (by decide) kw_226 (by decide +kernel) (fun _ => rfl) hk2 (fun h => h.elim (hn (11, t, 0) ⟨⟨rfl, by decide⟩, by simp⟩) (by simp)) rfl rfl (by decide) (by omega) (by omega) ?_
  intro a3 e3 hk3
  rw [← e3 (1, t, 0) (Or.inr (by simp))]
  rw [← e3 (12, 6, 0) (Or.inl hH)]
  refine kt_F (o := (1, t, 0)) (k := 1) (r := rvO (11, t, 0)) (by simp) hk3 rfl (fun o' e => by cases e; exact Or.inr (by simp)) rfl (pc := 18) F hin2 dX6_init_18 rfl inx6 tyX6 tyX6_ok nmX6 (by decide) kw_258 rfl rfl rfl rfl rfl rfl ?_
  intro hk4
  refine x_aload_n (i := 0) (pc := 21) F dX6_init_21 rfl rfl ?_
  refine kt_new (6, t, 0) (pc := 22) F dX6_init_22 rfl kw_228 kw_229 kw_78 inx4 tyX4 tyX4_ok (dfX4 _ _) hk4 (fun h => h.elim (hn (6, t, 0) ⟨⟨rfl, by decide, by decide⟩, by simp⟩) (by simp)) rfl (by omega) (by omega) ?_
  intro a5 e5 hk5 hb5
  rw [← e5 (1, t, 0) (Or.inr (by simp))]
  rw [← e5 (12, 6, 0) (Or.inl hH)]
  refine x_dup (pc := 25) F dX6_init_25 rfl ?_
  refine x_iconst (pc := 26) F dX6_init_26 ?_
  refine kt_I (o := (6, t, 0)) (As := [.int (I 5)]) (pc := 27) F dX6_init_27 lk_X6_25 rfl rfl rfl (by omega) (by omega) (by omega) (by omega) hk5 (by simp) (fun o' h => by
      rcases h with rfl | rfl | rfl
      · exact (fun h => h.elim (hn (7, t, 0) ⟨⟨rfl, by decide, by decide⟩, by simp⟩) (by simp))
      · exact (fun h => h.elim (hn (8, t, 0) ⟨⟨rfl, by decide, by decide⟩, by simp⟩) (by simp))
      · exact (fun h => h.elim (hn (9, t, 0) ⟨⟨rfl, by decide, by decide⟩, by simp⟩) (by simp))) (c_X4_init (t := t) (j := 0) (z := 5) (Or.inr (by simp)) hk5.1 hb5 (fun h => h.elim (hn (7, t, 0) ⟨⟨rfl, by decide, by decide⟩, by simp⟩) (by simp)) (fun h => h.elim (hn (8, t, 0) ⟨⟨rfl, by decide, by decide⟩, by simp⟩) (by simp)) (fun h => h.elim (hn (9, t, 0) ⟨⟨rfl, by decide, by decide⟩, by simp⟩) (by simp)) rfl) ?_
  intro a6 e6 hk6
  rw [← e6 (1, t, 0) (Or.inr (by simp))]
  rw [← e6 (12, 6, 0) (Or.inl hH)]
  rw [← e6 (6, t, 0) (Or.inr (by simp))]
  refine kt_F (o := (1, t, 0)) (k := 2) (r := rvO (6, t, 0)) (by simp) hk6 rfl (fun o' e => by cases e; exact Or.inr (by simp)) rfl (pc := 30) F hin2 dX6_init_30 rfl inx6 tyX6 tyX6_ok nmX6 (by decide) kw_260 rfl rfl rfl rfl rfl rfl ?_
  intro hk7
  refine x_aload_n (i := 0) (pc := 33) F dX6_init_33 rfl rfl ?_
  refine kt_new (6, t, 1) (pc := 34) F dX6_init_34 rfl kw_228 kw_229 kw_78 inx4 tyX4 tyX4_ok (dfX4 _ _) hk7 (fun h => h.elim (hn (6, t, 1) ⟨⟨rfl, by decide, by decide⟩, by simp⟩) (by simp)) rfl (by omega) (by omega) ?_
  intro a8 e8 hk8 hb8
  rw [← e8 (1, t, 0) (Or.inr (by simp))]
  rw [← e8 (12, 6, 0) (Or.inl hH)]
  refine x_dup (pc := 37) F dX6_init_37 rfl ?_
  refine x_bipush (pc := 38) F dX6_init_38 (by decide) ?_
  refine kt_I (o := (6, t, 1)) (As := [.int (I 10)]) (pc := 40) F dX6_init_40 lk_X6_25 rfl rfl rfl (by omega) (by omega) (by omega) (by omega) hk8 (by simp) (fun o' h => by
      rcases h with rfl | rfl | rfl
      · exact (fun h => h.elim (hn (7, t, 1) ⟨⟨rfl, by decide, by decide⟩, by simp⟩) (by simp))
      · exact (fun h => h.elim (hn (8, t, 1) ⟨⟨rfl, by decide, by decide⟩, by simp⟩) (by simp))
      · exact (fun h => h.elim (hn (9, t, 1) ⟨⟨rfl, by decide, by decide⟩, by simp⟩) (by simp))) (c_X4_init (t := t) (j := 1) (z := 10) (Or.inr (by simp)) hk8.1 hb8 (fun h => h.elim (hn (7, t, 1) ⟨⟨rfl, by decide, by decide⟩, by simp⟩) (by simp)) (fun h => h.elim (hn (8, t, 1) ⟨⟨rfl, by decide, by decide⟩, by simp⟩) (by simp)) (fun h => h.elim (hn (9, t, 1) ⟨⟨rfl, by decide, by decide⟩, by simp⟩) (by simp)) rfl) ?_
  intro a9 e9 hk9
  rw [← e9 (1, t, 0) (Or.inr (by simp))]
  rw [← e9 (12, 6, 0) (Or.inl hH)]
  rw [← e9 (6, t, 1) (Or.inr (by simp))]
  refine kt_F (o := (1, t, 0)) (k := 3) (r := rvO (6, t, 1)) (by simp) hk9 rfl (fun o' e => by cases e; exact Or.inr (by simp)) rfl (pc := 43) F hin2 dX6_init_43 rfl inx6 tyX6 tyX6_ok nmX6 (by decide) kw_262 rfl rfl rfl rfl rfl rfl ?_
  intro hk10
  refine x_aload_n (i := 0) (pc := 46) F dX6_init_46 rfl rfl ?_
  refine kt_new (6, t, 2) (pc := 47) F dX6_init_47 rfl kw_228 kw_229 kw_78 inx4 tyX4 tyX4_ok (dfX4 _ _) hk10 (fun h => h.elim (hn (6, t, 2) ⟨⟨rfl, by decide, by decide⟩, by simp⟩) (by simp)) rfl (by omega) (by omega) ?_
  intro a11 e11 hk11 hb11
  rw [← e11 (1, t, 0) (Or.inr (by simp))]
  rw [← e11 (12, 6, 0) (Or.inl hH)]
  refine x_dup (pc := 50) F dX6_init_50 rfl ?_
  refine x_bipush (pc := 51) F dX6_init_51 (by decide) ?_
  refine kt_I (o := (6, t, 2)) (As := [.int (I 8)]) (pc := 53) F dX6_init_53 lk_X6_25 rfl rfl rfl (by omega) (by omega) (by omega) (by omega) hk11 (by simp) (fun o' h => by
      rcases h with rfl | rfl | rfl
      · exact (fun h => h.elim (hn (7, t, 2) ⟨⟨rfl, by decide, by decide⟩, by simp⟩) (by simp))
      · exact (fun h => h.elim (hn (8, t, 2) ⟨⟨rfl, by decide, by decide⟩, by simp⟩) (by simp))
      · exact (fun h => h.elim (hn (9, t, 2) ⟨⟨rfl, by decide, by decide⟩, by simp⟩) (by simp))) (c_X4_init (t := t) (j := 2) (z := 8) (Or.inr (by simp)) hk11.1 hb11 (fun h => h.elim (hn (7, t, 2) ⟨⟨rfl, by decide, by decide⟩, by simp⟩) (by simp)) (fun h => h.elim (hn (8, t, 2) ⟨⟨rfl, by decide, by decide⟩, by simp⟩) (by simp)) (fun h => h.elim (hn (9, t, 2) ⟨⟨rfl, by decide, by decide⟩, by simp⟩) (by simp)) rfl) ?_
  intro a12 e12 hk12
  rw [← e12 (1, t, 0) (Or.inr (by simp))]
  rw [← e12 (12, 6, 0) (Or.inl hH)]
  rw [← e12 (6, t, 2) (Or.inr (by simp))]
  refine kt_F (o := (1, t, 0)) (k := 4) (r := rvO (6, t, 2)) (by simp) hk12 rfl (fun o' e => by cases e; exact Or.inr (by simp)) rfl (pc := 56) F hin2 dX6_init_56 rfl inx6 tyX6 tyX6_ok nmX6 (by decide) kw_264 rfl rfl rfl rfl rfl rfl ?_
  intro hk13
  refine x_aload_n (i := 0) (pc := 59) F dX6_init_59 rfl rfl ?_
  refine x_aload_n (i := 1) (pc := 60) F dX6_init_60 rfl rfl ?_
  refine kt_P (o := (1, t, 0)) (k := 7) (r := rvO (12, 6, 0)) (by simp) hk13 rfl (fun o' e => by cases e; exact Or.inl hH) rfl (pc := 61) F dX6_init_61 rfl inx6 tyX6 tyX6_ok nmX6 (by decide) kw_270 rfl rfl rfl rfl rfl ?_
  intro hk14
  refine kt_co (M2 := MT t 0 0) (D2 := DT t 0 0) hk14 (fun o => ?_) (fun o k _ => ?_) (fun o k h => DT_MT h) (fun hkA => ?_)
  · rw [MT_0]
    simp only [or_assoc]
  · rw [DT_0]
    simp only [false_or, or_assoc]
    constructor
    · rintro (⟨h, h2⟩ | h | h | h | h | h | h | h | h | h | h | h | h)
      · rcases (show k = 0 ∨ k = 1 ∨ k = 2 ∨ k = 3 ∨ k = 4 ∨ k = 7 by omega) with rfl | rfl | rfl | rfl | rfl | rfl <;> simp [h]
      all_goals simp [h]
    · intro h
      rcases h with h
      revert h
      rintro (h | h | h | h | h | h | h | h | h | h | h | h | h | h | h | h | h | h) <;> first | (obtain ⟨h, rfl⟩ := h; simp [h]) | simp [h]
  refine x_iconst (pc := 64) F dX6_init_64 ?_
  refine x_istore_n (i := 2) (pc := 65) F dX6_init_65 rfl rfl ?_
  refine x_sub (L' := [(2, .int (I 0)), (0, .ref (a12 (1, t, 0))), (1, .ref (a12 (12, 6, 0)))]) ⟨rfl, rfl, rfl, trivial⟩ ?_
  refine X6_l1 ho hH hn F (fun a2 g2 cs sl h1 h2 hkB => ?_) 4 0 (by omega) (by omega) _ (fun o ho => by rw [e12 o (Or.inl ho), e11 o (Or.inl ho), e9 o (Or.inl ho), e8 o (Or.inl ho), e6 o (Or.inl ho), e5 o (Or.inl ho), e3 o (Or.inl ho), e1 o (Or.inl ho)]) _ _ (by omega) (by omega) hkA
  refine x_iconst (pc := 90) F dX6_init_90 ?_
  refine x_istore_n (i := 2) (pc := 91) F dX6_init_91 rfl rfl ?_
  refine x_sub (L' := [(2, .int (I 0)), (0, .ref (a2 (1, t, 0))), (1, .ref (a2 (12, 6, 0)))]) ⟨rfl, rfl, rfl, trivial⟩ ?_
  refine X6_l2 ho hH hn F (fun a3 g3 cs sl h1 h2 hkC => ?_) 6 0 (by omega) (by omega) _ g2 _ _ (by omega) (by omega) hkB
  refine kt_R (pc := 118) F dX6_init_118 ho (NT_iff) (fun o hM k hk hd => ?_) g3 hkC (by omega) (by omega)
  match o, hM, k, hk, hd with
  | (1, q, r), h, k, hk, hd =>
    have hk : k < 8 := hk
    rcases (show k = 5 ∨ k = 6 ∨ (k < 5 ∨ k = 7) by omega) with rfl | rfl | h2
    · rfl
    · rfl
    · exact absurd ⟨h, h2⟩ hd
  | (2, q, r), h, k, hk, hd => exact absurd h hd
  | (3, q, r), h, k, hk, hd => exact absurd h hd
  | (4, q, r), h, k, hk, hd => exact absurd h hd
  | (5, q, r), h, k, hk, hd => exact absurd h hd
  | (6, q, r), h, k, hk, hd => exact absurd h hd
  | (7, q, r), h, k, hk, hd => exact absurd h hd
  | (8, q, r), h, k, hk, hd => exact absurd h hd
  | (9, q, r), h, k, hk, hd => exact absurd h hd
  | (10, q, r), h, k, hk, hd =>
    have hk : k < 4 := hk
    exact absurd (show DT t 4 6 (10, q, r) k from ⟨h, by omega⟩) hd
  | (11, q, r), h, k, hk, hd =>
    have hk : k < 6 := hk
    exact absurd (show DT t 4 6 (11, q, r) k from ⟨h, by omega⟩) hd
