/-! ===== the leaf constructors ===== -/
theorem lk_L_9 : LkI "GatesBentLaw" 9 m_X7_init 0 := ⟨kw_90, kw_91, kw_72, kw_92, ⟨by decide +kernel, by decide +kernel⟩, by decide +kernel, rfl, rfl, rfl⟩
theorem lk_X7_43 : LkI "GatesBent" 43 m_X0_init 1 := ⟨kw_142, kw_143, kw_75, kw_144, ⟨by decide +kernel, by decide +kernel⟩, by decide +kernel, rfl, rfl, rfl⟩
theorem lk_X7_56 : LkI "GatesBent" 56 m_X2_init 1 := ⟨kw_192, kw_193, kw_76, kw_194, ⟨by decide +kernel, by decide +kernel⟩, by decide +kernel, rfl, rfl, rfl⟩
theorem lk_X7_59 : LkI "GatesBent" 59 m_X6_init 1 := ⟨kw_220, kw_221, kw_77, kw_222, ⟨by decide +kernel, by decide +kernel⟩, by decide +kernel, rfl, rfl, rfl⟩
theorem lk_X6_25 : LkI "GatesBent$Town" 25 m_X4_init 1 := ⟨kw_230, kw_231, kw_78, kw_232, ⟨by decide +kernel, by decide +kernel⟩, by decide +kernel, rfl, rfl, rfl⟩
theorem lk_X6_43 : LkI "GatesBent$Town" 43 m_X0_init 1 := ⟨kw_255, kw_143, kw_75, kw_144, ⟨by decide +kernel, by decide +kernel⟩, by decide +kernel, rfl, rfl, rfl⟩
theorem lk_L_12 : LkI "GatesBentLaw" 12 m_X8_init 0 := ⟨kw_822, kw_823, kw_80, kw_824, ⟨by decide +kernel, by decide +kernel⟩, by decide +kernel, rfl, rfl, rfl⟩
theorem lk_X7_11 : LkIN "GatesBent" 11 m_X3_init "GatesBent" 0 := ⟨by decide +kernel, kw_99, kw_73, kw_100, ⟨by decide +kernel, by decide +kernel⟩, by decide +kernel, rfl, rfl, rfl⟩
theorem lk_X7_36 : LkIN "GatesBent" 36 m_X1_init "GatesBent" 0 := ⟨by decide +kernel, kw_126, kw_74, kw_127, ⟨by decide +kernel, by decide +kernel⟩, by decide +kernel, rfl, rfl, rfl⟩
theorem lk_X6_42 : LkIN "GatesBent$Town" 42 m_X1_init "GatesBent" 0 := ⟨by decide +kernel, kw_126, kw_74, kw_127, ⟨by decide +kernel, by decide +kernel⟩, by decide +kernel, rfl, rfl, rfl⟩
theorem lk_X7_72 : LkIN "GatesBent" 72 m_X5_init "GatesBent" 0 := ⟨by decide +kernel, kw_291, kw_79, kw_292, ⟨by decide +kernel, by decide +kernel⟩, by decide +kernel, rfl, rfl, rfl⟩
theorem dfX0 (t j : Int) : ∀ k, k < 8 → ∀ ad : Ob → Nat, defaultValue (tyX0 k) = rval ad (dfl (4, t, j) k) := fun k hk ad => by
  rcases (show k = 0 ∨ k = 1 ∨ k = 2 ∨ k = 3 ∨ k = 4 ∨ k = 5 ∨ k = 6 ∨ k = 7 by omega) with rfl | rfl | rfl | rfl | rfl | rfl | rfl | rfl <;> rfl
theorem dfX1 (t j : Int) : ∀ k, k < 2 → ∀ ad : Ob → Nat, defaultValue (tyX1 k) = rval ad (dfl (2, t, j) k) := fun k hk ad => by
  rcases (show k = 0 ∨ k = 1 by omega) with rfl | rfl <;> rfl
theorem dfX2 (t j : Int) : ∀ k, k < 5 → ∀ ad : Ob → Nat, defaultValue (tyX2 k) = rval ad (dfl (12, t, j) k) := fun k hk ad => by
  rcases (show k = 0 ∨ k = 1 ∨ k = 2 ∨ k = 3 ∨ k = 4 by omega) with rfl | rfl | rfl | rfl | rfl <;> rfl
theorem dfX3 (t j : Int) : ∀ k, k < 4 → ∀ ad : Ob → Nat, defaultValue (tyX3 k) = rval ad (dfl (15, t, j) k) := fun k hk ad => by
  rcases (show k = 0 ∨ k = 1 ∨ k = 2 ∨ k = 3 by omega) with rfl | rfl | rfl | rfl <;> rfl
theorem dfX4 (t j : Int) : ∀ k, k < 4 → ∀ ad : Ob → Nat, defaultValue (tyX4 k) = rval ad (dfl (6, t, j) k) := fun k hk ad => by
  rcases (show k = 0 ∨ k = 1 ∨ k = 2 ∨ k = 3 by omega) with rfl | rfl | rfl | rfl <;> rfl
theorem dfX5 (t j : Int) : ∀ k, k < 3 → ∀ ad : Ob → Nat, defaultValue (tyX5 k) = rval ad (dfl (20, t, j) k) := fun k hk ad => by
  rcases (show k = 0 ∨ k = 1 ∨ k = 2 by omega) with rfl | rfl | rfl <;> rfl
theorem dfX6 (t j : Int) : ∀ k, k < 8 → ∀ ad : Ob → Nat, defaultValue (tyX6 k) = rval ad (dfl (1, t, j) k) := fun k hk ad => by
  rcases (show k = 0 ∨ k = 1 ∨ k = 2 ∨ k = 3 ∨ k = 4 ∨ k = 5 ∨ k = 6 ∨ k = 7 by omega) with rfl | rfl | rfl | rfl | rfl | rfl | rfl | rfl <;> rfl
theorem dfX7 (t j : Int) : ∀ k, k < 14 → ∀ ad : Ob → Nat, defaultValue (tyX7 k) = rval ad (dfl (0, t, j) k) := fun k hk ad => by
  rcases (show k = 0 ∨ k = 1 ∨ k = 2 ∨ k = 3 ∨ k = 4 ∨ k = 5 ∨ k = 6 ∨ k = 7 ∨ k = 8 ∨ k = 9 ∨ k = 10 ∨ k = 11 ∨ k = 12 ∨ k = 13 by omega) with rfl | rfl | rfl | rfl | rfl | rfl | rfl | rfl | rfl | rfl | rfl | rfl | rfl | rfl <;> rfl
theorem dfX8 (t j : Int) : ∀ k, k < 32 → ∀ ad : Ob → Nat, defaultValue (tyX8 k) = rval ad (dfl (30, t, j) k) := fun k hk ad => by
  rcases (show k = 0 ∨ k = 1 ∨ k = 2 ∨ k = 3 ∨ k = 4 ∨ k = 5 ∨ k = 6 ∨ k = 7 ∨ k = 8 ∨ k = 9 ∨ k = 10 ∨ k = 11 ∨ k = 12 ∨ k = 13 ∨ k = 14 ∨ k = 15 ∨ k = 16 ∨ k = 17 ∨ k = 18 ∨ k = 19 ∨ k = 20 ∨ k = 21 ∨ k = 22 ∨ k = 23 ∨ k = 24 ∨ k = 25 ∨ k = 26 ∨ k = 27 ∨ k = 28 ∨ k = 29 ∨ k = 30 ∨ k = 31 by omega) with rfl | rfl | rfl | rfl | rfl | rfl | rfl | rfl | rfl | rfl | rfl | rfl | rfl | rfl | rfl | rfl | rfl | rfl | rfl | rfl | rfl | rfl | rfl | rfl | rfl | rfl | rfl | rfl | rfl | rfl | rfl | rfl <;> rfl
theorem hsz_le (t : Int) : hsz t ≤ 10000 := by unfold hsz; split <;> omega
theorem rsz_le (t : Int) : rsz t ≤ 10000 := by unfold rsz; (repeat' split) <;> omega
theorem c_X0_init {V : Ob → Prop} {ad : Ob → Nat} {κ : Ka} {t j : Int} (ho : V (4, t, j)) (hc : clo V κ) (h0 : ∀ k, k < nsl (4, t, j) → κ (4, t, j) k = dfl (4, t, j) k) (hn0 : ¬ V (5, t, j)) : ∀ (l : Launch) (E : Ev) (A : Nat → Prop), ctor l E 1 m_X0_init A V ad κ (fun o => o = (5, t, j)) (4, t, j) [.ref (ad (4, t, j)), .int (I j)] 1 4 := by
  intro l E A
  refine conI (own := "GatesBent$Comer") (by decide +kernel) rfl rfl rfl rfl (fun Γ F hin2 => ?_)
  refine kt_0 (4, t, j) hc ho h0 (fun hk0 => ?_)
  refine x_aload_n (i := 0) (pc := 0) F dX0_init_0 rfl rfl ?_
  refine x_objI (pc := 1) F dX0_init_1 kw_145 (by omega) rfl ?_
  refine x_aload_n (i := 0) (pc := 4) F dX0_init_4 rfl rfl ?_
  refine x_iconst (pc := 5) F dX0_init_5 ?_
  refine kt_A (ti := 0) (5, t, j) (rvI 0) (pc := 6) F dX0_init_6 rfl (by decide) kw_139 (fun _ => rfl) (fun _ h => by cases h) (fun _ => rfl) hk0 (fun h => h.elim hn0 (by simp)) rfl rfl (by decide) (by omega) (by omega) ?_
  intro a1 e1 hk1
  rw [← e1 (4, t, j) (Or.inr (by simp))]
  refine kt_F (o := (4, t, j)) (k := 7) (r := rvO (5, t, j)) (by simp) hk1 rfl (fun o' e => by cases e; exact Or.inr (by simp)) rfl (pc := 8) F hin2 dX0_init_8 rfl inx0 tyX0 tyX0_ok nmX0 (by decide) kw_171 rfl rfl rfl rfl rfl rfl ?_
  intro hk2
  refine x_aload_n (i := 0) (pc := 11) F dX0_init_11 rfl rfl ?_
  refine x_iload_n (i := 1) (pc := 12) F dX0_init_12 rfl rfl ?_
  refine kt_P (o := (4, t, j)) (k := 0) (r := rvI j) (by simp) hk2 rfl (fun _ e => by cases e) rfl (pc := 13) F dX0_init_13 rfl inx0 tyX0 tyX0_ok nmX0 (by decide) kw_146 rfl rfl rfl rfl rfl ?_
  intro hk3
  refine kt_R (pc := 16) F dX0_init_16 ho (fun o => by simp only [or_assoc]) (fun o hM k hk hd => ?_) (fun o ho => by rw [e1 o (Or.inl ho)]) hk3 (by omega) (by omega)
  try simp only [or_assoc] at hM
  rcases hM with rfl | rfl
  · have hk : k < 8 := hk
    rcases (show k = 0 ∨ k = 1 ∨ k = 2 ∨ k = 3 ∨ k = 4 ∨ k = 5 ∨ k = 6 ∨ k = 7 by omega) with rfl | rfl | rfl | rfl | rfl | rfl | rfl | rfl <;> first | rfl | exact absurd (by simp) hd
  · rfl
theorem c_X1_init {V : Ob → Prop} {ad : Ob → Nat} {κ : Ka} {t j : Int} (ho : V (2, t, j)) (hc : clo V κ) (h0 : ∀ k, k < nsl (2, t, j) → κ (2, t, j) k = dfl (2, t, j) k) (hn0 : ¬ V (3, t, j)) : ∀ (l : Launch) (E : Ev) (A : Nat → Prop), ctor l E 1 m_X1_init A V ad κ (fun o => o = (3, t, j)) (2, t, j) [.ref (ad (2, t, j))] 1 3 := by
  intro l E A
  refine conI (own := "GatesBent$Gate") (by decide +kernel) rfl rfl rfl rfl (fun Γ F hin2 => ?_)
  refine kt_0 (2, t, j) hc ho h0 (fun hk0 => ?_)
  refine x_aload_n (i := 0) (pc := 0) F dX1_init_0 rfl rfl ?_
  refine x_objI (pc := 1) F dX1_init_1 kw_128 (by omega) rfl ?_
  refine x_aload_n (i := 0) (pc := 4) F dX1_init_4 rfl rfl ?_
  refine x_iconst (pc := 5) F dX1_init_5 ?_
  refine kt_A (ti := 0) (3, t, j) (rvI 0) (pc := 6) F dX1_init_6 rfl (by decide) kw_139 (fun _ => rfl) (fun _ h => by cases h) (fun _ => rfl) hk0 (fun h => h.elim hn0 (by simp)) rfl rfl (by decide) (by omega) (by omega) ?_
  intro a1 e1 hk1
  rw [← e1 (2, t, j) (Or.inr (by simp))]
  refine kt_F (o := (2, t, j)) (k := 0) (r := rvO (3, t, j)) (by simp) hk1 rfl (fun o' e => by cases e; exact Or.inr (by simp)) rfl (pc := 8) F hin2 dX1_init_8 rfl inx1 tyX1 tyX1_ok nmX1 (by decide) kw_129 rfl rfl rfl rfl rfl rfl ?_
  intro hk2
  refine kt_R (pc := 11) F dX1_init_11 ho (fun o => by simp only [or_assoc]) (fun o hM k hk hd => ?_) (fun o ho => by rw [e1 o (Or.inl ho)]) hk2 (by omega) (by omega)
  try simp only [or_assoc] at hM
  rcases hM with rfl | rfl
  · have hk : k < 2 := hk
    rcases (show k = 0 ∨ k = 1 by omega) with rfl | rfl <;> first | rfl | exact absurd (by simp) hd
  · rfl
theorem c_X2_init {V : Ob → Prop} {ad : Ob → Nat} {κ : Ka} {t z : Int} (ho : V (12, t, 0)) (hc : clo V κ) (h0 : ∀ k, k < nsl (12, t, 0) → κ (12, t, 0) k = dfl (12, t, 0) k) (hn0 : ¬ V (13, t, 0)) (hn1 : ¬ V (14, t, 0)) (hz : z = hsz t) : ∀ (l : Launch) (E : Ev) (A : Nat → Prop), ctor l E 1 m_X2_init A V ad κ (fun o => o = (13, t, 0) ∨ o = (14, t, 0)) (12, t, 0) [.ref (ad (12, t, 0)), .int (I z)] 2 (hsz t + hsz t) := by
  intro l E A
  refine conI (own := "GatesBent$House") (by decide +kernel) rfl rfl rfl rfl (fun Γ F hin2 => ?_)
  refine kt_0 (12, t, 0) hc ho h0 (fun hk0 => ?_)
  refine x_aload_n (i := 0) (pc := 0) F dX2_init_0 rfl rfl ?_
  refine x_objI (pc := 1) F dX2_init_1 kw_195 (by omega) rfl ?_
  refine x_aload_n (i := 0) (pc := 4) F dX2_init_4 rfl rfl ?_
  refine x_iload_n (i := 1) (pc := 5) F dX2_init_5 rfl rfl ?_
  refine kt_A (ti := 0) (k1 := hsz t) (13, t, 0) (rvI 0) (pc := 6) F dX2_init_6 rfl (by decide) kw_139 (fun _ => rfl) (fun _ h => by cases h) (fun _ => rfl) hk0 (fun h => h.elim hn0 (by simp)) rfl hz (hsz_le t) (by omega) (by omega) ?_
  intro a1 e1 hk1
  rw [← e1 (12, t, 0) (Or.inr (by simp))]
  refine kt_F (o := (12, t, 0)) (k := 0) (r := rvO (13, t, 0)) (by simp) hk1 rfl (fun o' e => by cases e; exact Or.inr (by simp)) rfl (pc := 8) F hin2 dX2_init_8 rfl inx2 tyX2 tyX2_ok nmX2 (by decide) kw_196 rfl rfl rfl rfl rfl rfl ?_
  intro hk2
  refine x_aload_n (i := 0) (pc := 11) F dX2_init_11 rfl rfl ?_
  refine x_iload_n (i := 1) (pc := 12) F dX2_init_12 rfl rfl ?_
  refine kt_A (ti := 0) (k1 := hsz t) (14, t, 0) (rvI 0) (pc := 13) F dX2_init_13 rfl (by decide) kw_139 (fun _ => rfl) (fun _ h => by cases h) (fun _ => rfl) hk2 (fun h => h.elim hn1 (by simp)) rfl hz (hsz_le t) (by omega) (by omega) ?_
  intro a3 e3 hk3
  rw [← e3 (12, t, 0) (Or.inr (by simp))]
  refine kt_F (o := (12, t, 0)) (k := 1) (r := rvO (14, t, 0)) (by simp) hk3 rfl (fun o' e => by cases e; exact Or.inr (by simp)) rfl (pc := 15) F hin2 dX2_init_15 rfl inx2 tyX2 tyX2_ok nmX2 (by decide) kw_197 rfl rfl rfl rfl rfl rfl ?_
  intro hk4
  refine x_aload_n (i := 0) (pc := 18) F dX2_init_18 rfl rfl ?_
  refine x_bipush (pc := 19) F dX2_init_19 (by decide) ?_
  refine kt_P (o := (12, t, 0)) (k := 3) (r := rvI 10) (by simp) hk4 rfl (fun _ e => by cases e) rfl (pc := 21) F dX2_init_21 rfl inx2 tyX2 tyX2_ok nmX2 (by decide) kw_199 rfl rfl rfl rfl rfl ?_
  intro hk5
  refine kt_R (pc := 24) F dX2_init_24 ho (fun o => by simp only [or_assoc]) (fun o hM k hk hd => ?_) (fun o ho => by rw [e3 o (Or.inl ho), e1 o (Or.inl ho)]) hk5 (by omega) (by omega)
  try simp only [or_assoc] at hM
  rcases hM with rfl | rfl | rfl
  · have hk : k < 5 := hk
    rcases (show k = 0 ∨ k = 1 ∨ k = 2 ∨ k = 3 ∨ k = 4 by omega) with rfl | rfl | rfl | rfl | rfl <;> first | rfl | exact absurd (by simp) hd
  · rfl
  · rfl
theorem c_X3_init {V : Ob → Prop} {ad : Ob → Nat} {κ : Ka} {t : Int} (ho : V (15, 0, 0)) (hc : clo V κ) (h0 : ∀ k, k < nsl (15, 0, 0) → κ (15, 0, 0) k = dfl (15, 0, 0) k) (hn0 : ¬ V (16, 0, 0)) : ∀ (l : Launch) (E : Ev) (A : Nat → Prop), ctor l E 1 m_X3_init A V ad κ (fun o => o = (16, 0, 0)) (15, 0, 0) [.ref (ad (15, 0, 0))] 1 100 := by
  intro l E A
  refine conI (own := "GatesBent$Reader") (by decide +kernel) rfl rfl rfl rfl (fun Γ F hin2 => ?_)
  refine kt_0 (15, 0, 0) hc ho h0 (fun hk0 => ?_)
  refine x_aload_n (i := 0) (pc := 0) F dX3_init_0 rfl rfl ?_
  refine x_objI (pc := 1) F dX3_init_1 kw_101 (by omega) rfl ?_
  refine x_aload_n (i := 0) (pc := 4) F dX3_init_4 rfl rfl ?_
  refine x_bipush (pc := 5) F dX3_init_5 (by decide) ?_
  refine kt_A (ti := 2) (16, 0, 0) (rvI 0) (pc := 7) F dX3_init_7 rfl (by decide) kw_118 (fun _ => rfl) (fun _ h => by cases h) (fun _ => rfl) hk0 (fun h => h.elim hn0 (by simp)) rfl rfl (by decide) (by omega) (by omega) ?_
  intro a1 e1 hk1
  rw [← e1 (15, 0, 0) (Or.inr (by simp))]
  refine kt_F (o := (15, 0, 0)) (k := 0) (r := rvO (16, 0, 0)) (by simp) hk1 rfl (fun o' e => by cases e; exact Or.inr (by simp)) rfl (pc := 9) F hin2 dX3_init_9 rfl inx3 tyX3 tyX3_ok nmX3 (by decide) kw_102 rfl rfl rfl rfl rfl rfl ?_
  intro hk2
  refine kt_R (pc := 12) F dX3_init_12 ho (fun o => by simp only [or_assoc]) (fun o hM k hk hd => ?_) (fun o ho => by rw [e1 o (Or.inl ho)]) hk2 (by omega) (by omega)
  try simp only [or_assoc] at hM
  rcases hM with rfl | rfl
  · have hk : k < 4 := hk
    rcases (show k = 0 ∨ k = 1 ∨ k = 2 ∨ k = 3 by omega) with rfl | rfl | rfl | rfl <;> first | rfl | exact absurd (by simp) hd
  · rfl
theorem c_X4_init {V : Ob → Prop} {ad : Ob → Nat} {κ : Ka} {t j z : Int} (ho : V (6, t, j)) (hc : clo V κ) (h0 : ∀ k, k < nsl (6, t, j) → κ (6, t, j) k = dfl (6, t, j) k) (hn0 : ¬ V (7, t, j)) (hn1 : ¬ V (8, t, j)) (hn2 : ¬ V (9, t, j)) (hz : z = rsz j) : ∀ (l : Launch) (E : Ev) (A : Nat → Prop), ctor l E 1 m_X4_init A V ad κ (fun o => o = (7, t, j) ∨ o = (8, t, j) ∨ o = (9, t, j)) (6, t, j) [.ref (ad (6, t, j)), .int (I z)] 3 (rsz j + rsz j + rsz j) := by
  intro l E A
  refine conI (own := "GatesBent$Rows") (by decide +kernel) rfl rfl rfl rfl (fun Γ F hin2 => ?_)
  refine kt_0 (6, t, j) hc ho h0 (fun hk0 => ?_)
  refine x_aload_n (i := 0) (pc := 0) F dX4_init_0 rfl rfl ?_
  refine x_objI (pc := 1) F dX4_init_1 kw_233 (by omega) rfl ?_
  refine x_aload_n (i := 0) (pc := 4) F dX4_init_4 rfl rfl ?_
  refine x_iload_n (i := 1) (pc := 5) F dX4_init_5 rfl rfl ?_
  refine kt_A (ti := 0) (k1 := rsz j) (7, t, j) (rvI 0) (pc := 6) F dX4_init_6 rfl (by decide) kw_139 (fun _ => rfl) (fun _ h => by cases h) (fun _ => rfl) hk0 (fun h => h.elim hn0 (by simp)) rfl hz (rsz_le j) (by omega) (by omega) ?_
  intro a1 e1 hk1
  rw [← e1 (6, t, j) (Or.inr (by simp))]
  refine kt_F (o := (6, t, j)) (k := 0) (r := rvO (7, t, j)) (by simp) hk1 rfl (fun o' e => by cases e; exact Or.inr (by simp)) rfl (pc := 8) F hin2 dX4_init_8 rfl inx4 tyX4 tyX4_ok nmX4 (by decide) kw_234 rfl rfl rfl rfl rfl rfl ?_
  intro hk2
  refine x_aload_n (i := 0) (pc := 11) F dX4_init_11 rfl rfl ?_
  refine x_iload_n (i := 1) (pc := 12) F dX4_init_12 rfl rfl ?_
  refine kt_A (ti := 0) (k1 := rsz j) (8, t, j) (rvI 0) (pc := 13) F dX4_init_13 rfl (by decide) kw_139 (fun _ => rfl) (fun _ h => by cases h) (fun _ => rfl) hk2 (fun h => h.elim hn1 (by simp)) rfl hz (rsz_le j) (by omega) (by omega) ?_
  intro a3 e3 hk3
  rw [← e3 (6, t, j) (Or.inr (by simp))]
  refine kt_F (o := (6, t, j)) (k := 1) (r := rvO (8, t, j)) (by simp) hk3 rfl (fun o' e => by cases e; exact Or.inr (by simp)) rfl (pc := 15) F hin2 dX4_init_15 rfl inx4 tyX4 tyX4_ok nmX4 (by decide) kw_237 rfl rfl rfl rfl rfl rfl ?_
  intro hk4
  refine x_aload_n (i := 0) (pc := 18) F dX4_init_18 rfl rfl ?_
  refine x_iload_n (i := 1) (pc := 19) F dX4_init_19 rfl rfl ?_
  refine kt_A (ti := 0) (k1 := rsz j) (9, t, j) (rvI 0) (pc := 20) F dX4_init_20 rfl (by decide) kw_139 (fun _ => rfl) (fun _ h => by cases h) (fun _ => rfl) hk4 (fun h => h.elim hn2 (by simp)) rfl hz (rsz_le j) (by omega) (by omega) ?_
  intro a5 e5 hk5
  rw [← e5 (6, t, j) (Or.inr (by simp))]
  refine kt_F (o := (6, t, j)) (k := 2) (r := rvO (9, t, j)) (by simp) hk5 rfl (fun o' e => by cases e; exact Or.inr (by simp)) rfl (pc := 22) F hin2 dX4_init_22 rfl inx4 tyX4 tyX4_ok nmX4 (by decide) kw_240 rfl rfl rfl rfl rfl rfl ?_
  intro hk6
  refine kt_R (pc := 25) F dX4_init_25 ho (fun o => by simp only [or_assoc]) (fun o hM k hk hd => ?_) (fun o ho => by rw [e5 o (Or.inl ho), e3 o (Or.inl ho), e1 o (Or.inl ho)]) hk6 (by omega) (by omega)
  try simp only [or_assoc] at hM
  rcases hM with rfl | rfl | rfl | rfl
  · have hk : k < 4 := hk
    rcases (show k = 0 ∨ k = 1 ∨ k = 2 ∨ k = 3 by omega) with rfl | rfl | rfl | rfl <;> first | rfl | exact absurd (by simp) hd
  · rfl
  · rfl
  · rfl
theorem c_X5_init {V : Ob → Prop} {ad : Ob → Nat} {κ : Ka} {t : Int} (ho : V (20, t, 0)) (hc : clo V κ) (h0 : ∀ k, k < nsl (20, t, 0) → κ (20, t, 0) k = dfl (20, t, 0) k) (hn0 : ¬ V (21, t, 0)) : ∀ (l : Launch) (E : Ev) (A : Nat → Prop), ctor l E 1 m_X5_init A V ad κ (fun o => o = (21, t, 0)) (20, t, 0) [.ref (ad (20, t, 0))] 1 60 := by
  intro l E A
  refine conI (own := "GatesBent$Tape") (by decide +kernel) rfl rfl rfl rfl (fun Γ F hin2 => ?_)
  refine kt_0 (20, t, 0) hc ho h0 (fun hk0 => ?_)
  refine x_aload_n (i := 0) (pc := 0) F dX5_init_0 rfl rfl ?_
  refine x_objI (pc := 1) F dX5_init_1 kw_293 (by omega) rfl ?_
  refine x_aload_n (i := 0) (pc := 4) F dX5_init_4 rfl rfl ?_
  refine x_bipush (pc := 5) F dX5_init_5 (by decide) ?_
  refine kt_A (ti := 1) (21, t, 0) (rvJ 0) (pc := 7) F dX5_init_7 rfl (by decide) kw_306 (fun _ => rfl) (fun _ h => by cases h) (fun _ => rfl) hk0 (fun h => h.elim hn0 (by simp)) rfl rfl (by decide) (by omega) (by omega) ?_
  intro a1 e1 hk1
  rw [← e1 (20, t, 0) (Or.inr (by simp))]
  refine kt_F (o := (20, t, 0)) (k := 0) (r := rvO (21, t, 0)) (by simp) hk1 rfl (fun o' e => by cases e; exact Or.inr (by simp)) rfl (pc := 9) F hin2 dX5_init_9 rfl inx5 tyX5 tyX5_ok nmX5 (by decide) kw_294 rfl rfl rfl rfl rfl rfl ?_
  intro hk2
  refine x_aload_n (i := 0) (pc := 12) F dX5_init_12 rfl rfl ?_
  refine x_iconst (pc := 13) F dX5_init_13 ?_
  refine kt_P (o := (20, t, 0)) (k := 1) (r := rvI (-1)) (by simp) hk2 rfl (fun _ e => by cases e) rfl (pc := 14) F dX5_init_14 rfl inx5 tyX5 tyX5_ok nmX5 (by decide) kw_296 rfl rfl rfl rfl rfl ?_
  intro hk3
  refine kt_R (pc := 17) F dX5_init_17 ho (fun o => by simp only [or_assoc]) (fun o hM k hk hd => ?_) (fun o ho => by rw [e1 o (Or.inl ho)]) hk3 (by omega) (by omega)
  try simp only [or_assoc] at hM
  rcases hM with rfl | rfl
  · have hk : k < 3 := hk
    rcases (show k = 0 ∨ k = 1 ∨ k = 2 by omega) with rfl | rfl | rfl <;> first | rfl | exact absurd (by simp) hd
  · rfl
