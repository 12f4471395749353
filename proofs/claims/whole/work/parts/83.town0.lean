/-! ===== a Town's objects ===== -/
/-- ng gates, nc comers made -/
def MT (t ng nc : Int) : Ob → Prop
  | (1, q, r) => q = t ∧ r = 0
  | (2, q, r) => q = t ∧ 0 ≤ r ∧ r < ng
  | (3, q, r) => q = t ∧ 0 ≤ r ∧ r < ng
  | (4, q, r) => q = t ∧ 0 ≤ r ∧ r < nc
  | (5, q, r) => q = t ∧ 0 ≤ r ∧ r < nc
  | (6, q, r) => q = t ∧ 0 ≤ r ∧ r < 3
  | (7, q, r) => q = t ∧ 0 ≤ r ∧ r < 3
  | (8, q, r) => q = t ∧ 0 ≤ r ∧ r < 3
  | (9, q, r) => q = t ∧ 0 ≤ r ∧ r < 3
  | (10, q, r) => q = t ∧ r = 0
  | (11, q, r) => q = t ∧ r = 0
  | _ => False
def DT (t ng nc : Int) : Ob → Nat → Prop
  | (1, q, r), k => (q = t ∧ r = 0) ∧ (k < 5 ∨ k = 7)
  | (10, q, r), k => (q = t ∧ r = 0) ∧ (k : Int) < ng
  | (11, q, r), k => (q = t ∧ r = 0) ∧ (k : Int) < nc
  | o, _ => MT t ng nc o
def NT (t : Int) (o : Ob) : Prop := MT t 4 6 o ∧ o.1 ≠ 1
theorem DT_MT {t ng nc : Int} : ∀ {o : Ob} {k : Nat}, DT t ng nc o k → MT t ng nc o
  | (0, _, _), _, h => h
  | (1, _, _), _, h => h.1
  | (2, _, _), _, h => h
  | (3, _, _), _, h => h
  | (4, _, _), _, h => h
  | (5, _, _), _, h => h
  | (6, _, _), _, h => h
  | (7, _, _), _, h => h
  | (8, _, _), _, h => h
  | (9, _, _), _, h => h
  | (10, _, _), _, h => h.1
  | (11, _, _), _, h => h.1
  | (_ + 12, _, _), _, h => h
theorem ne_tag {a b : Nat} {q r q2 r2 : Int} (h : a ≠ b) : ((a, q, r) : Ob) = (b, q2, r2) ↔ False := ⟨fun e => h (by cases e; rfl), False.elim⟩
theorem eq_tag {a : Nat} {q r q2 r2 : Int} : ((a, q, r) : Ob) = (a, q2, r2) ↔ q = q2 ∧ r = r2 := ⟨fun e => by cases e; exact ⟨rfl, rfl⟩, fun h => by rw [h.1, h.2]⟩
theorem or_ff (a : Prop) : a ↔ ((a ∨ False) ∨ False) := by simp
theorem rg_1 {q r t n : Int} (hn : 0 ≤ n) : (q = t ∧ 0 ≤ r ∧ r < n + 1) ↔ ((q = t ∧ 0 ≤ r ∧ r < n) ∨ (q = t ∧ r = n)) := by omega
theorem MT_gg {t ng ng2 nc : Int} : ∀ {o : Ob}, o.1 ≠ 2 → o.1 ≠ 3 → (MT t ng nc o ↔ MT t ng2 nc o)
  | (0, _, _), _, _ => Iff.rfl
  | (1, _, _), _, _ => Iff.rfl
  | (2, _, _), h, _ => absurd rfl h
  | (3, _, _), _, h => absurd rfl h
  | (4, _, _), _, _ => Iff.rfl
  | (5, _, _), _, _ => Iff.rfl
  | (6, _, _), _, _ => Iff.rfl
  | (7, _, _), _, _ => Iff.rfl
  | (8, _, _), _, _ => Iff.rfl
  | (9, _, _), _, _ => Iff.rfl
  | (10, _, _), _, _ => Iff.rfl
  | (11, _, _), _, _ => Iff.rfl
  | (_ + 12, _, _), _, _ => Iff.rfl
theorem MT_cc {t ng nc nc2 : Int} : ∀ {o : Ob}, o.1 ≠ 4 → o.1 ≠ 5 → (MT t ng nc o ↔ MT t ng nc2 o)
  | (0, _, _), _, _ => Iff.rfl
  | (1, _, _), _, _ => Iff.rfl
  | (2, _, _), _, _ => Iff.rfl
  | (3, _, _), _, _ => Iff.rfl
  | (4, _, _), h, _ => absurd rfl h
  | (5, _, _), _, h => absurd rfl h
  | (6, _, _), _, _ => Iff.rfl
  | (7, _, _), _, _ => Iff.rfl
  | (8, _, _), _, _ => Iff.rfl
  | (9, _, _), _, _ => Iff.rfl
  | (10, _, _), _, _ => Iff.rfl
  | (11, _, _), _, _ => Iff.rfl
  | (_ + 12, _, _), _, _ => Iff.rfl
theorem DT_o {t ng nc : Int} : ∀ {o : Ob} {k : Nat}, o.1 ≠ 1 → o.1 ≠ 10 → o.1 ≠ 11 → (DT t ng nc o k ↔ MT t ng nc o)
  | (0, _, _), _, _, _, _ => Iff.rfl
  | (1, _, _), _, h, _, _ => absurd rfl h
  | (2, _, _), _, _, _, _ => Iff.rfl
  | (3, _, _), _, _, _, _ => Iff.rfl
  | (4, _, _), _, _, _, _ => Iff.rfl
  | (5, _, _), _, _, _, _ => Iff.rfl
  | (6, _, _), _, _, _, _ => Iff.rfl
  | (7, _, _), _, _, _, _ => Iff.rfl
  | (8, _, _), _, _, _, _ => Iff.rfl
  | (9, _, _), _, _, _, _ => Iff.rfl
  | (10, _, _), _, _, h, _ => absurd rfl h
  | (11, _, _), _, _, _, h => absurd rfl h
  | (_ + 12, _, _), _, _, _, _ => Iff.rfl
theorem MT_g {t g c : Int} (h : 0 ≤ g) (o : Ob) : MT t (g + 1) c o ↔ ((MT t g c o ∨ o = (2, t, g)) ∨ o = (3, t, g)) := by
  obtain ⟨p, q, r⟩ := o
  by_cases h2 : p = 2
  · subst h2
    rw [eq_tag, ne_tag (by decide), or_false]
    exact rg_1 h
  · by_cases h3 : p = 3
    · subst h3
      rw [eq_tag, ne_tag (by decide), or_false]
      exact rg_1 h
    · rw [ne_tag h2, ne_tag h3, or_false, or_false]
      exact MT_gg h2 h3
theorem MT_c {t g c : Int} (h : 0 ≤ c) (o : Ob) : MT t g (c + 1) o ↔ ((MT t g c o ∨ o = (4, t, c)) ∨ o = (5, t, c)) := by
  obtain ⟨p, q, r⟩ := o
  by_cases h2 : p = 4
  · subst h2
    rw [eq_tag, ne_tag (by decide), or_false]
    exact rg_1 h
  · by_cases h3 : p = 5
    · subst h3
      rw [eq_tag, ne_tag (by decide), or_false]
      exact rg_1 h
    · rw [ne_tag h2, ne_tag h3, or_false, or_false]
      exact MT_cc h2 h3
theorem DT_g {t g c : Int} (h : 0 ≤ g) (o : Ob) (k : Nat) : DT t (g + 1) c o k ↔ ((DT t g c o k ∨ (o = (2, t, g) ∨ o = (3, t, g))) ∨ (o = (10, t, 0) ∧ k = g.toNat)) := by
  obtain ⟨p, q, r⟩ := o
  by_cases h1 : p = 10
  · subst h1
    rw [eq_tag, ne_tag (by decide), ne_tag (by decide), or_false, or_false]
    show ((q = t ∧ r = 0) ∧ (k : Int) < g + 1) ↔ ((q = t ∧ r = 0) ∧ (k : Int) < g) ∨ _
    omega
  · rw [ne_tag h1, false_and, or_false]
    by_cases h4 : p = 1
    · subst h4
      rw [ne_tag (by decide), ne_tag (by decide), or_false, or_false]
      exact Iff.rfl
    · by_cases h5 : p = 11
      · subst h5
        rw [ne_tag (by decide), ne_tag (by decide), or_false, or_false]
        exact Iff.rfl
      · rw [DT_o h4 h1 h5, DT_o h4 h1 h5, ← or_assoc]
        exact MT_g h _
theorem DT_c {t g c : Int} (h : 0 ≤ c) (o : Ob) (k : Nat) : DT t g (c + 1) o k ↔ ((DT t g c o k ∨ (o = (4, t, c) ∨ o = (5, t, c))) ∨ (o = (11, t, 0) ∧ k = c.toNat)) := by
  obtain ⟨p, q, r⟩ := o
  by_cases h1 : p = 11
  · subst h1
    rw [eq_tag, ne_tag (by decide), ne_tag (by decide), or_false, or_false]
    show ((q = t ∧ r = 0) ∧ (k : Int) < c + 1) ↔ ((q = t ∧ r = 0) ∧ (k : Int) < c) ∨ _
    omega
  · rw [ne_tag h1, false_and, or_false]
    by_cases h4 : p = 1
    · subst h4
      rw [ne_tag (by decide), ne_tag (by decide), or_false, or_false]
      exact Iff.rfl
    · by_cases h5 : p = 10
      · subst h5
        rw [ne_tag (by decide), ne_tag (by decide), or_false, or_false]
        exact Iff.rfl
      · rw [DT_o h4 h5 h1, DT_o h4 h5 h1, ← or_assoc]
        exact MT_c h _
theorem MT_0 {t : Int} (o : Ob) : MT t 0 0 o ↔ (o = (1, t, 0) ∨ o = (10, t, 0) ∨ o = (11, t, 0) ∨ o = (6, t, 0) ∨ o = (7, t, 0) ∨ o = (8, t, 0) ∨ o = (9, t, 0) ∨ o = (6, t, 1) ∨ o = (7, t, 1) ∨ o = (8, t, 1) ∨ o = (9, t, 1) ∨ o = (6, t, 2) ∨ o = (7, t, 2) ∨ o = (8, t, 2) ∨ o = (9, t, 2)) := by
  constructor
  · intro h
    match o, h with
    | (1, q, r), h => obtain ⟨rfl, rfl⟩ := h; simp
    | (2, q, r), h => exact absurd h.2 (by omega)
    | (3, q, r), h => exact absurd h.2 (by omega)
    | (4, q, r), h => exact absurd h.2 (by omega)
    | (5, q, r), h => exact absurd h.2 (by omega)
    | (6, q, r), h => obtain ⟨rfl, h2⟩ := h; rcases (show r = 0 ∨ r = 1 ∨ r = 2 by omega) with rfl | rfl | rfl <;> simp
    | (7, q, r), h => obtain ⟨rfl, h2⟩ := h; rcases (show r = 0 ∨ r = 1 ∨ r = 2 by omega) with rfl | rfl | rfl <;> simp
    | (8, q, r), h => obtain ⟨rfl, h2⟩ := h; rcases (show r = 0 ∨ r = 1 ∨ r = 2 by omega) with rfl | rfl | rfl <;> simp
    | (9, q, r), h => obtain ⟨rfl, h2⟩ := h; rcases (show r = 0 ∨ r = 1 ∨ r = 2 by omega) with rfl | rfl | rfl <;> simp
    | (10, q, r), h => obtain ⟨rfl, rfl⟩ := h; simp
    | (11, q, r), h => obtain ⟨rfl, rfl⟩ := h; simp
  · rintro (rfl | rfl | rfl | rfl | rfl | rfl | rfl | rfl | rfl | rfl | rfl | rfl | rfl | rfl | rfl)
    · exact ⟨rfl, rfl⟩
    · exact ⟨rfl, rfl⟩
    · exact ⟨rfl, rfl⟩
    all_goals exact ⟨rfl, by decide, by decide⟩
theorem DT_0 {t : Int} (o : Ob) (k : Nat) : DT t 0 0 o k ↔ ((o = (1, t, 0) ∧ (k < 5 ∨ k = 7)) ∨ o = (6, t, 0) ∨ o = (7, t, 0) ∨ o = (8, t, 0) ∨ o = (9, t, 0) ∨ o = (6, t, 1) ∨ o = (7, t, 1) ∨ o = (8, t, 1) ∨ o = (9, t, 1) ∨ o = (6, t, 2) ∨ o = (7, t, 2) ∨ o = (8, t, 2) ∨ o = (9, t, 2)) := by
  constructor
  · intro h
    match o, h with
    | (1, q, r), h => obtain ⟨⟨rfl, rfl⟩, h2⟩ := (show (q = t ∧ r = 0) ∧ (k < 5 ∨ k = 7) from h); exact Or.inl ⟨rfl, h2⟩
    | (2, q, r), h => exact absurd (show 0 ≤ r ∧ r < 0 from And.right h) (by omega)
    | (3, q, r), h => exact absurd (show 0 ≤ r ∧ r < 0 from And.right h) (by omega)
    | (4, q, r), h => exact absurd (show 0 ≤ r ∧ r < 0 from And.right h) (by omega)
    | (5, q, r), h => exact absurd (show 0 ≤ r ∧ r < 0 from And.right h) (by omega)
    | (6, q, r), h => obtain ⟨rfl, h2⟩ := (show q = t ∧ 0 ≤ r ∧ r < 3 from h); rcases (show r = 0 ∨ r = 1 ∨ r = 2 by omega) with rfl | rfl | rfl <;> simp
    | (7, q, r), h => obtain ⟨rfl, h2⟩ := (show q = t ∧ 0 ≤ r ∧ r < 3 from h); rcases (show r = 0 ∨ r = 1 ∨ r = 2 by omega) with rfl | rfl | rfl <;> simp
    | (8, q, r), h => obtain ⟨rfl, h2⟩ := (show q = t ∧ 0 ≤ r ∧ r < 3 from h); rcases (show r = 0 ∨ r = 1 ∨ r = 2 by omega) with rfl | rfl | rfl <;> simp
    | (9, q, r), h => obtain ⟨rfl, h2⟩ := (show q = t ∧ 0 ≤ r ∧ r < 3 from h); rcases (show r = 0 ∨ r = 1 ∨ r = 2 by omega) with rfl | rfl | rfl <;> simp
    | (10, q, r), h => exact absurd (show (k : Int) < 0 from And.right h) (by omega)
    | (11, q, r), h => exact absurd (show (k : Int) < 0 from And.right h) (by omega)
  · rintro (⟨rfl, h⟩ | rfl | rfl | rfl | rfl | rfl | rfl | rfl | rfl | rfl | rfl | rfl | rfl)
    · exact ⟨⟨rfl, rfl⟩, h⟩
    all_goals exact ⟨rfl, by decide, by decide⟩
