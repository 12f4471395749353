/-! ===== the GatesBent's constructor ===== -/
def GB (n m : Int) : Ob → Prop
  | (0, q, r) => q = 0 ∧ r = 0
  | (1, q, r) => 0 ≤ q ∧ q < n ∧ r = 0
  | (2, q, r) => 0 ≤ q ∧ q < n ∧ 0 ≤ r ∧ r < 4 ∨ q = 3 ∧ r = 0
  | (3, q, r) => 0 ≤ q ∧ q < n ∧ 0 ≤ r ∧ r < 4 ∨ q = 3 ∧ r = 0
  | (4, q, r) => 0 ≤ q ∧ q < n ∧ 0 ≤ r ∧ r < 6 ∨ q = 3 ∧ r = 0
  | (5, q, r) => 0 ≤ q ∧ q < n ∧ 0 ≤ r ∧ r < 6 ∨ q = 3 ∧ r = 0
  | (6, q, r) => 0 ≤ q ∧ q < n ∧ 0 ≤ r ∧ r < 3
  | (7, q, r) => 0 ≤ q ∧ q < n ∧ 0 ≤ r ∧ r < 3
  | (8, q, r) => 0 ≤ q ∧ q < n ∧ 0 ≤ r ∧ r < 3
  | (9, q, r) => 0 ≤ q ∧ q < n ∧ 0 ≤ r ∧ r < 3
  | (10, q, r) => 0 ≤ q ∧ q < n ∧ r = 0
  | (11, q, r) => 0 ≤ q ∧ q < n ∧ r = 0
  | (12, q, r) => q = 6 ∧ r = 0
  | (13, q, r) => q = 6 ∧ r = 0
  | (14, q, r) => q = 6 ∧ r = 0
  | (15, q, r) => q = 0 ∧ r = 0
  | (16, q, r) => q = 0 ∧ r = 0
  | (17, q, r) => q = 0 ∧ r = 0
  | (18, q, r) => q = 0 ∧ r = 0
  | (19, q, r) => q = 0 ∧ r = 0
  | (20, q, r) => 0 ≤ q ∧ q < m ∧ r = 0
  | (21, q, r) => 0 ≤ q ∧ q < m ∧ r = 0
  | (22, q, r) => q = 0 ∧ r = 0
  | (23, q, r) => q = 0 ∧ r = 0
  | _ => False
def DG (n m : Int) : Ob → Nat → Prop
  | (0, q, r), k => ((q = 0 ∧ r = 0) ∧ ((k : Int) < n ∨ k = 4 ∨ k = 5 ∨ k = 7 ∨ 9 ≤ k ∧ k ≤ 13))
  | (17, _, _), _ => False
  | (18, _, _), _ => False
  | (19, q, r), k => ((q = 0 ∧ r = 0) ∧ (k : Int) < m)
  | (22, _, _), _ => False
  | (23, _, _), _ => False
  | o, _ => GB n m o
def NGo (o : Ob) : Prop := VC 0 o ∧ o.1 ≠ 0
theorem GB_VC : ∀ o : Ob, GB 3 6 o ↔ VC 0 o
  | (0, q, r) => by
    show (q = 0 ∧ r = 0) ↔ (q = 0 ∧ r = 0)
    omega
  | (1, q, r) => by
    show (0 ≤ q ∧ q < 3 ∧ r = 0) ↔ (0 ≤ q ∧ q < 3 ∧ r = 0)
    omega
  | (2, q, r) => by
    show (0 ≤ q ∧ q < 3 ∧ 0 ≤ r ∧ r < 4 ∨ q = 3 ∧ r = 0) ↔ (0 ≤ q ∧ q < 3 ∧ 0 ≤ r ∧ r < 4 ∨ q = 3 ∧ r = 0)
    omega
  | (3, q, r) => by
    show (0 ≤ q ∧ q < 3 ∧ 0 ≤ r ∧ r < 4 ∨ q = 3 ∧ r = 0) ↔ (0 ≤ q ∧ q < 3 ∧ 0 ≤ r ∧ r < 4 ∨ q = 3 ∧ r = 0)
    omega
  | (4, q, r) => by
    show (0 ≤ q ∧ q < 3 ∧ 0 ≤ r ∧ r < 6 ∨ q = 3 ∧ r = 0) ↔ (0 ≤ q ∧ q < 3 ∧ 0 ≤ r ∧ r < 6 ∨ q = 3 ∧ r = 0)
    omega
  | (5, q, r) => by
    show (0 ≤ q ∧ q < 3 ∧ 0 ≤ r ∧ r < 6 ∨ q = 3 ∧ r = 0) ↔ (0 ≤ q ∧ q < 3 ∧ 0 ≤ r ∧ r < 6 ∨ q = 3 ∧ r = 0)
    omega
  | (6, q, r) => by
    show (0 ≤ q ∧ q < 3 ∧ 0 ≤ r ∧ r < 3) ↔ (0 ≤ q ∧ q < 3 ∧ 0 ≤ r ∧ r < 3)
    omega
  | (7, q, r) => by
    show (0 ≤ q ∧ q < 3 ∧ 0 ≤ r ∧ r < 3) ↔ (0 ≤ q ∧ q < 3 ∧ 0 ≤ r ∧ r < 3)
    omega
  | (8, q, r) => by
    show (0 ≤ q ∧ q < 3 ∧ 0 ≤ r ∧ r < 3) ↔ (0 ≤ q ∧ q < 3 ∧ 0 ≤ r ∧ r < 3)
    omega
  | (9, q, r) => by
    show (0 ≤ q ∧ q < 3 ∧ 0 ≤ r ∧ r < 3) ↔ (0 ≤ q ∧ q < 3 ∧ 0 ≤ r ∧ r < 3)
    omega
  | (10, q, r) => by
    show (0 ≤ q ∧ q < 3 ∧ r = 0) ↔ (0 ≤ q ∧ q < 3 ∧ r = 0)
    omega
  | (11, q, r) => by
    show (0 ≤ q ∧ q < 3 ∧ r = 0) ↔ (0 ≤ q ∧ q < 3 ∧ r = 0)
    omega
  | (12, q, r) => by
    show (q = 6 ∧ r = 0) ↔ ((0 ≤ q ∧ q < 0 ∨ q = 6) ∧ r = 0)
    omega
  | (13, q, r) => by
    show (q = 6 ∧ r = 0) ↔ ((0 ≤ q ∧ q < 0 ∨ q = 6) ∧ r = 0)
    omega
  | (14, q, r) => by
    show (q = 6 ∧ r = 0) ↔ ((0 ≤ q ∧ q < 0 ∨ q = 6) ∧ r = 0)
    omega
  | (15, q, r) => by
    show (q = 0 ∧ r = 0) ↔ (q = 0 ∧ r = 0)
    omega
  | (16, q, r) => by
    show (q = 0 ∧ r = 0) ↔ (q = 0 ∧ r = 0)
    omega
  | (17, q, r) => by
    show (q = 0 ∧ r = 0) ↔ (q = 0 ∧ r = 0)
    omega
  | (18, q, r) => by
    show (q = 0 ∧ r = 0) ↔ (q = 0 ∧ r = 0)
    omega
  | (19, q, r) => by
    show (q = 0 ∧ r = 0) ↔ (q = 0 ∧ r = 0)
    omega
  | (20, q, r) => by
    show (0 ≤ q ∧ q < 6 ∧ r = 0) ↔ (0 ≤ q ∧ q < 6 ∧ r = 0)
    omega
  | (21, q, r) => by
    show (0 ≤ q ∧ q < 6 ∧ r = 0) ↔ (0 ≤ q ∧ q < 6 ∧ r = 0)
    omega
  | (22, q, r) => by
    show (q = 0 ∧ r = 0) ↔ (q = 0 ∧ r = 0)
    omega
  | (23, q, r) => by
    show (q = 0 ∧ r = 0) ↔ (q = 0 ∧ r = 0)
    omega
  | (_ + 24, q, r) => Iff.rfl
theorem GB_t {t : Int} (ht : 0 ≤ t) : ∀ o : Ob, GB (t + 1) 0 o ↔ ((GB t 0 o ∨ o = (1, t, 0)) ∨ NT t o)
  | (0, q, r) => by
    show (q = 0 ∧ r = 0) ↔ (((q = 0 ∧ r = 0) ∨ ((0 : Nat), q, r) = (1, t, 0)) ∨ (False ∧ (0 : Nat) ≠ 1))
    simp only [Prod.mk.injEq, Nat.reduceEqDiff, Nat.reduceAdd, true_and, false_and, and_true, and_false, or_false, false_or, ne_eq, not_true_eq_false, not_false_eq_true, iff_false, false_iff, iff_self]
    try omega
  | (1, q, r) => by
    show (0 ≤ q ∧ q < t + 1 ∧ r = 0) ↔ (((0 ≤ q ∧ q < t ∧ r = 0) ∨ ((1 : Nat), q, r) = (1, t, 0)) ∨ ((q = t ∧ r = 0) ∧ (1 : Nat) ≠ 1))
    simp only [Prod.mk.injEq, Nat.reduceEqDiff, Nat.reduceAdd, true_and, false_and, and_true, and_false, or_false, false_or, ne_eq, not_true_eq_false, not_false_eq_true, iff_false, false_iff, iff_self]
    try omega
  | (2, q, r) => by
    show (0 ≤ q ∧ q < t + 1 ∧ 0 ≤ r ∧ r < 4 ∨ q = 3 ∧ r = 0) ↔ (((0 ≤ q ∧ q < t ∧ 0 ≤ r ∧ r < 4 ∨ q = 3 ∧ r = 0) ∨ ((2 : Nat), q, r) = (1, t, 0)) ∨ ((q = t ∧ 0 ≤ r ∧ r < 4) ∧ (2 : Nat) ≠ 1))
    simp only [Prod.mk.injEq, Nat.reduceEqDiff, Nat.reduceAdd, true_and, false_and, and_true, and_false, or_false, false_or, ne_eq, not_true_eq_false, not_false_eq_true, iff_false, false_iff, iff_self]
    try omega
  | (3, q, r) => by
    show (0 ≤ q ∧ q < t + 1 ∧ 0 ≤ r ∧ r < 4 ∨ q = 3 ∧ r = 0) ↔ (((0 ≤ q ∧ q < t ∧ 0 ≤ r ∧ r < 4 ∨ q = 3 ∧ r = 0) ∨ ((3 : Nat), q, r) = (1, t, 0)) ∨ ((q = t ∧ 0 ≤ r ∧ r < 4) ∧ (3 : Nat) ≠ 1))
    simp only [Prod.mk.injEq, Nat.reduceEqDiff, Nat.reduceAdd, true_and, false_and, and_true, and_false, or_false, false_or, ne_eq, not_true_eq_false, not_false_eq_true, iff_false, false_iff, iff_self]
    try omega
  | (4, q, r) => by
    show (0 ≤ q ∧ q < t + 1 ∧ 0 ≤ r ∧ r < 6 ∨ q = 3 ∧ r = 0) ↔ (((0 ≤ q ∧ q < t ∧ 0 ≤ r ∧ r < 6 ∨ q = 3 ∧ r = 0) ∨ ((4 : Nat), q, r) = (1, t, 0)) ∨ ((q = t ∧ 0 ≤ r ∧ r < 6) ∧ (4 : Nat) ≠ 1))
    simp only [Prod.mk.injEq, Nat.reduceEqDiff, Nat.reduceAdd, true_and, false_and, and_true, and_false, or_false, false_or, ne_eq, not_true_eq_false, not_false_eq_true, iff_false, false_iff, iff_self]
    try omega
  | (5, q, r) => by
    show (0 ≤ q ∧ q < t + 1 ∧ 0 ≤ r ∧ r < 6 ∨ q = 3 ∧ r = 0) ↔ (((0 ≤ q ∧ q < t ∧ 0 ≤ r ∧ r < 6 ∨ q = 3 ∧ r = 0) ∨ ((5 : Nat), q, r) = (1, t, 0)) ∨ ((q = t ∧ 0 ≤ r ∧ r < 6) ∧ (5 : Nat) ≠ 1))
    simp only [Prod.mk.injEq, Nat.reduceEqDiff, Nat.reduceAdd, true_and, false_and, and_true, and_false, or_false, false_or, ne_eq, not_true_eq_false, not_false_eq_true, iff_false, false_iff, iff_self]
    try omega
  | (6, q, r) => by
    show (0 ≤ q ∧ q < t + 1 ∧ 0 ≤ r ∧ r < 3) ↔ (((0 ≤ q ∧ q < t ∧ 0 ≤ r ∧ r < 3) ∨ ((6 : Nat), q, r) = (1, t, 0)) ∨ ((q = t ∧ 0 ≤ r ∧ r < 3) ∧ (6 : Nat) ≠ 1))
    simp only [Prod.mk.injEq, Nat.reduceEqDiff, Nat.reduceAdd, true_and, false_and, and_true, and_false, or_false, false_or, ne_eq, not_true_eq_false, not_false_eq_true, iff_false, false_iff, iff_self]
    try omega
  | (7, q, r) => by
    show (0 ≤ q ∧ q < t + 1 ∧ 0 ≤ r ∧ r < 3) ↔ (((0 ≤ q ∧ q < t ∧ 0 ≤ r ∧ r < 3) ∨ ((7 : Nat), q, r) = (1, t, 0)) ∨ ((q = t ∧ 0 ≤ r ∧ r < 3) ∧ (7 : Nat) ≠ 1))
    simp only [Prod.mk.injEq, Nat.reduceEqDiff, Nat.reduceAdd, true_and, false_and, and_true, and_false, or_false, false_or, ne_eq, not_true_eq_false, not_false_eq_true, iff_false, false_iff, iff_self]
    try omega
  | (8, q, r) => by
    show (0 ≤ q ∧ q < t + 1 ∧ 0 ≤ r ∧ r < 3) ↔ (((0 ≤ q ∧ q < t ∧ 0 ≤ r ∧ r < 3) ∨ ((8 : Nat), q, r) = (1, t, 0)) ∨ ((q = t ∧ 0 ≤ r ∧ r < 3) ∧ (8 : Nat) ≠ 1))
    simp only [Prod.mk.injEq, Nat.reduceEqDiff, Nat.reduceAdd, true_and, false_and, and_true, and_false, or_false, false_or, ne_eq, not_true_eq_false, not_false_eq_true, iff_false, false_iff, iff_self]
    try omega
  | (9, q, r) => by
    show (0 ≤ q ∧ q < t + 1 ∧ 0 ≤ r ∧ r < 3) ↔ (((0 ≤ q ∧ q < t ∧ 0 ≤ r ∧ r < 3) ∨ ((9 : Nat), q, r) = (1, t, 0)) ∨ ((q = t ∧ 0 ≤ r ∧ r < 3) ∧ (9 : Nat) ≠ 1))
    simp only [Prod.mk.injEq, Nat.reduceEqDiff, Nat.reduceAdd, true_and, false_and, and_true, and_false, or_false, false_or, ne_eq, not_true_eq_false, not_false_eq_true, iff_false, false_iff, iff_self]
    try omega
  | (10, q, r) => by
    show (0 ≤ q ∧ q < t + 1 ∧ r = 0) ↔ (((0 ≤ q ∧ q < t ∧ r = 0) ∨ ((10 : Nat), q, r) = (1, t, 0)) ∨ ((q = t ∧ r = 0) ∧ (10 : Nat) ≠ 1))
    simp only [Prod.mk.injEq, Nat.reduceEqDiff, Nat.reduceAdd, true_and, false_and, and_true, and_false, or_false, false_or, ne_eq, not_true_eq_false, not_false_eq_true, iff_false, false_iff, iff_self]
    try omega
  | (11, q, r) => by
    show (0 ≤ q ∧ q < t + 1 ∧ r = 0) ↔ (((0 ≤ q ∧ q < t ∧ r = 0) ∨ ((11 : Nat), q, r) = (1, t, 0)) ∨ ((q = t ∧ r = 0) ∧ (11 : Nat) ≠ 1))
    simp only [Prod.mk.injEq, Nat.reduceEqDiff, Nat.reduceAdd, true_and, false_and, and_true, and_false, or_false, false_or, ne_eq, not_true_eq_false, not_false_eq_true, iff_false, false_iff, iff_self]
    try omega
  | (12, q, r) => by
    show (q = 6 ∧ r = 0) ↔ (((q = 6 ∧ r = 0) ∨ ((12 : Nat), q, r) = (1, t, 0)) ∨ (False ∧ (12 : Nat) ≠ 1))
    simp only [Prod.mk.injEq, Nat.reduceEqDiff, Nat.reduceAdd, true_and, false_and, and_true, and_false, or_false, false_or, ne_eq, not_true_eq_false, not_false_eq_true, iff_false, false_iff, iff_self]
    try omega
  | (13, q, r) => by
    show (q = 6 ∧ r = 0) ↔ (((q = 6 ∧ r = 0) ∨ ((13 : Nat), q, r) = (1, t, 0)) ∨ (False ∧ (13 : Nat) ≠ 1))
    simp only [Prod.mk.injEq, Nat.reduceEqDiff, Nat.reduceAdd, true_and, false_and, and_true, and_false, or_false, false_or, ne_eq, not_true_eq_false, not_false_eq_true, iff_false, false_iff, iff_self]
    try omega
  | (14, q, r) => by
    show (q = 6 ∧ r = 0) ↔ (((q = 6 ∧ r = 0) ∨ ((14 : Nat), q, r) = (1, t, 0)) ∨ (False ∧ (14 : Nat) ≠ 1))
    simp only [Prod.mk.injEq, Nat.reduceEqDiff, Nat.reduceAdd, true_and, false_and, and_true, and_false, or_false, false_or, ne_eq, not_true_eq_false, not_false_eq_true, iff_false, false_iff, iff_self]
    try omega
  | (15, q, r) => by
    show (q = 0 ∧ r = 0) ↔ (((q = 0 ∧ r = 0) ∨ ((15 : Nat), q, r) = (1, t, 0)) ∨ (False ∧ (15 : Nat) ≠ 1))
    simp only [Prod.mk.injEq, Nat.reduceEqDiff, Nat.reduceAdd, true_and, false_and, and_true, and_false, or_false, false_or, ne_eq, not_true_eq_false, not_false_eq_true, iff_false, false_iff, iff_self]
    try omega
  | (16, q, r) => by
    show (q = 0 ∧ r = 0) ↔ (((q = 0 ∧ r = 0) ∨ ((16 : Nat), q, r) = (1, t, 0)) ∨ (False ∧ (16 : Nat) ≠ 1))
    simp only [Prod.mk.injEq, Nat.reduceEqDiff, Nat.reduceAdd, true_and, false_and, and_true, and_false, or_false, false_or, ne_eq, not_true_eq_false, not_false_eq_true, iff_false, false_iff, iff_self]
    try omega
  | (17, q, r) => by
    show (q = 0 ∧ r = 0) ↔ (((q = 0 ∧ r = 0) ∨ ((17 : Nat), q, r) = (1, t, 0)) ∨ (False ∧ (17 : Nat) ≠ 1))
    simp only [Prod.mk.injEq, Nat.reduceEqDiff, Nat.reduceAdd, true_and, false_and, and_true, and_false, or_false, false_or, ne_eq, not_true_eq_false, not_false_eq_true, iff_false, false_iff, iff_self]
    try omega
  | (18, q, r) => by
    show (q = 0 ∧ r = 0) ↔ (((q = 0 ∧ r = 0) ∨ ((18 : Nat), q, r) = (1, t, 0)) ∨ (False ∧ (18 : Nat) ≠ 1))
    simp only [Prod.mk.injEq, Nat.reduceEqDiff, Nat.reduceAdd, true_and, false_and, and_true, and_false, or_false, false_or, ne_eq, not_true_eq_false, not_false_eq_true, iff_false, false_iff, iff_self]
    try omega
  | (19, q, r) => by
    show (q = 0 ∧ r = 0) ↔ (((q = 0 ∧ r = 0) ∨ ((19 : Nat), q, r) = (1, t, 0)) ∨ (False ∧ (19 : Nat) ≠ 1))
    simp only [Prod.mk.injEq, Nat.reduceEqDiff, Nat.reduceAdd, true_and, false_and, and_true, and_false, or_false, false_or, ne_eq, not_true_eq_false, not_false_eq_true, iff_false, false_iff, iff_self]
    try omega
  | (20, q, r) => by
    show (0 ≤ q ∧ q < 0 ∧ r = 0) ↔ (((0 ≤ q ∧ q < 0 ∧ r = 0) ∨ ((20 : Nat), q, r) = (1, t, 0)) ∨ (False ∧ (20 : Nat) ≠ 1))
    simp only [Prod.mk.injEq, Nat.reduceEqDiff, Nat.reduceAdd, true_and, false_and, and_true, and_false, or_false, false_or, ne_eq, not_true_eq_false, not_false_eq_true, iff_false, false_iff, iff_self]
    try omega
  | (21, q, r) => by
    show (0 ≤ q ∧ q < 0 ∧ r = 0) ↔ (((0 ≤ q ∧ q < 0 ∧ r = 0) ∨ ((21 : Nat), q, r) = (1, t, 0)) ∨ (False ∧ (21 : Nat) ≠ 1))
    simp only [Prod.mk.injEq, Nat.reduceEqDiff, Nat.reduceAdd, true_and, false_and, and_true, and_false, or_false, false_or, ne_eq, not_true_eq_false, not_false_eq_true, iff_false, false_iff, iff_self]
    try omega
  | (22, q, r) => by
    show (q = 0 ∧ r = 0) ↔ (((q = 0 ∧ r = 0) ∨ ((22 : Nat), q, r) = (1, t, 0)) ∨ (False ∧ (22 : Nat) ≠ 1))
    simp only [Prod.mk.injEq, Nat.reduceEqDiff, Nat.reduceAdd, true_and, false_and, and_true, and_false, or_false, false_or, ne_eq, not_true_eq_false, not_false_eq_true, iff_false, false_iff, iff_self]
    try omega
  | (23, q, r) => by
    show (q = 0 ∧ r = 0) ↔ (((q = 0 ∧ r = 0) ∨ ((23 : Nat), q, r) = (1, t, 0)) ∨ (False ∧ (23 : Nat) ≠ 1))
    simp only [Prod.mk.injEq, Nat.reduceEqDiff, Nat.reduceAdd, true_and, false_and, and_true, and_false, or_false, false_or, ne_eq, not_true_eq_false, not_false_eq_true, iff_false, false_iff, iff_self]
    try omega
  | (p + 24, q, r) => by
    show False ↔ ((False ∨ ((p + 24 : Nat), q, r) = (1, t, 0)) ∨ (False ∧ (p + 24 : Nat) ≠ 1))
    simp only [Prod.mk.injEq, Nat.reduceEqDiff, Nat.reduceAdd, true_and, false_and, and_true, and_false, or_false, false_or, ne_eq, not_true_eq_false, not_false_eq_true, iff_false, false_iff, iff_self]
    try omega
theorem DG_t {t : Int} (ht : 0 ≤ t) : ∀ (o : Ob) (k : Nat), DG (t + 1) 0 o k ↔ ((DG t 0 o k ∨ (o = (1, t, 0) ∨ NT t o)) ∨ (o = (0, 0, 0) ∧ k = t.toNat))
  | (0, q, r), k => by
    show ((q = 0 ∧ r = 0) ∧ ((k : Int) < t + 1 ∨ k = 4 ∨ k = 5 ∨ k = 7 ∨ 9 ≤ k ∧ k ≤ 13)) ↔ ((((q = 0 ∧ r = 0) ∧ ((k : Int) < t ∨ k = 4 ∨ k = 5 ∨ k = 7 ∨ 9 ≤ k ∧ k ≤ 13)) ∨ (((0 : Nat), q, r) = (1, t, 0) ∨ (False ∧ (0 : Nat) ≠ 1))) ∨ (((0 : Nat), q, r) = (0, 0, 0) ∧ k = t.toNat))
    simp only [Prod.mk.injEq, Nat.reduceEqDiff, Nat.reduceAdd, true_and, false_and, and_true, and_false, or_false, false_or, ne_eq, not_true_eq_false, not_false_eq_true, iff_false, false_iff, iff_self]
    try omega
  | (1, q, r), k => by
    show (0 ≤ q ∧ q < t + 1 ∧ r = 0) ↔ (((0 ≤ q ∧ q < t ∧ r = 0) ∨ (((1 : Nat), q, r) = (1, t, 0) ∨ ((q = t ∧ r = 0) ∧ (1 : Nat) ≠ 1))) ∨ (((1 : Nat), q, r) = (0, 0, 0) ∧ k = t.toNat))
    simp only [Prod.mk.injEq, Nat.reduceEqDiff, Nat.reduceAdd, true_and, false_and, and_true, and_false, or_false, false_or, ne_eq, not_true_eq_false, not_false_eq_true, iff_false, false_iff, iff_self]
    try omega
  | (2, q, r), k => by
    show (0 ≤ q ∧ q < t + 1 ∧ 0 ≤ r ∧ r < 4 ∨ q = 3 ∧ r = 0) ↔ (((0 ≤ q ∧ q < t ∧ 0 ≤ r ∧ r < 4 ∨ q = 3 ∧ r = 0) ∨ (((2 : Nat), q, r) = (1, t, 0) ∨ ((q = t ∧ 0 ≤ r ∧ r < 4) ∧ (2 : Nat) ≠ 1))) ∨ (((2 : Nat), q, r) = (0, 0, 0) ∧ k = t.toNat))
    simp only [Prod.mk.injEq, Nat.reduceEqDiff, Nat.reduceAdd, true_and, false_and, and_true, and_false, or_false, false_or, ne_eq, not_true_eq_false, not_false_eq_true, iff_false, false_iff, iff_self]
    try omega
  | (3, q, r), k => by
    show (0 ≤ q ∧ q < t + 1 ∧ 0 ≤ r ∧ r < 4 ∨ q = 3 ∧ r = 0) ↔ (((0 ≤ q ∧ q < t ∧ 0 ≤ r ∧ r < 4 ∨ q = 3 ∧ r = 0) ∨ (((3 : Nat), q, r) = (1, t, 0) ∨ ((q = t ∧ 0 ≤ r ∧ r < 4) ∧ (3 : Nat) ≠ 1))) ∨ (((3 : Nat), q, r) = (0, 0, 0) ∧ k = t.toNat))
    simp only [Prod.mk.injEq, Nat.reduceEqDiff, Nat.reduceAdd, true_and, false_and, and_true, and_false, or_false, false_or, ne_eq, not_true_eq_false, not_false_eq_true, iff_false, false_iff, iff_self]
    try omega
  | (4, q, r), k => by
    show (0 ≤ q ∧ q < t + 1 ∧ 0 ≤ r ∧ r < 6 ∨ q = 3 ∧ r = 0) ↔ (((0 ≤ q ∧ q < t ∧ 0 ≤ r ∧ r < 6 ∨ q = 3 ∧ r = 0) ∨ (((4 : Nat), q, r) = (1, t, 0) ∨ ((q = t ∧ 0 ≤ r ∧ r < 6) ∧ (4 : Nat) ≠ 1))) ∨ (((4 : Nat), q, r) = (0, 0, 0) ∧ k = t.toNat))
    simp only [Prod.mk.injEq, Nat.reduceEqDiff, Nat.reduceAdd, true_and, false_and, and_true, and_false, or_false, false_or, ne_eq, not_true_eq_false, not_false_eq_true, iff_false, false_iff, iff_self]
    try omega
  | (5, q, r), k => by
    show (0 ≤ q ∧ q < t + 1 ∧ 0 ≤ r ∧ r < 6 ∨ q = 3 ∧ r = 0) ↔ (((0 ≤ q ∧ q < t ∧ 0 ≤ r ∧ r < 6 ∨ q = 3 ∧ r = 0) ∨ (((5 : Nat), q, r) = (1, t, 0) ∨ ((q = t ∧ 0 ≤ r ∧ r < 6) ∧ (5 : Nat) ≠ 1))) ∨ (((5 : Nat), q, r) = (0, 0, 0) ∧ k = t.toNat))
    simp only [Prod.mk.injEq, Nat.reduceEqDiff, Nat.reduceAdd, true_and, false_and, and_true, and_false, or_false, false_or, ne_eq, not_true_eq_false, not_false_eq_true, iff_false, false_iff, iff_self]
    try omega
  | (6, q, r), k => by
    show (0 ≤ q ∧ q < t + 1 ∧ 0 ≤ r ∧ r < 3) ↔ (((0 ≤ q ∧ q < t ∧ 0 ≤ r ∧ r < 3) ∨ (((6 : Nat), q, r) = (1, t, 0) ∨ ((q = t ∧ 0 ≤ r ∧ r < 3) ∧ (6 : Nat) ≠ 1))) ∨ (((6 : Nat), q, r) = (0, 0, 0) ∧ k = t.toNat))
    simp only [Prod.mk.injEq, Nat.reduceEqDiff, Nat.reduceAdd, true_and, false_and, and_true, and_false, or_false, false_or, ne_eq, not_true_eq_false, not_false_eq_true, iff_false, false_iff, iff_self]
    try omega
  | (7, q, r), k => by
    show (0 ≤ q ∧ q < t + 1 ∧ 0 ≤ r ∧ r < 3) ↔ (((0 ≤ q ∧ q < t ∧ 0 ≤ r ∧ r < 3) ∨ (((7 : Nat), q, r) = (1, t, 0) ∨ ((q = t ∧ 0 ≤ r ∧ r < 3) ∧ (7 : Nat) ≠ 1))) ∨ (((7 : Nat), q, r) = (0, 0, 0) ∧ k = t.toNat))
    simp only [Prod.mk.injEq, Nat.reduceEqDiff, Nat.reduceAdd, true_and, false_and, and_true, and_false, or_false, false_or, ne_eq, not_true_eq_false, not_false_eq_true, iff_false, false_iff, iff_self]
    try omega
  | (8, q, r), k => by
    show (0 ≤ q ∧ q < t + 1 ∧ 0 ≤ r ∧ r < 3) ↔ (((0 ≤ q ∧ q < t ∧ 0 ≤ r ∧ r < 3) ∨ (((8 : Nat), q, r) = (1, t, 0) ∨ ((q = t ∧ 0 ≤ r ∧ r < 3) ∧ (8 : Nat) ≠ 1))) ∨ (((8 : Nat), q, r) = (0, 0, 0) ∧ k = t.toNat))
    simp only [Prod.mk.injEq, Nat.reduceEqDiff, Nat.reduceAdd, true_and, false_and, and_true, and_false, or_false, false_or, ne_eq, not_true_eq_false, not_false_eq_true, iff_false, false_iff, iff_self]
    try omega
  | (9, q, r), k => by
    show (0 ≤ q ∧ q < t + 1 ∧ 0 ≤ r ∧ r < 3) ↔ (((0 ≤ q ∧ q < t ∧ 0 ≤ r ∧ r < 3) ∨ (((9 : Nat), q, r) = (1, t, 0) ∨ ((q = t ∧ 0 ≤ r ∧ r < 3) ∧ (9 : Nat) ≠ 1))) ∨ (((9 : Nat), q, r) = (0, 0, 0) ∧ k = t.toNat))
    simp only [Prod.mk.injEq, Nat.reduceEqDiff, Nat.reduceAdd, true_and, false_and, and_true, and_false, or_false, false_or, ne_eq, not_true_eq_false, not_false_eq_true, iff_false, false_iff, iff_self]
    try omega
  | (10, q, r), k => by
    show (0 ≤ q ∧ q < t + 1 ∧ r = 0) ↔ (((0 ≤ q ∧ q < t ∧ r = 0) ∨ (((10 : Nat), q, r) = (1, t, 0) ∨ ((q = t ∧ r = 0) ∧ (10 : Nat) ≠ 1))) ∨ (((10 : Nat), q, r) = (0, 0, 0) ∧ k = t.toNat))
    simp only [Prod.mk.injEq, Nat.reduceEqDiff, Nat.reduceAdd, true_and, false_and, and_true, and_false, or_false, false_or, ne_eq, not_true_eq_false, not_false_eq_true, iff_false, false_iff, iff_self]
    try omega
  | (11, q, r), k => by
    show (0 ≤ q ∧ q < t + 1 ∧ r = 0) ↔ (((0 ≤ q ∧ q < t ∧ r = 0) ∨ (((11 : Nat), q, r) = (1, t, 0) ∨ ((q = t ∧ r = 0) ∧ (11 : Nat) ≠ 1))) ∨ (((11 : Nat), q, r) = (0, 0, 0) ∧ k = t.toNat))
    simp only [Prod.mk.injEq, Nat.reduceEqDiff, Nat.reduceAdd, true_and, false_and, and_true, and_false, or_false, false_or, ne_eq, not_true_eq_false, not_false_eq_true, iff_false, false_iff, iff_self]
    try omega
  | (12, q, r), k => by
    show (q = 6 ∧ r = 0) ↔ (((q = 6 ∧ r = 0) ∨ (((12 : Nat), q, r) = (1, t, 0) ∨ (False ∧ (12 : Nat) ≠ 1))) ∨ (((12 : Nat), q, r) = (0, 0, 0) ∧ k = t.toNat))
    simp only [Prod.mk.injEq, Nat.reduceEqDiff, Nat.reduceAdd, true_and, false_and, and_true, and_false, or_false, false_or, ne_eq, not_true_eq_false, not_false_eq_true, iff_false, false_iff, iff_self]
    try omega
  | (13, q, r), k => by
    show (q = 6 ∧ r = 0) ↔ (((q = 6 ∧ r = 0) ∨ (((13 : Nat), q, r) = (1, t, 0) ∨ (False ∧ (13 : Nat) ≠ 1))) ∨ (((13 : Nat), q, r) = (0, 0, 0) ∧ k = t.toNat))
    simp only [Prod.mk.injEq, Nat.reduceEqDiff, Nat.reduceAdd, true_and, false_and, and_true, and_false, or_false, false_or, ne_eq, not_true_eq_false, not_false_eq_true, iff_false, false_iff, iff_self]
    try omega
  | (14, q, r), k => by
    show (q = 6 ∧ r = 0) ↔ (((q = 6 ∧ r = 0) ∨ (((14 : Nat), q, r) = (1, t, 0) ∨ (False ∧ (14 : Nat) ≠ 1))) ∨ (((14 : Nat), q, r) = (0, 0, 0) ∧ k = t.toNat))
    simp only [Prod.mk.injEq, Nat.reduceEqDiff, Nat.reduceAdd, true_and, false_and, and_true, and_false, or_false, false_or, ne_eq, not_true_eq_false, not_false_eq_true, iff_false, false_iff, iff_self]
    try omega
  | (15, q, r), k => by
    show (q = 0 ∧ r = 0) ↔ (((q = 0 ∧ r = 0) ∨ (((15 : Nat), q, r) = (1, t, 0) ∨ (False ∧ (15 : Nat) ≠ 1))) ∨ (((15 : Nat), q, r) = (0, 0, 0) ∧ k = t.toNat))
    simp only [Prod.mk.injEq, Nat.reduceEqDiff, Nat.reduceAdd, true_and, false_and, and_true, and_false, or_false, false_or, ne_eq, not_true_eq_false, not_false_eq_true, iff_false, false_iff, iff_self]
    try omega
  | (16, q, r), k => by
    show (q = 0 ∧ r = 0) ↔ (((q = 0 ∧ r = 0) ∨ (((16 : Nat), q, r) = (1, t, 0) ∨ (False ∧ (16 : Nat) ≠ 1))) ∨ (((16 : Nat), q, r) = (0, 0, 0) ∧ k = t.toNat))
    simp only [Prod.mk.injEq, Nat.reduceEqDiff, Nat.reduceAdd, true_and, false_and, and_true, and_false, or_false, false_or, ne_eq, not_true_eq_false, not_false_eq_true, iff_false, false_iff, iff_self]
    try omega
  | (17, q, r), k => by
    show False ↔ ((False ∨ (((17 : Nat), q, r) = (1, t, 0) ∨ (False ∧ (17 : Nat) ≠ 1))) ∨ (((17 : Nat), q, r) = (0, 0, 0) ∧ k = t.toNat))
    simp only [Prod.mk.injEq, Nat.reduceEqDiff, Nat.reduceAdd, true_and, false_and, and_true, and_false, or_false, false_or, ne_eq, not_true_eq_false, not_false_eq_true, iff_false, false_iff, iff_self]
    try omega
  | (18, q, r), k => by
    show False ↔ ((False ∨ (((18 : Nat), q, r) = (1, t, 0) ∨ (False ∧ (18 : Nat) ≠ 1))) ∨ (((18 : Nat), q, r) = (0, 0, 0) ∧ k = t.toNat))
    simp only [Prod.mk.injEq, Nat.reduceEqDiff, Nat.reduceAdd, true_and, false_and, and_true, and_false, or_false, false_or, ne_eq, not_true_eq_false, not_false_eq_true, iff_false, false_iff, iff_self]
    try omega
  | (19, q, r), k => by
    show ((q = 0 ∧ r = 0) ∧ (k : Int) < 0) ↔ ((((q = 0 ∧ r = 0) ∧ (k : Int) < 0) ∨ (((19 : Nat), q, r) = (1, t, 0) ∨ (False ∧ (19 : Nat) ≠ 1))) ∨ (((19 : Nat), q, r) = (0, 0, 0) ∧ k = t.toNat))
    simp only [Prod.mk.injEq, Nat.reduceEqDiff, Nat.reduceAdd, true_and, false_and, and_true, and_false, or_false, false_or, ne_eq, not_true_eq_false, not_false_eq_true, iff_false, false_iff, iff_self]
    try omega
  | (20, q, r), k => by
    show (0 ≤ q ∧ q < 0 ∧ r = 0) ↔ (((0 ≤ q ∧ q < 0 ∧ r = 0) ∨ (((20 : Nat), q, r) = (1, t, 0) ∨ (False ∧ (20 : Nat) ≠ 1))) ∨ (((20 : Nat), q, r) = (0, 0, 0) ∧ k = t.toNat))
    simp only [Prod.mk.injEq, Nat.reduceEqDiff, Nat.reduceAdd, true_and, false_and, and_true, and_false, or_false, false_or, ne_eq, not_true_eq_false, not_false_eq_true, iff_false, false_iff, iff_self]
    try omega
  | (21, q, r), k => by
    show (0 ≤ q ∧ q < 0 ∧ r = 0) ↔ (((0 ≤ q ∧ q < 0 ∧ r = 0) ∨ (((21 : Nat), q, r) = (1, t, 0) ∨ (False ∧ (21 : Nat) ≠ 1))) ∨ (((21 : Nat), q, r) = (0, 0, 0) ∧ k = t.toNat))
    simp only [Prod.mk.injEq, Nat.reduceEqDiff, Nat.reduceAdd, true_and, false_and, and_true, and_false, or_false, false_or, ne_eq, not_true_eq_false, not_false_eq_true, iff_false, false_iff, iff_self]
    try omega
  | (22, q, r), k => by
    show False ↔ ((False ∨ (((22 : Nat), q, r) = (1, t, 0) ∨ (False ∧ (22 : Nat) ≠ 1))) ∨ (((22 : Nat), q, r) = (0, 0, 0) ∧ k = t.toNat))
    simp only [Prod.mk.injEq, Nat.reduceEqDiff, Nat.reduceAdd, true_and, false_and, and_true, and_false, or_false, false_or, ne_eq, not_true_eq_false, not_false_eq_true, iff_false, false_iff, iff_self]
    try omega
  | (23, q, r), k => by
    show False ↔ ((False ∨ (((23 : Nat), q, r) = (1, t, 0) ∨ (False ∧ (23 : Nat) ≠ 1))) ∨ (((23 : Nat), q, r) = (0, 0, 0) ∧ k = t.toNat))
    simp only [Prod.mk.injEq, Nat.reduceEqDiff, Nat.reduceAdd, true_and, false_and, and_true, and_false, or_false, false_or, ne_eq, not_true_eq_false, not_false_eq_true, iff_false, false_iff, iff_self]
    try omega
  | (p + 24, q, r), k => by
    show False ↔ ((False ∨ (((p + 24 : Nat), q, r) = (1, t, 0) ∨ (False ∧ (p + 24 : Nat) ≠ 1))) ∨ (((p + 24 : Nat), q, r) = (0, 0, 0) ∧ k = t.toNat))
    simp only [Prod.mk.injEq, Nat.reduceEqDiff, Nat.reduceAdd, true_and, false_and, and_true, and_false, or_false, false_or, ne_eq, not_true_eq_false, not_false_eq_true, iff_false, false_iff, iff_self]
    try omega
theorem GB_m {i : Int} (ht : 0 ≤ i) : ∀ o : Ob, GB 3 (i + 1) o ↔ ((GB 3 i o ∨ o = (20, i, 0)) ∨ o = (21, i, 0))
  | (0, q, r) => by
    show (q = 0 ∧ r = 0) ↔ (((q = 0 ∧ r = 0) ∨ ((0 : Nat), q, r) = (20, i, 0)) ∨ ((0 : Nat), q, r) = (21, i, 0))
    simp only [Prod.mk.injEq, Nat.reduceEqDiff, Nat.reduceAdd, true_and, false_and, and_true, and_false, or_false, false_or, ne_eq, not_true_eq_false, not_false_eq_true, iff_false, false_iff, iff_self]
    try omega
  | (1, q, r) => by
    show (0 ≤ q ∧ q < 3 ∧ r = 0) ↔ (((0 ≤ q ∧ q < 3 ∧ r = 0) ∨ ((1 : Nat), q, r) = (20, i, 0)) ∨ ((1 : Nat), q, r) = (21, i, 0))
    simp only [Prod.mk.injEq, Nat.reduceEqDiff, Nat.reduceAdd, true_and, false_and, and_true, and_false, or_false, false_or, ne_eq, not_true_eq_false, not_false_eq_true, iff_false, false_iff, iff_self]
    try omega
  | (2, q, r) => by
    show (0 ≤ q ∧ q < 3 ∧ 0 ≤ r ∧ r < 4 ∨ q = 3 ∧ r = 0) ↔ (((0 ≤ q ∧ q < 3 ∧ 0 ≤ r ∧ r < 4 ∨ q = 3 ∧ r = 0) ∨ ((2 : Nat), q, r) = (20, i, 0)) ∨ ((2 : Nat), q, r) = (21, i, 0))
    simp only [Prod.mk.injEq, Nat.reduceEqDiff, Nat.reduceAdd, true_and, false_and, and_true, and_false, or_false, false_or, ne_eq, not_true_eq_false, not_false_eq_true, iff_false, false_iff, iff_self]
    try omega
  | (3, q, r) => by
    show (0 ≤ q ∧ q < 3 ∧ 0 ≤ r ∧ r < 4 ∨ q = 3 ∧ r = 0) ↔ (((0 ≤ q ∧ q < 3 ∧ 0 ≤ r ∧ r < 4 ∨ q = 3 ∧ r = 0) ∨ ((3 : Nat), q, r) = (20, i, 0)) ∨ ((3 : Nat), q, r) = (21, i, 0))
    simp only [Prod.mk.injEq, Nat.reduceEqDiff, Nat.reduceAdd, true_and, false_and, and_true, and_false, or_false, false_or, ne_eq, not_true_eq_false, not_false_eq_true, iff_false, false_iff, iff_self]
    try omega
  | (4, q, r) => by
    show (0 ≤ q ∧ q < 3 ∧ 0 ≤ r ∧ r < 6 ∨ q = 3 ∧ r = 0) ↔ (((0 ≤ q ∧ q < 3 ∧ 0 ≤ r ∧ r < 6 ∨ q = 3 ∧ r = 0) ∨ ((4 : Nat), q, r) = (20, i, 0)) ∨ ((4 : Nat), q, r) = (21, i, 0))
    simp only [Prod.mk.injEq, Nat.reduceEqDiff, Nat.reduceAdd, true_and, false_and, and_true, and_false, or_false, false_or, ne_eq, not_true_eq_false, not_false_eq_true, iff_false, false_iff, iff_self]
    try omega
  | (5, q, r) => by
    show (0 ≤ q ∧ q < 3 ∧ 0 ≤ r ∧ r < 6 ∨ q = 3 ∧ r = 0) ↔ (((0 ≤ q ∧ q < 3 ∧ 0 ≤ r ∧ r < 6 ∨ q = 3 ∧ r = 0) ∨ ((5 : Nat), q, r) = (20, i, 0)) ∨ ((5 : Nat), q, r) = (21, i, 0))
    simp only [Prod.mk.injEq, Nat.reduceEqDiff, Nat.reduceAdd, true_and, false_and, and_true, and_false, or_false, false_or, ne_eq, not_true_eq_false, not_false_eq_true, iff_false, false_iff, iff_self]
    try omega
  | (6, q, r) => by
    show (0 ≤ q ∧ q < 3 ∧ 0 ≤ r ∧ r < 3) ↔ (((0 ≤ q ∧ q < 3 ∧ 0 ≤ r ∧ r < 3) ∨ ((6 : Nat), q, r) = (20, i, 0)) ∨ ((6 : Nat), q, r) = (21, i, 0))
    simp only [Prod.mk.injEq, Nat.reduceEqDiff, Nat.reduceAdd, true_and, false_and, and_true, and_false, or_false, false_or, ne_eq, not_true_eq_false, not_false_eq_true, iff_false, false_iff, iff_self]
    try omega
  | (7, q, r) => by
    show (0 ≤ q ∧ q < 3 ∧ 0 ≤ r ∧ r < 3) ↔ (((0 ≤ q ∧ q < 3 ∧ 0 ≤ r ∧ r < 3) ∨ ((7 : Nat), q, r) = (20, i, 0)) ∨ ((7 : Nat), q, r) = (21, i, 0))
    simp only [Prod.mk.injEq, Nat.reduceEqDiff, Nat.reduceAdd, true_and, false_and, and_true, and_false, or_false, false_or, ne_eq, not_true_eq_false, not_false_eq_true, iff_false, false_iff, iff_self]
    try omega
  | (8, q, r) => by
    show (0 ≤ q ∧ q < 3 ∧ 0 ≤ r ∧ r < 3) ↔ (((0 ≤ q ∧ q < 3 ∧ 0 ≤ r ∧ r < 3) ∨ ((8 : Nat), q, r) = (20, i, 0)) ∨ ((8 : Nat), q, r) = (21, i, 0))
    simp only [Prod.mk.injEq, Nat.reduceEqDiff, Nat.reduceAdd, true_and, false_and, and_true, and_false, or_false, false_or, ne_eq, not_true_eq_false, not_false_eq_true, iff_false, false_iff, iff_self]
    try omega
  | (9, q, r) => by
    show (0 ≤ q ∧ q < 3 ∧ 0 ≤ r ∧ r < 3) ↔ (((0 ≤ q ∧ q < 3 ∧ 0 ≤ r ∧ r < 3) ∨ ((9 : Nat), q, r) = (20, i, 0)) ∨ ((9 : Nat), q, r) = (21, i, 0))
    simp only [Prod.mk.injEq, Nat.reduceEqDiff, Nat.reduceAdd, true_and, false_and, and_true, and_false, or_false, false_or, ne_eq, not_true_eq_false, not_false_eq_true, iff_false, false_iff, iff_self]
    try omega
  | (10, q, r) => by
    show (0 ≤ q ∧ q < 3 ∧ r = 0) ↔ (((0 ≤ q ∧ q < 3 ∧ r = 0) ∨ ((10 : Nat), q, r) = (20, i, 0)) ∨ ((10 : Nat), q, r) = (21, i, 0))
    simp only [Prod.mk.injEq, Nat.reduceEqDiff, Nat.reduceAdd, true_and, false_and, and_true, and_false, or_false, false_or, ne_eq, not_true_eq_false, not_false_eq_true, iff_false, false_iff, iff_self]
    try omega
  | (11, q, r) => by
    show (0 ≤ q ∧ q < 3 ∧ r = 0) ↔ (((0 ≤ q ∧ q < 3 ∧ r = 0) ∨ ((11 : Nat), q, r) = (20, i, 0)) ∨ ((11 : Nat), q, r) = (21, i, 0))
    simp only [Prod.mk.injEq, Nat.reduceEqDiff, Nat.reduceAdd, true_and, false_and, and_true, and_false, or_false, false_or, ne_eq, not_true_eq_false, not_false_eq_true, iff_false, false_iff, iff_self]
    try omega
  | (12, q, r) => by
    show (q = 6 ∧ r = 0) ↔ (((q = 6 ∧ r = 0) ∨ ((12 : Nat), q, r) = (20, i, 0)) ∨ ((12 : Nat), q, r) = (21, i, 0))
    simp only [Prod.mk.injEq, Nat.reduceEqDiff, Nat.reduceAdd, true_and, false_and, and_true, and_false, or_false, false_or, ne_eq, not_true_eq_false, not_false_eq_true, iff_false, false_iff, iff_self]
    try omega
  | (13, q, r) => by
    show (q = 6 ∧ r = 0) ↔ (((q = 6 ∧ r = 0) ∨ ((13 : Nat), q, r) = (20, i, 0)) ∨ ((13 : Nat), q, r) = (21, i, 0))
    simp only [Prod.mk.injEq, Nat.reduceEqDiff, Nat.reduceAdd, true_and, false_and, and_true, and_false, or_false, false_or, ne_eq, not_true_eq_false, not_false_eq_true, iff_false, false_iff, iff_self]
    try omega
  | (14, q, r) => by
    show (q = 6 ∧ r = 0) ↔ (((q = 6 ∧ r = 0) ∨ ((14 : Nat), q, r) = (20, i, 0)) ∨ ((14 : Nat), q, r) = (21, i, 0))
    simp only [Prod.mk.injEq, Nat.reduceEqDiff, Nat.reduceAdd, true_and, false_and, and_true, and_false, or_false, false_or, ne_eq, not_true_eq_false, not_false_eq_true, iff_false, false_iff, iff_self]
    try omega
  | (15, q, r) => by
    show (q = 0 ∧ r = 0) ↔ (((q = 0 ∧ r = 0) ∨ ((15 : Nat), q, r) = (20, i, 0)) ∨ ((15 : Nat), q, r) = (21, i, 0))
    simp only [Prod.mk.injEq, Nat.reduceEqDiff, Nat.reduceAdd, true_and, false_and, and_true, and_false, or_false, false_or, ne_eq, not_true_eq_false, not_false_eq_true, iff_false, false_iff, iff_self]
    try omega
  | (16, q, r) => by
    show (q = 0 ∧ r = 0) ↔ (((q = 0 ∧ r = 0) ∨ ((16 : Nat), q, r) = (20, i, 0)) ∨ ((16 : Nat), q, r) = (21, i, 0))
    simp only [Prod.mk.injEq, Nat.reduceEqDiff, Nat.reduceAdd, true_and, false_and, and_true, and_false, or_false, false_or, ne_eq, not_true_eq_false, not_false_eq_true, iff_false, false_iff, iff_self]
    try omega
  | (17, q, r) => by
    show (q = 0 ∧ r = 0) ↔ (((q = 0 ∧ r = 0) ∨ ((17 : Nat), q, r) = (20, i, 0)) ∨ ((17 : Nat), q, r) = (21, i, 0))
    simp only [Prod.mk.injEq, Nat.reduceEqDiff, Nat.reduceAdd, true_and, false_and, and_true, and_false, or_false, false_or, ne_eq, not_true_eq_false, not_false_eq_true, iff_false, false_iff, iff_self]
    try omega
  | (18, q, r) => by
    show (q = 0 ∧ r = 0) ↔ (((q = 0 ∧ r = 0) ∨ ((18 : Nat), q, r) = (20, i, 0)) ∨ ((18 : Nat), q, r) = (21, i, 0))
    simp only [Prod.mk.injEq, Nat.reduceEqDiff, Nat.reduceAdd, true_and, false_and, and_true, and_false, or_false, false_or, ne_eq, not_true_eq_false, not_false_eq_true, iff_false, false_iff, iff_self]
    try omega
  | (19, q, r) => by
    show (q = 0 ∧ r = 0) ↔ (((q = 0 ∧ r = 0) ∨ ((19 : Nat), q, r) = (20, i, 0)) ∨ ((19 : Nat), q, r) = (21, i, 0))
    simp only [Prod.mk.injEq, Nat.reduceEqDiff, Nat.reduceAdd, true_and, false_and, and_true, and_false, or_false, false_or, ne_eq, not_true_eq_false, not_false_eq_true, iff_false, false_iff, iff_self]
    try omega
  | (20, q, r) => by
    show (0 ≤ q ∧ q < i + 1 ∧ r = 0) ↔ (((0 ≤ q ∧ q < i ∧ r = 0) ∨ ((20 : Nat), q, r) = (20, i, 0)) ∨ ((20 : Nat), q, r) = (21, i, 0))
    simp only [Prod.mk.injEq, Nat.reduceEqDiff, Nat.reduceAdd, true_and, false_and, and_true, and_false, or_false, false_or, ne_eq, not_true_eq_false, not_false_eq_true, iff_false, false_iff, iff_self]
    try omega
  | (21, q, r) => by
    show (0 ≤ q ∧ q < i + 1 ∧ r = 0) ↔ (((0 ≤ q ∧ q < i ∧ r = 0) ∨ ((21 : Nat), q, r) = (20, i, 0)) ∨ ((21 : Nat), q, r) = (21, i, 0))
    simp only [Prod.mk.injEq, Nat.reduceEqDiff, Nat.reduceAdd, true_and, false_and, and_true, and_false, or_false, false_or, ne_eq, not_true_eq_false, not_false_eq_true, iff_false, false_iff, iff_self]
    try omega
  | (22, q, r) => by
    show (q = 0 ∧ r = 0) ↔ (((q = 0 ∧ r = 0) ∨ ((22 : Nat), q, r) = (20, i, 0)) ∨ ((22 : Nat), q, r) = (21, i, 0))
    simp only [Prod.mk.injEq, Nat.reduceEqDiff, Nat.reduceAdd, true_and, false_and, and_true, and_false, or_false, false_or, ne_eq, not_true_eq_false, not_false_eq_true, iff_false, false_iff, iff_self]
    try omega
  | (23, q, r) => by
    show (q = 0 ∧ r = 0) ↔ (((q = 0 ∧ r = 0) ∨ ((23 : Nat), q, r) = (20, i, 0)) ∨ ((23 : Nat), q, r) = (21, i, 0))
    simp only [Prod.mk.injEq, Nat.reduceEqDiff, Nat.reduceAdd, true_and, false_and, and_true, and_false, or_false, false_or, ne_eq, not_true_eq_false, not_false_eq_true, iff_false, false_iff, iff_self]
    try omega
  | (p + 24, q, r) => by
    show False ↔ ((False ∨ ((p + 24 : Nat), q, r) = (20, i, 0)) ∨ ((p + 24 : Nat), q, r) = (21, i, 0))
    simp only [Prod.mk.injEq, Nat.reduceEqDiff, Nat.reduceAdd, true_and, false_and, and_true, and_false, or_false, false_or, ne_eq, not_true_eq_false, not_false_eq_true, iff_false, false_iff, iff_self]
    try omega
theorem DG_m {i : Int} (ht : 0 ≤ i) : ∀ (o : Ob) (k : Nat), DG 3 (i + 1) o k ↔ ((DG 3 i o k ∨ (o = (20, i, 0) ∨ o = (21, i, 0))) ∨ (o = (19, 0, 0) ∧ k = i.toNat))
  | (0, q, r), k => by
    show ((q = 0 ∧ r = 0) ∧ ((k : Int) < 3 ∨ k = 4 ∨ k = 5 ∨ k = 7 ∨ 9 ≤ k ∧ k ≤ 13)) ↔ ((((q = 0 ∧ r = 0) ∧ ((k : Int) < 3 ∨ k = 4 ∨ k = 5 ∨ k = 7 ∨ 9 ≤ k ∧ k ≤ 13)) ∨ (((0 : Nat), q, r) = (20, i, 0) ∨ ((0 : Nat), q, r) = (21, i, 0))) ∨ (((0 : Nat), q, r) = (19, 0, 0) ∧ k = i.toNat))
    simp only [Prod.mk.injEq, Nat.reduceEqDiff, Nat.reduceAdd, true_and, false_and, and_true, and_false, or_false, false_or, ne_eq, not_true_eq_false, not_false_eq_true, iff_false, false_iff, iff_self]
    try omega
  | (1, q, r), k => by
    show (0 ≤ q ∧ q < 3 ∧ r = 0) ↔ (((0 ≤ q ∧ q < 3 ∧ r = 0) ∨ (((1 : Nat), q, r) = (20, i, 0) ∨ ((1 : Nat), q, r) = (21, i, 0))) ∨ (((1 : Nat), q, r) = (19, 0, 0) ∧ k = i.toNat))
    simp only [Prod.mk.injEq, Nat.reduceEqDiff, Nat.reduceAdd, true_and, false_and, and_true, and_false, or_false, false_or, ne_eq, not_true_eq_false, not_false_eq_true, iff_false, false_iff, iff_self]
    try omega
  | (2, q, r), k => by
    show (0 ≤ q ∧ q < 3 ∧ 0 ≤ r ∧ r < 4 ∨ q = 3 ∧ r = 0) ↔ (((0 ≤ q ∧ q < 3 ∧ 0 ≤ r ∧ r < 4 ∨ q = 3 ∧ r = 0) ∨ (((2 : Nat), q, r) = (20, i, 0) ∨ ((2 : Nat), q, r) = (21, i, 0))) ∨ (((2 : Nat), q, r) = (19, 0, 0) ∧ k = i.toNat))
    simp only [Prod.mk.injEq, Nat.reduceEqDiff, Nat.reduceAdd, true_and, false_and, and_true, and_false, or_false, false_or, ne_eq, not_true_eq_false, not_false_eq_true, iff_false, false_iff, iff_self]
    try omega
  | (3, q, r), k => by
    show (0 ≤ q ∧ q < 3 ∧ 0 ≤ r ∧ r < 4 ∨ q = 3 ∧ r = 0) ↔ (((0 ≤ q ∧ q < 3 ∧ 0 ≤ r ∧ r < 4 ∨ q = 3 ∧ r = 0) ∨ (((3 : Nat), q, r) = (20, i, 0) ∨ ((3 : Nat), q, r) = (21, i, 0))) ∨ (((3 : Nat), q, r) = (19, 0, 0) ∧ k = i.toNat))
    simp only [Prod.mk.injEq, Nat.reduceEqDiff, Nat.reduceAdd, true_and, false_and, and_true, and_false, or_false, false_or, ne_eq, not_true_eq_false, not_false_eq_true, iff_false, false_iff, iff_self]
    try omega
  | (4, q, r), k => by
    show (0 ≤ q ∧ q < 3 ∧ 0 ≤ r ∧ r < 6 ∨ q = 3 ∧ r = 0) ↔ (((0 ≤ q ∧ q < 3 ∧ 0 ≤ r ∧ r < 6 ∨ q = 3 ∧ r = 0) ∨ (((4 : Nat), q, r) = (20, i, 0) ∨ ((4 : Nat), q, r) = (21, i, 0))) ∨ (((4 : Nat), q, r) = (19, 0, 0) ∧ k = i.toNat))
    simp only [Prod.mk.injEq, Nat.reduceEqDiff, Nat.reduceAdd, true_and, false_and, and_true, and_false, or_false, false_or, ne_eq, not_true_eq_false, not_false_eq_true, iff_false, false_iff, iff_self]
    try omega
  | (5, q, r), k => by
    show (0 ≤ q ∧ q < 3 ∧ 0 ≤ r ∧ r < 6 ∨ q = 3 ∧ r = 0) ↔ (((0 ≤ q ∧ q < 3 ∧ 0 ≤ r ∧ r < 6 ∨ q = 3 ∧ r = 0) ∨ (((5 : Nat), q, r) = (20, i, 0) ∨ ((5 : Nat), q, r) = (21, i, 0))) ∨ (((5 : Nat), q, r) = (19, 0, 0) ∧ k = i.toNat))
    simp only [Prod.mk.injEq, Nat.reduceEqDiff, Nat.reduceAdd, true_and, false_and, and_true, and_false, or_false, false_or, ne_eq, not_true_eq_false, not_false_eq_true, iff_false, false_iff, iff_self]
    try omega
  | (6, q, r), k => by
    show (0 ≤ q ∧ q < 3 ∧ 0 ≤ r ∧ r < 3) ↔ (((0 ≤ q ∧ q < 3 ∧ 0 ≤ r ∧ r < 3) ∨ (((6 : Nat), q, r) = (20, i, 0) ∨ ((6 : Nat), q, r) = (21, i, 0))) ∨ (((6 : Nat), q, r) = (19, 0, 0) ∧ k = i.toNat))
    simp only [Prod.mk.injEq, Nat.reduceEqDiff, Nat.reduceAdd, true_and, false_and, and_true, and_false, or_false, false_or, ne_eq, not_true_eq_false, not_false_eq_true, iff_false, false_iff, iff_self]
    try omega
  | (7, q, r), k => by
    show (0 ≤ q ∧ q < 3 ∧ 0 ≤ r ∧ r < 3) ↔ (((0 ≤ q ∧ q < 3 ∧ 0 ≤ r ∧ r < 3) ∨ (((7 : Nat), q, r) = (20, i, 0) ∨ ((7 : Nat), q, r) = (21, i, 0))) ∨ (((7 : Nat), q, r) = (19, 0, 0) ∧ k = i.toNat))
    simp only [Prod.mk.injEq, Nat.reduceEqDiff, Nat.reduceAdd, true_and, false_and, and_true, and_false, or_false, false_or, ne_eq, not_true_eq_false, not_false_eq_true, iff_false, false_iff, iff_self]
    try omega
  | (8, q, r), k => by
    show (0 ≤ q ∧ q < 3 ∧ 0 ≤ r ∧ r < 3) ↔ (((0 ≤ q ∧ q < 3 ∧ 0 ≤ r ∧ r < 3) ∨ (((8 : Nat), q, r) = (20, i, 0) ∨ ((8 : Nat), q, r) = (21, i, 0))) ∨ (((8 : Nat), q, r) = (19, 0, 0) ∧ k = i.toNat))
    simp only [Prod.mk.injEq, Nat.reduceEqDiff, Nat.reduceAdd, true_and, false_and, and_true, and_false, or_false, false_or, ne_eq, not_true_eq_false, not_false_eq_true, iff_false, false_iff, iff_self]
    try omega
  | (9, q, r), k => by
    show (0 ≤ q ∧ q < 3 ∧ 0 ≤ r ∧ r < 3) ↔ (((0 ≤ q ∧ q < 3 ∧ 0 ≤ r ∧ r < 3) ∨ (((9 : Nat), q, r) = (20, i, 0) ∨ ((9 : Nat), q, r) = (21, i, 0))) ∨ (((9 : Nat), q, r) = (19, 0, 0) ∧ k = i.toNat))
    simp only [Prod.mk.injEq, Nat.reduceEqDiff, Nat.reduceAdd, true_and, false_and, and_true, and_false, or_false, false_or, ne_eq, not_true_eq_false, not_false_eq_true, iff_false, false_iff, iff_self]
    try omega
  | (10, q, r), k => by
    show (0 ≤ q ∧ q < 3 ∧ r = 0) ↔ (((0 ≤ q ∧ q < 3 ∧ r = 0) ∨ (((10 : Nat), q, r) = (20, i, 0) ∨ ((10 : Nat), q, r) = (21, i, 0))) ∨ (((10 : Nat), q, r) = (19, 0, 0) ∧ k = i.toNat))
    simp only [Prod.mk.injEq, Nat.reduceEqDiff, Nat.reduceAdd, true_and, false_and, and_true, and_false, or_false, false_or, ne_eq, not_true_eq_false, not_false_eq_true, iff_false, false_iff, iff_self]
    try omega
  | (11, q, r), k => by
    show (0 ≤ q ∧ q < 3 ∧ r = 0) ↔ (((0 ≤ q ∧ q < 3 ∧ r = 0) ∨ (((11 : Nat), q, r) = (20, i, 0) ∨ ((11 : Nat), q, r) = (21, i, 0))) ∨ (((11 : Nat), q, r) = (19, 0, 0) ∧ k = i.toNat))
    simp only [Prod.mk.injEq, Nat.reduceEqDiff, Nat.reduceAdd, true_and, false_and, and_true, and_false, or_false, false_or, ne_eq, not_true_eq_false, not_false_eq_true, iff_false, false_iff, iff_self]
    try omega
  | (12, q, r), k => by
    show (q = 6 ∧ r = 0) ↔ (((q = 6 ∧ r = 0) ∨ (((12 : Nat), q, r) = (20, i, 0) ∨ ((12 : Nat), q, r) = (21, i, 0))) ∨ (((12 : Nat), q, r) = (19, 0, 0) ∧ k = i.toNat))
    simp only [Prod.mk.injEq, Nat.reduceEqDiff, Nat.reduceAdd, true_and, false_and, and_true, and_false, or_false, false_or, ne_eq, not_true_eq_false, not_false_eq_true, iff_false, false_iff, iff_self]
    try omega
  | (13, q, r), k => by
    show (q = 6 ∧ r = 0) ↔ (((q = 6 ∧ r = 0) ∨ (((13 : Nat), q, r) = (20, i, 0) ∨ ((13 : Nat), q, r) = (21, i, 0))) ∨ (((13 : Nat), q, r) = (19, 0, 0) ∧ k = i.toNat))
    simp only [Prod.mk.injEq, Nat.reduceEqDiff, Nat.reduceAdd, true_and, false_and, and_true, and_false, or_false, false_or, ne_eq, not_true_eq_false, not_false_eq_true, iff_false, false_iff, iff_self]
    try omega
  | (14, q, r), k => by
    show (q = 6 ∧ r = 0) ↔ (((q = 6 ∧ r = 0) ∨ (((14 : Nat), q, r) = (20, i, 0) ∨ ((14 : Nat), q, r) = (21, i, 0))) ∨ (((14 : Nat), q, r) = (19, 0, 0) ∧ k = i.toNat))
    simp only [Prod.mk.injEq, Nat.reduceEqDiff, Nat.reduceAdd, true_and, false_and, and_true, and_false, or_false, false_or, ne_eq, not_true_eq_false, not_false_eq_true, iff_false, false_iff, iff_self]
    try omega
  | (15, q, r), k => by
    show (q = 0 ∧ r = 0) ↔ (((q = 0 ∧ r = 0) ∨ (((15 : Nat), q, r) = (20, i, 0) ∨ ((15 : Nat), q, r) = (21, i, 0))) ∨ (((15 : Nat), q, r) = (19, 0, 0) ∧ k = i.toNat))
    simp only [Prod.mk.injEq, Nat.reduceEqDiff, Nat.reduceAdd, true_and, false_and, and_true, and_false, or_false, false_or, ne_eq, not_true_eq_false, not_false_eq_true, iff_false, false_iff, iff_self]
    try omega
  | (16, q, r), k => by
    show (q = 0 ∧ r = 0) ↔ (((q = 0 ∧ r = 0) ∨ (((16 : Nat), q, r) = (20, i, 0) ∨ ((16 : Nat), q, r) = (21, i, 0))) ∨ (((16 : Nat), q, r) = (19, 0, 0) ∧ k = i.toNat))
    simp only [Prod.mk.injEq, Nat.reduceEqDiff, Nat.reduceAdd, true_and, false_and, and_true, and_false, or_false, false_or, ne_eq, not_true_eq_false, not_false_eq_true, iff_false, false_iff, iff_self]
    try omega
  | (17, q, r), k => by
    show False ↔ ((False ∨ (((17 : Nat), q, r) = (20, i, 0) ∨ ((17 : Nat), q, r) = (21, i, 0))) ∨ (((17 : Nat), q, r) = (19, 0, 0) ∧ k = i.toNat))
    simp only [Prod.mk.injEq, Nat.reduceEqDiff, Nat.reduceAdd, true_and, false_and, and_true, and_false, or_false, false_or, ne_eq, not_true_eq_false, not_false_eq_true, iff_false, false_iff, iff_self]
    try omega
  | (18, q, r), k => by
    show False ↔ ((False ∨ (((18 : Nat), q, r) = (20, i, 0) ∨ ((18 : Nat), q, r) = (21, i, 0))) ∨ (((18 : Nat), q, r) = (19, 0, 0) ∧ k = i.toNat))
    simp only [Prod.mk.injEq, Nat.reduceEqDiff, Nat.reduceAdd, true_and, false_and, and_true, and_false, or_false, false_or, ne_eq, not_true_eq_false, not_false_eq_true, iff_false, false_iff, iff_self]
    try omega
  | (19, q, r), k => by
    show ((q = 0 ∧ r = 0) ∧ (k : Int) < i + 1) ↔ ((((q = 0 ∧ r = 0) ∧ (k : Int) < i) ∨ (((19 : Nat), q, r) = (20, i, 0) ∨ ((19 : Nat), q, r) = (21, i, 0))) ∨ (((19 : Nat), q, r) = (19, 0, 0) ∧ k = i.toNat))
    simp only [Prod.mk.injEq, Nat.reduceEqDiff, Nat.reduceAdd, true_and, false_and, and_true, and_false, or_false, false_or, ne_eq, not_true_eq_false, not_false_eq_true, iff_false, false_iff, iff_self]
    try omega
  | (20, q, r), k => by
    show (0 ≤ q ∧ q < i + 1 ∧ r = 0) ↔ (((0 ≤ q ∧ q < i ∧ r = 0) ∨ (((20 : Nat), q, r) = (20, i, 0) ∨ ((20 : Nat), q, r) = (21, i, 0))) ∨ (((20 : Nat), q, r) = (19, 0, 0) ∧ k = i.toNat))
    simp only [Prod.mk.injEq, Nat.reduceEqDiff, Nat.reduceAdd, true_and, false_and, and_true, and_false, or_false, false_or, ne_eq, not_true_eq_false, not_false_eq_true, iff_false, false_iff, iff_self]
    try omega
  | (21, q, r), k => by
    show (0 ≤ q ∧ q < i + 1 ∧ r = 0) ↔ (((0 ≤ q ∧ q < i ∧ r = 0) ∨ (((21 : Nat), q, r) = (20, i, 0) ∨ ((21 : Nat), q, r) = (21, i, 0))) ∨ (((21 : Nat), q, r) = (19, 0, 0) ∧ k = i.toNat))
    simp only [Prod.mk.injEq, Nat.reduceEqDiff, Nat.reduceAdd, true_and, false_and, and_true, and_false, or_false, false_or, ne_eq, not_true_eq_false, not_false_eq_true, iff_false, false_iff, iff_self]
    try omega
  | (22, q, r), k => by
    show False ↔ ((False ∨ (((22 : Nat), q, r) = (20, i, 0) ∨ ((22 : Nat), q, r) = (21, i, 0))) ∨ (((22 : Nat), q, r) = (19, 0, 0) ∧ k = i.toNat))
    simp only [Prod.mk.injEq, Nat.reduceEqDiff, Nat.reduceAdd, true_and, false_and, and_true, and_false, or_false, false_or, ne_eq, not_true_eq_false, not_false_eq_true, iff_false, false_iff, iff_self]
    try omega
  | (23, q, r), k => by
    show False ↔ ((False ∨ (((23 : Nat), q, r) = (20, i, 0) ∨ ((23 : Nat), q, r) = (21, i, 0))) ∨ (((23 : Nat), q, r) = (19, 0, 0) ∧ k = i.toNat))
    simp only [Prod.mk.injEq, Nat.reduceEqDiff, Nat.reduceAdd, true_and, false_and, and_true, and_false, or_false, false_or, ne_eq, not_true_eq_false, not_false_eq_true, iff_false, false_iff, iff_self]
    try omega
  | (p + 24, q, r), k => by
    show False ↔ ((False ∨ (((p + 24 : Nat), q, r) = (20, i, 0) ∨ ((p + 24 : Nat), q, r) = (21, i, 0))) ∨ (((p + 24 : Nat), q, r) = (19, 0, 0) ∧ k = i.toNat))
    simp only [Prod.mk.injEq, Nat.reduceEqDiff, Nat.reduceAdd, true_and, false_and, and_true, and_false, or_false, false_or, ne_eq, not_true_eq_false, not_false_eq_true, iff_false, false_iff, iff_self]
    try omega
theorem GB_0 : ∀ o : Ob, GB 0 0 o ↔ (o = (0, 0, 0) ∨ o = (15, 0, 0) ∨ o = (16, 0, 0) ∨ o = (17, 0, 0) ∨ o = (18, 0, 0) ∨ o = (19, 0, 0) ∨ o = (2, 3, 0) ∨ o = (3, 3, 0) ∨ o = (4, 3, 0) ∨ o = (5, 3, 0) ∨ o = (22, 0, 0) ∨ o = (23, 0, 0) ∨ o = (12, 6, 0) ∨ o = (13, 6, 0) ∨ o = (14, 6, 0))
  | (0, q, r) => by
    show (q = 0 ∧ r = 0) ↔ (((0 : Nat), q, r) = (0, 0, 0) ∨ ((0 : Nat), q, r) = (15, 0, 0) ∨ ((0 : Nat), q, r) = (16, 0, 0) ∨ ((0 : Nat), q, r) = (17, 0, 0) ∨ ((0 : Nat), q, r) = (18, 0, 0) ∨ ((0 : Nat), q, r) = (19, 0, 0) ∨ ((0 : Nat), q, r) = (2, 3, 0) ∨ ((0 : Nat), q, r) = (3, 3, 0) ∨ ((0 : Nat), q, r) = (4, 3, 0) ∨ ((0 : Nat), q, r) = (5, 3, 0) ∨ ((0 : Nat), q, r) = (22, 0, 0) ∨ ((0 : Nat), q, r) = (23, 0, 0) ∨ ((0 : Nat), q, r) = (12, 6, 0) ∨ ((0 : Nat), q, r) = (13, 6, 0) ∨ ((0 : Nat), q, r) = (14, 6, 0))
    simp only [Prod.mk.injEq, Nat.reduceEqDiff, Nat.reduceAdd, true_and, false_and, and_true, and_false, or_false, false_or, ne_eq, not_true_eq_false, not_false_eq_true, iff_false, false_iff, iff_self]
    try omega
  | (1, q, r) => by
    show (0 ≤ q ∧ q < 0 ∧ r = 0) ↔ (((1 : Nat), q, r) = (0, 0, 0) ∨ ((1 : Nat), q, r) = (15, 0, 0) ∨ ((1 : Nat), q, r) = (16, 0, 0) ∨ ((1 : Nat), q, r) = (17, 0, 0) ∨ ((1 : Nat), q, r) = (18, 0, 0) ∨ ((1 : Nat), q, r) = (19, 0, 0) ∨ ((1 : Nat), q, r) = (2, 3, 0) ∨ ((1 : Nat), q, r) = (3, 3, 0) ∨ ((1 : Nat), q, r) = (4, 3, 0) ∨ ((1 : Nat), q, r) = (5, 3, 0) ∨ ((1 : Nat), q, r) = (22, 0, 0) ∨ ((1 : Nat), q, r) = (23, 0, 0) ∨ ((1 : Nat), q, r) = (12, 6, 0) ∨ ((1 : Nat), q, r) = (13, 6, 0) ∨ ((1 : Nat), q, r) = (14, 6, 0))
    simp only [Prod.mk.injEq, Nat.reduceEqDiff, Nat.reduceAdd, true_and, false_and, and_true, and_false, or_false, false_or, ne_eq, not_true_eq_false, not_false_eq_true, iff_false, false_iff, iff_self]
    try omega
  | (2, q, r) => by
    show (0 ≤ q ∧ q < 0 ∧ 0 ≤ r ∧ r < 4 ∨ q = 3 ∧ r = 0) ↔ (((2 : Nat), q, r) = (0, 0, 0) ∨ ((2 : Nat), q, r) = (15, 0, 0) ∨ ((2 : Nat), q, r) = (16, 0, 0) ∨ ((2 : Nat), q, r) = (17, 0, 0) ∨ ((2 : Nat), q, r) = (18, 0, 0) ∨ ((2 : Nat), q, r) = (19, 0, 0) ∨ ((2 : Nat), q, r) = (2, 3, 0) ∨ ((2 : Nat), q, r) = (3, 3, 0) ∨ ((2 : Nat), q, r) = (4, 3, 0) ∨ ((2 : Nat), q, r) = (5, 3, 0) ∨ ((2 : Nat), q, r) = (22, 0, 0) ∨ ((2 : Nat), q, r) = (23, 0, 0) ∨ ((2 : Nat), q, r) = (12, 6, 0) ∨ ((2 : Nat), q, r) = (13, 6, 0) ∨ ((2 : Nat), q, r) = (14, 6, 0))
    simp only [Prod.mk.injEq, Nat.reduceEqDiff, Nat.reduceAdd, true_and, false_and, and_true, and_false, or_false, false_or, ne_eq, not_true_eq_false, not_false_eq_true, iff_false, false_iff, iff_self]
    try omega
  | (3, q, r) => by
    show (0 ≤ q ∧ q < 0 ∧ 0 ≤ r ∧ r < 4 ∨ q = 3 ∧ r = 0) ↔ (((3 : Nat), q, r) = (0, 0, 0) ∨ ((3 : Nat), q, r) = (15, 0, 0) ∨ ((3 : Nat), q, r) = (16, 0, 0) ∨ ((3 : Nat), q, r) = (17, 0, 0) ∨ ((3 : Nat), q, r) = (18, 0, 0) ∨ ((3 : Nat), q, r) = (19, 0, 0) ∨ ((3 : Nat), q, r) = (2, 3, 0) ∨ ((3 : Nat), q, r) = (3, 3, 0) ∨ ((3 : Nat), q, r) = (4, 3, 0) ∨ ((3 : Nat), q, r) = (5, 3, 0) ∨ ((3 : Nat), q, r) = (22, 0, 0) ∨ ((3 : Nat), q, r) = (23, 0, 0) ∨ ((3 : Nat), q, r) = (12, 6, 0) ∨ ((3 : Nat), q, r) = (13, 6, 0) ∨ ((3 : Nat), q, r) = (14, 6, 0))
    simp only [Prod.mk.injEq, Nat.reduceEqDiff, Nat.reduceAdd, true_and, false_and, and_true, and_false, or_false, false_or, ne_eq, not_true_eq_false, not_false_eq_true, iff_false, false_iff, iff_self]
    try omega
  | (4, q, r) => by
    show (0 ≤ q ∧ q < 0 ∧ 0 ≤ r ∧ r < 6 ∨ q = 3 ∧ r = 0) ↔ (((4 : Nat), q, r) = (0, 0, 0) ∨ ((4 : Nat), q, r) = (15, 0, 0) ∨ ((4 : Nat), q, r) = (16, 0, 0) ∨ ((4 : Nat), q, r) = (17, 0, 0) ∨ ((4 : Nat), q, r) = (18, 0, 0) ∨ ((4 : Nat), q, r) = (19, 0, 0) ∨ ((4 : Nat), q, r) = (2, 3, 0) ∨ ((4 : Nat), q, r) = (3, 3, 0) ∨ ((4 : Nat), q, r) = (4, 3, 0) ∨ ((4 : Nat), q, r) = (5, 3, 0) ∨ ((4 : Nat), q, r) = (22, 0, 0) ∨ ((4 : Nat), q, r) = (23, 0, 0) ∨ ((4 : Nat), q, r) = (12, 6, 0) ∨ ((4 : Nat), q, r) = (13, 6, 0) ∨ ((4 : Nat), q, r) = (14, 6, 0))
    simp only [Prod.mk.injEq, Nat.reduceEqDiff, Nat.reduceAdd, true_and, false_and, and_true, and_false, or_false, false_or, ne_eq, not_true_eq_false, not_false_eq_true, iff_false, false_iff, iff_self]
    try omega
  | (5, q, r) => by
    show (0 ≤ q ∧ q < 0 ∧ 0 ≤ r ∧ r < 6 ∨ q = 3 ∧ r = 0) ↔ (((5 : Nat), q, r) = (0, 0, 0) ∨ ((5 : Nat), q, r) = (15, 0, 0) ∨ ((5 : Nat), q, r) = (16, 0, 0) ∨ ((5 : Nat), q, r) = (17, 0, 0) ∨ ((5 : Nat), q, r) = (18, 0, 0) ∨ ((5 : Nat), q, r) = (19, 0, 0) ∨ ((5 : Nat), q, r) = (2, 3, 0) ∨ ((5 : Nat), q, r) = (3, 3, 0) ∨ ((5 : Nat), q, r) = (4, 3, 0) ∨ ((5 : Nat), q, r) = (5, 3, 0) ∨ ((5 : Nat), q, r) = (22, 0, 0) ∨ ((5 : Nat), q, r) = (23, 0, 0) ∨ ((5 : Nat), q, r) = (12, 6, 0) ∨ ((5 : Nat), q, r) = (13, 6, 0) ∨ ((5 : Nat), q, r) = (14, 6, 0))
    simp only [Prod.mk.injEq, Nat.reduceEqDiff, Nat.reduceAdd, true_and, false_and, and_true, and_false, or_false, false_or, ne_eq, not_true_eq_false, not_false_eq_true, iff_false, false_iff, iff_self]
    try omega
  | (6, q, r) => by
    show (0 ≤ q ∧ q < 0 ∧ 0 ≤ r ∧ r < 3) ↔ (((6 : Nat), q, r) = (0, 0, 0) ∨ ((6 : Nat), q, r) = (15, 0, 0) ∨ ((6 : Nat), q, r) = (16, 0, 0) ∨ ((6 : Nat), q, r) = (17, 0, 0) ∨ ((6 : Nat), q, r) = (18, 0, 0) ∨ ((6 : Nat), q, r) = (19, 0, 0) ∨ ((6 : Nat), q, r) = (2, 3, 0) ∨ ((6 : Nat), q, r) = (3, 3, 0) ∨ ((6 : Nat), q, r) = (4, 3, 0) ∨ ((6 : Nat), q, r) = (5, 3, 0) ∨ ((6 : Nat), q, r) = (22, 0, 0) ∨ ((6 : Nat), q, r) = (23, 0, 0) ∨ ((6 : Nat), q, r) = (12, 6, 0) ∨ ((6 : Nat), q, r) = (13, 6, 0) ∨ ((6 : Nat), q, r) = (14, 6, 0))
    simp only [Prod.mk.injEq, Nat.reduceEqDiff, Nat.reduceAdd, true_and, false_and, and_true, and_false, or_false, false_or, ne_eq, not_true_eq_false, not_false_eq_true, iff_false, false_iff, iff_self]
    try omega
  | (7, q, r) => by
    show (0 ≤ q ∧ q < 0 ∧ 0 ≤ r ∧ r < 3) ↔ (((7 : Nat), q, r) = (0, 0, 0) ∨ ((7 : Nat), q, r) = (15, 0, 0) ∨ ((7 : Nat), q, r) = (16, 0, 0) ∨ ((7 : Nat), q, r) = (17, 0, 0) ∨ ((7 : Nat), q, r) = (18, 0, 0) ∨ ((7 : Nat), q, r) = (19, 0, 0) ∨ ((7 : Nat), q, r) = (2, 3, 0) ∨ ((7 : Nat), q, r) = (3, 3, 0) ∨ ((7 : Nat), q, r) = (4, 3, 0) ∨ ((7 : Nat), q, r) = (5, 3, 0) ∨ ((7 : Nat), q, r) = (22, 0, 0) ∨ ((7 : Nat), q, r) = (23, 0, 0) ∨ ((7 : Nat), q, r) = (12, 6, 0) ∨ ((7 : Nat), q, r) = (13, 6, 0) ∨ ((7 : Nat), q, r) = (14, 6, 0))
    simp only [Prod.mk.injEq, Nat.reduceEqDiff, Nat.reduceAdd, true_and, false_and, and_true, and_false, or_false, false_or, ne_eq, not_true_eq_false, not_false_eq_true, iff_false, false_iff, iff_self]
    try omega
  | (8, q, r) => by
    show (0 ≤ q ∧ q < 0 ∧ 0 ≤ r ∧ r < 3) ↔ (((8 : Nat), q, r) = (0, 0, 0) ∨ ((8 : Nat), q, r) = (15, 0, 0) ∨ ((8 : Nat), q, r) = (16, 0, 0) ∨ ((8 : Nat), q, r) = (17, 0, 0) ∨ ((8 : Nat), q, r) = (18, 0, 0) ∨ ((8 : Nat), q, r) = (19, 0, 0) ∨ ((8 : Nat), q, r) = (2, 3, 0) ∨ ((8 : Nat), q, r) = (3, 3, 0) ∨ ((8 : Nat), q, r) = (4, 3, 0) ∨ ((8 : Nat), q, r) = (5, 3, 0) ∨ ((8 : Nat), q, r) = (22, 0, 0) ∨ ((8 : Nat), q, r) = (23, 0, 0) ∨ ((8 : Nat), q, r) = (12, 6, 0) ∨ ((8 : Nat), q, r) = (13, 6, 0) ∨ ((8 : Nat), q, r) = (14, 6, 0))
    simp only [Prod.mk.injEq, Nat.reduceEqDiff, Nat.reduceAdd, true_and, false_and, and_true, and_false, or_false, false_or, ne_eq, not_true_eq_false, not_false_eq_true, iff_false, false_iff, iff_self]
    try omega
  | (9, q, r) => by
    show (0 ≤ q ∧ q < 0 ∧ 0 ≤ r ∧ r < 3) ↔ (((9 : Nat), q, r) = (0, 0, 0) ∨ ((9 : Nat), q, r) = (15, 0, 0) ∨ ((9 : Nat), q, r) = (16, 0, 0) ∨ ((9 : Nat), q, r) = (17, 0, 0) ∨ ((9 : Nat), q, r) = (18, 0, 0) ∨ ((9 : Nat), q, r) = (19, 0, 0) ∨ ((9 : Nat), q, r) = (2, 3, 0) ∨ ((9 : Nat), q, r) = (3, 3, 0) ∨ ((9 : Nat), q, r) = (4, 3, 0) ∨ ((9 : Nat), q, r) = (5, 3, 0) ∨ ((9 : Nat), q, r) = (22, 0, 0) ∨ ((9 : Nat), q, r) = (23, 0, 0) ∨ ((9 : Nat), q, r) = (12, 6, 0) ∨ ((9 : Nat), q, r) = (13, 6, 0) ∨ ((9 : Nat), q, r) = (14, 6, 0))
    simp only [Prod.mk.injEq, Nat.reduceEqDiff, Nat.reduceAdd, true_and, false_and, and_true, and_false, or_false, false_or, ne_eq, not_true_eq_false, not_false_eq_true, iff_false, false_iff, iff_self]
    try omega
  | (10, q, r) => by
    show (0 ≤ q ∧ q < 0 ∧ r = 0) ↔ (((10 : Nat), q, r) = (0, 0, 0) ∨ ((10 : Nat), q, r) = (15, 0, 0) ∨ ((10 : Nat), q, r) = (16, 0, 0) ∨ ((10 : Nat), q, r) = (17, 0, 0) ∨ ((10 : Nat), q, r) = (18, 0, 0) ∨ ((10 : Nat), q, r) = (19, 0, 0) ∨ ((10 : Nat), q, r) = (2, 3, 0) ∨ ((10 : Nat), q, r) = (3, 3, 0) ∨ ((10 : Nat), q, r) = (4, 3, 0) ∨ ((10 : Nat), q, r) = (5, 3, 0) ∨ ((10 : Nat), q, r) = (22, 0, 0) ∨ ((10 : Nat), q, r) = (23, 0, 0) ∨ ((10 : Nat), q, r) = (12, 6, 0) ∨ ((10 : Nat), q, r) = (13, 6, 0) ∨ ((10 : Nat), q, r) = (14, 6, 0))
    simp only [Prod.mk.injEq, Nat.reduceEqDiff, Nat.reduceAdd, true_and, false_and, and_true, and_false, or_false, false_or, ne_eq, not_true_eq_false, not_false_eq_true, iff_false, false_iff, iff_self]
    try omega
  | (11, q, r) => by
    show (0 ≤ q ∧ q < 0 ∧ r = 0) ↔ (((11 : Nat), q, r) = (0, 0, 0) ∨ ((11 : Nat), q, r) = (15, 0, 0) ∨ ((11 : Nat), q, r) = (16, 0, 0) ∨ ((11 : Nat), q, r) = (17, 0, 0) ∨ ((11 : Nat), q, r) = (18, 0, 0) ∨ ((11 : Nat), q, r) = (19, 0, 0) ∨ ((11 : Nat), q, r) = (2, 3, 0) ∨ ((11 : Nat), q, r) = (3, 3, 0) ∨ ((11 : Nat), q, r) = (4, 3, 0) ∨ ((11 : Nat), q, r) = (5, 3, 0) ∨ ((11 : Nat), q, r) = (22, 0, 0) ∨ ((11 : Nat), q, r) = (23, 0, 0) ∨ ((11 : Nat), q, r) = (12, 6, 0) ∨ ((11 : Nat), q, r) = (13, 6, 0) ∨ ((11 : Nat), q, r) = (14, 6, 0))
    simp only [Prod.mk.injEq, Nat.reduceEqDiff, Nat.reduceAdd, true_and, false_and, and_true, and_false, or_false, false_or, ne_eq, not_true_eq_false, not_false_eq_true, iff_false, false_iff, iff_self]
    try omega
  | (12, q, r) => by
    show (q = 6 ∧ r = 0) ↔ (((12 : Nat), q, r) = (0, 0, 0) ∨ ((12 : Nat), q, r) = (15, 0, 0) ∨ ((12 : Nat), q, r) = (16, 0, 0) ∨ ((12 : Nat), q, r) = (17, 0, 0) ∨ ((12 : Nat), q, r) = (18, 0, 0) ∨ ((12 : Nat), q, r) = (19, 0, 0) ∨ ((12 : Nat), q, r) = (2, 3, 0) ∨ ((12 : Nat), q, r) = (3, 3, 0) ∨ ((12 : Nat), q, r) = (4, 3, 0) ∨ ((12 : Nat), q, r) = (5, 3, 0) ∨ ((12 : Nat), q, r) = (22, 0, 0) ∨ ((12 : Nat), q, r) = (23, 0, 0) ∨ ((12 : Nat), q, r) = (12, 6, 0) ∨ ((12 : Nat), q, r) = (13, 6, 0) ∨ ((12 : Nat), q, r) = (14, 6, 0))
    simp only [Prod.mk.injEq, Nat.reduceEqDiff, Nat.reduceAdd, true_and, false_and, and_true, and_false, or_false, false_or, ne_eq, not_true_eq_false, not_false_eq_true, iff_false, false_iff, iff_self]
    try omega
  | (13, q, r) => by
    show (q = 6 ∧ r = 0) ↔ (((13 : Nat), q, r) = (0, 0, 0) ∨ ((13 : Nat), q, r) = (15, 0, 0) ∨ ((13 : Nat), q, r) = (16, 0, 0) ∨ ((13 : Nat), q, r) = (17, 0, 0) ∨ ((13 : Nat), q, r) = (18, 0, 0) ∨ ((13 : Nat), q, r) = (19, 0, 0) ∨ ((13 : Nat), q, r) = (2, 3, 0) ∨ ((13 : Nat), q, r) = (3, 3, 0) ∨ ((13 : Nat), q, r) = (4, 3, 0) ∨ ((13 : Nat), q, r) = (5, 3, 0) ∨ ((13 : Nat), q, r) = (22, 0, 0) ∨ ((13 : Nat), q, r) = (23, 0, 0) ∨ ((13 : Nat), q, r) = (12, 6, 0) ∨ ((13 : Nat), q, r) = (13, 6, 0) ∨ ((13 : Nat), q, r) = (14, 6, 0))
    simp only [Prod.mk.injEq, Nat.reduceEqDiff, Nat.reduceAdd, true_and, false_and, and_true, and_false, or_false, false_or, ne_eq, not_true_eq_false, not_false_eq_true, iff_false, false_iff, iff_self]
    try omega
  | (14, q, r) => by
    show (q = 6 ∧ r = 0) ↔ (((14 : Nat), q, r) = (0, 0, 0) ∨ ((14 : Nat), q, r) = (15, 0, 0) ∨ ((14 : Nat), q, r) = (16, 0, 0) ∨ ((14 : Nat), q, r) = (17, 0, 0) ∨ ((14 : Nat), q, r) = (18, 0, 0) ∨ ((14 : Nat), q, r) = (19, 0, 0) ∨ ((14 : Nat), q, r) = (2, 3, 0) ∨ ((14 : Nat), q, r) = (3, 3, 0) ∨ ((14 : Nat), q, r) = (4, 3, 0) ∨ ((14 : Nat), q, r) = (5, 3, 0) ∨ ((14 : Nat), q, r) = (22, 0, 0) ∨ ((14 : Nat), q, r) = (23, 0, 0) ∨ ((14 : Nat), q, r) = (12, 6, 0) ∨ ((14 : Nat), q, r) = (13, 6, 0) ∨ ((14 : Nat), q, r) = (14, 6, 0))
    simp only [Prod.mk.injEq, Nat.reduceEqDiff, Nat.reduceAdd, true_and, false_and, and_true, and_false, or_false, false_or, ne_eq, not_true_eq_false, not_false_eq_true, iff_false, false_iff, iff_self]
    try omega
  | (15, q, r) => by
    show (q = 0 ∧ r = 0) ↔ (((15 : Nat), q, r) = (0, 0, 0) ∨ ((15 : Nat), q, r) = (15, 0, 0) ∨ ((15 : Nat), q, r) = (16, 0, 0) ∨ ((15 : Nat), q, r) = (17, 0, 0) ∨ ((15 : Nat), q, r) = (18, 0, 0) ∨ ((15 : Nat), q, r) = (19, 0, 0) ∨ ((15 : Nat), q, r) = (2, 3, 0) ∨ ((15 : Nat), q, r) = (3, 3, 0) ∨ ((15 : Nat), q, r) = (4, 3, 0) ∨ ((15 : Nat), q, r) = (5, 3, 0) ∨ ((15 : Nat), q, r) = (22, 0, 0) ∨ ((15 : Nat), q, r) = (23, 0, 0) ∨ ((15 : Nat), q, r) = (12, 6, 0) ∨ ((15 : Nat), q, r) = (13, 6, 0) ∨ ((15 : Nat), q, r) = (14, 6, 0))
    simp only [Prod.mk.injEq, Nat.reduceEqDiff, Nat.reduceAdd, true_and, false_and, and_true, and_false, or_false, false_or, ne_eq, not_true_eq_false, not_false_eq_true, iff_false, false_iff, iff_self]
    try omega
  | (16, q, r) => by
    show (q = 0 ∧ r = 0) ↔ (((16 : Nat), q, r) = (0, 0, 0) ∨ ((16 : Nat), q, r) = (15, 0, 0) ∨ ((16 : Nat), q, r) = (16, 0, 0) ∨ ((16 : Nat), q, r) = (17, 0, 0) ∨ ((16 : Nat), q, r) = (18, 0, 0) ∨ ((16 : Nat), q, r) = (19, 0, 0) ∨ ((16 : Nat), q, r) = (2, 3, 0) ∨ ((16 : Nat), q, r) = (3, 3, 0) ∨ ((16 : Nat), q, r) = (4, 3, 0) ∨ ((16 : Nat), q, r) = (5, 3, 0) ∨ ((16 : Nat), q, r) = (22, 0, 0) ∨ ((16 : Nat), q, r) = (23, 0, 0) ∨ ((16 : Nat), q, r) = (12, 6, 0) ∨ ((16 : Nat), q, r) = (13, 6, 0) ∨ ((16 : Nat), q, r) = (14, 6, 0))
    simp only [Prod.mk.injEq, Nat.reduceEqDiff, Nat.reduceAdd, true_and, false_and, and_true, and_false, or_false, false_or, ne_eq, not_true_eq_false, not_false_eq_true, iff_false, false_iff, iff_self]
    try omega
  | (17, q, r) => by
    show (q = 0 ∧ r = 0) ↔ (((17 : Nat), q, r) = (0, 0, 0) ∨ ((17 : Nat), q, r) = (15, 0, 0) ∨ ((17 : Nat), q, r) = (16, 0, 0) ∨ ((17 : Nat), q, r) = (17, 0, 0) ∨ ((17 : Nat), q, r) = (18, 0, 0) ∨ ((17 : Nat), q, r) = (19, 0, 0) ∨ ((17 : Nat), q, r) = (2, 3, 0) ∨ ((17 : Nat), q, r) = (3, 3, 0) ∨ ((17 : Nat), q, r) = (4, 3, 0) ∨ ((17 : Nat), q, r) = (5, 3, 0) ∨ ((17 : Nat), q, r) = (22, 0, 0) ∨ ((17 : Nat), q, r) = (23, 0, 0) ∨ ((17 : Nat), q, r) = (12, 6, 0) ∨ ((17 : Nat), q, r) = (13, 6, 0) ∨ ((17 : Nat), q, r) = (14, 6, 0))
    simp only [Prod.mk.injEq, Nat.reduceEqDiff, Nat.reduceAdd, true_and, false_and, and_true, and_false, or_false, false_or, ne_eq, not_true_eq_false, not_false_eq_true, iff_false, false_iff, iff_self]
    try omega
  | (18, q, r) => by
    show (q = 0 ∧ r = 0) ↔ (((18 : Nat), q, r) = (0, 0, 0) ∨ ((18 : Nat), q, r) = (15, 0, 0) ∨ ((18 : Nat), q, r) = (16, 0, 0) ∨ ((18 : Nat), q, r) = (17, 0, 0) ∨ ((18 : Nat), q, r) = (18, 0, 0) ∨ ((18 : Nat), q, r) = (19, 0, 0) ∨ ((18 : Nat), q, r) = (2, 3, 0) ∨ ((18 : Nat), q, r) = (3, 3, 0) ∨ ((18 : Nat), q, r) = (4, 3, 0) ∨ ((18 : Nat), q, r) = (5, 3, 0) ∨ ((18 : Nat), q, r) = (22, 0, 0) ∨ ((18 : Nat), q, r) = (23, 0, 0) ∨ ((18 : Nat), q, r) = (12, 6, 0) ∨ ((18 : Nat), q, r) = (13, 6, 0) ∨ ((18 : Nat), q, r) = (14, 6, 0))
    simp only [Prod.mk.injEq, Nat.reduceEqDiff, Nat.reduceAdd, true_and, false_and, and_true, and_false, or_false, false_or, ne_eq, not_true_eq_false, not_false_eq_true, iff_false, false_iff, iff_self]
    try omega
  | (19, q, r) => by
    show (q = 0 ∧ r = 0) ↔ (((19 : Nat), q, r) = (0, 0, 0) ∨ ((19 : Nat), q, r) = (15, 0, 0) ∨ ((19 : Nat), q, r) = (16, 0, 0) ∨ ((19 : Nat), q, r) = (17, 0, 0) ∨ ((19 : Nat), q, r) = (18, 0, 0) ∨ ((19 : Nat), q, r) = (19, 0, 0) ∨ ((19 : Nat), q, r) = (2, 3, 0) ∨ ((19 : Nat), q, r) = (3, 3, 0) ∨ ((19 : Nat), q, r) = (4, 3, 0) ∨ ((19 : Nat), q, r) = (5, 3, 0) ∨ ((19 : Nat), q, r) = (22, 0, 0) ∨ ((19 : Nat), q, r) = (23, 0, 0) ∨ ((19 : Nat), q, r) = (12, 6, 0) ∨ ((19 : Nat), q, r) = (13, 6, 0) ∨ ((19 : Nat), q, r) = (14, 6, 0))
    simp only [Prod.mk.injEq, Nat.reduceEqDiff, Nat.reduceAdd, true_and, false_and, and_true, and_false, or_false, false_or, ne_eq, not_true_eq_false, not_false_eq_true, iff_false, false_iff, iff_self]
    try omega
  | (20, q, r) => by
    show (0 ≤ q ∧ q < 0 ∧ r = 0) ↔ (((20 : Nat), q, r) = (0, 0, 0) ∨ ((20 : Nat), q, r) = (15, 0, 0) ∨ ((20 : Nat), q, r) = (16, 0, 0) ∨ ((20 : Nat), q, r) = (17, 0, 0) ∨ ((20 : Nat), q, r) = (18, 0, 0) ∨ ((20 : Nat), q, r) = (19, 0, 0) ∨ ((20 : Nat), q, r) = (2, 3, 0) ∨ ((20 : Nat), q, r) = (3, 3, 0) ∨ ((20 : Nat), q, r) = (4, 3, 0) ∨ ((20 : Nat), q, r) = (5, 3, 0) ∨ ((20 : Nat), q, r) = (22, 0, 0) ∨ ((20 : Nat), q, r) = (23, 0, 0) ∨ ((20 : Nat), q, r) = (12, 6, 0) ∨ ((20 : Nat), q, r) = (13, 6, 0) ∨ ((20 : Nat), q, r) = (14, 6, 0))
    simp only [Prod.mk.injEq, Nat.reduceEqDiff, Nat.reduceAdd, true_and, false_and, and_true, and_false, or_false, false_or, ne_eq, not_true_eq_false, not_false_eq_true, iff_false, false_iff, iff_self]
    try omega
  | (21, q, r) => by
    show (0 ≤ q ∧ q < 0 ∧ r = 0) ↔ (((21 : Nat), q, r) = (0, 0, 0) ∨ ((21 : Nat), q, r) = (15, 0, 0) ∨ ((21 : Nat), q, r) = (16, 0, 0) ∨ ((21 : Nat), q, r) = (17, 0, 0) ∨ ((21 : Nat), q, r) = (18, 0, 0) ∨ ((21 : Nat), q, r) = (19, 0, 0) ∨ ((21 : Nat), q, r) = (2, 3, 0) ∨ ((21 : Nat), q, r) = (3, 3, 0) ∨ ((21 : Nat), q, r) = (4, 3, 0) ∨ ((21 : Nat), q, r) = (5, 3, 0) ∨ ((21 : Nat), q, r) = (22, 0, 0) ∨ ((21 : Nat), q, r) = (23, 0, 0) ∨ ((21 : Nat), q, r) = (12, 6, 0) ∨ ((21 : Nat), q, r) = (13, 6, 0) ∨ ((21 : Nat), q, r) = (14, 6, 0))
    simp only [Prod.mk.injEq, Nat.reduceEqDiff, Nat.reduceAdd, true_and, false_and, and_true, and_false, or_false, false_or, ne_eq, not_true_eq_false, not_false_eq_true, iff_false, false_iff, iff_self]
    try omega
  | (22, q, r) => by
    show (q = 0 ∧ r = 0) ↔ (((22 : Nat), q, r) = (0, 0, 0) ∨ ((22 : Nat), q, r) = (15, 0, 0) ∨ ((22 : Nat), q, r) = (16, 0, 0) ∨ ((22 : Nat), q, r) = (17, 0, 0) ∨ ((22 : Nat), q, r) = (18, 0, 0) ∨ ((22 : Nat), q, r) = (19, 0, 0) ∨ ((22 : Nat), q, r) = (2, 3, 0) ∨ ((22 : Nat), q, r) = (3, 3, 0) ∨ ((22 : Nat), q, r) = (4, 3, 0) ∨ ((22 : Nat), q, r) = (5, 3, 0) ∨ ((22 : Nat), q, r) = (22, 0, 0) ∨ ((22 : Nat), q, r) = (23, 0, 0) ∨ ((22 : Nat), q, r) = (12, 6, 0) ∨ ((22 : Nat), q, r) = (13, 6, 0) ∨ ((22 : Nat), q, r) = (14, 6, 0))
    simp only [Prod.mk.injEq, Nat.reduceEqDiff, Nat.reduceAdd, true_and, false_and, and_true, and_false, or_false, false_or, ne_eq, not_true_eq_false, not_false_eq_true, iff_false, false_iff, iff_self]
    try omega
  | (23, q, r) => by
    show (q = 0 ∧ r = 0) ↔ (((23 : Nat), q, r) = (0, 0, 0) ∨ ((23 : Nat), q, r) = (15, 0, 0) ∨ ((23 : Nat), q, r) = (16, 0, 0) ∨ ((23 : Nat), q, r) = (17, 0, 0) ∨ ((23 : Nat), q, r) = (18, 0, 0) ∨ ((23 : Nat), q, r) = (19, 0, 0) ∨ ((23 : Nat), q, r) = (2, 3, 0) ∨ ((23 : Nat), q, r) = (3, 3, 0) ∨ ((23 : Nat), q, r) = (4, 3, 0) ∨ ((23 : Nat), q, r) = (5, 3, 0) ∨ ((23 : Nat), q, r) = (22, 0, 0) ∨ ((23 : Nat), q, r) = (23, 0, 0) ∨ ((23 : Nat), q, r) = (12, 6, 0) ∨ ((23 : Nat), q, r) = (13, 6, 0) ∨ ((23 : Nat), q, r) = (14, 6, 0))
    simp only [Prod.mk.injEq, Nat.reduceEqDiff, Nat.reduceAdd, true_and, false_and, and_true, and_false, or_false, false_or, ne_eq, not_true_eq_false, not_false_eq_true, iff_false, false_iff, iff_self]
    try omega
  | (p + 24, q, r) => by
    show False ↔ (((p + 24 : Nat), q, r) = (0, 0, 0) ∨ ((p + 24 : Nat), q, r) = (15, 0, 0) ∨ ((p + 24 : Nat), q, r) = (16, 0, 0) ∨ ((p + 24 : Nat), q, r) = (17, 0, 0) ∨ ((p + 24 : Nat), q, r) = (18, 0, 0) ∨ ((p + 24 : Nat), q, r) = (19, 0, 0) ∨ ((p + 24 : Nat), q, r) = (2, 3, 0) ∨ ((p + 24 : Nat), q, r) = (3, 3, 0) ∨ ((p + 24 : Nat), q, r) = (4, 3, 0) ∨ ((p + 24 : Nat), q, r) = (5, 3, 0) ∨ ((p + 24 : Nat), q, r) = (22, 0, 0) ∨ ((p + 24 : Nat), q, r) = (23, 0, 0) ∨ ((p + 24 : Nat), q, r) = (12, 6, 0) ∨ ((p + 24 : Nat), q, r) = (13, 6, 0) ∨ ((p + 24 : Nat), q, r) = (14, 6, 0))
    simp only [Prod.mk.injEq, Nat.reduceEqDiff, Nat.reduceAdd, true_and, false_and, and_true, and_false, or_false, false_or, ne_eq, not_true_eq_false, not_false_eq_true, iff_false, false_iff, iff_self]
    try omega
theorem DG_0 : ∀ (o : Ob) (k : Nat), DG 0 0 o k ↔ ((o = (0, 0, 0) ∧ (k = 4 ∨ k = 5 ∨ k = 7 ∨ 9 ≤ k ∧ k ≤ 13)) ∨ o = (15, 0, 0) ∨ o = (16, 0, 0) ∨ o = (2, 3, 0) ∨ o = (3, 3, 0) ∨ o = (4, 3, 0) ∨ o = (5, 3, 0) ∨ o = (12, 6, 0) ∨ o = (13, 6, 0) ∨ o = (14, 6, 0))
  | (0, q, r), k => by
    show ((q = 0 ∧ r = 0) ∧ ((k : Int) < 0 ∨ k = 4 ∨ k = 5 ∨ k = 7 ∨ 9 ≤ k ∧ k ≤ 13)) ↔ ((((0 : Nat), q, r) = (0, 0, 0) ∧ (k = 4 ∨ k = 5 ∨ k = 7 ∨ 9 ≤ k ∧ k ≤ 13)) ∨ ((0 : Nat), q, r) = (15, 0, 0) ∨ ((0 : Nat), q, r) = (16, 0, 0) ∨ ((0 : Nat), q, r) = (2, 3, 0) ∨ ((0 : Nat), q, r) = (3, 3, 0) ∨ ((0 : Nat), q, r) = (4, 3, 0) ∨ ((0 : Nat), q, r) = (5, 3, 0) ∨ ((0 : Nat), q, r) = (12, 6, 0) ∨ ((0 : Nat), q, r) = (13, 6, 0) ∨ ((0 : Nat), q, r) = (14, 6, 0))
    simp only [Prod.mk.injEq, Nat.reduceEqDiff, Nat.reduceAdd, true_and, false_and, and_true, and_false, or_false, false_or, ne_eq, not_true_eq_false, not_false_eq_true, iff_false, false_iff, iff_self]
    try omega
  | (1, q, r), k => by
    show (0 ≤ q ∧ q < 0 ∧ r = 0) ↔ ((((1 : Nat), q, r) = (0, 0, 0) ∧ (k = 4 ∨ k = 5 ∨ k = 7 ∨ 9 ≤ k ∧ k ≤ 13)) ∨ ((1 : Nat), q, r) = (15, 0, 0) ∨ ((1 : Nat), q, r) = (16, 0, 0) ∨ ((1 : Nat), q, r) = (2, 3, 0) ∨ ((1 : Nat), q, r) = (3, 3, 0) ∨ ((1 : Nat), q, r) = (4, 3, 0) ∨ ((1 : Nat), q, r) = (5, 3, 0) ∨ ((1 : Nat), q, r) = (12, 6, 0) ∨ ((1 : Nat), q, r) = (13, 6, 0) ∨ ((1 : Nat), q, r) = (14, 6, 0))
    simp only [Prod.mk.injEq, Nat.reduceEqDiff, Nat.reduceAdd, true_and, false_and, and_true, and_false, or_false, false_or, ne_eq, not_true_eq_false, not_false_eq_true, iff_false, false_iff, iff_self]
    try omega
  | (2, q, r), k => by
    show (0 ≤ q ∧ q < 0 ∧ 0 ≤ r ∧ r < 4 ∨ q = 3 ∧ r = 0) ↔ ((((2 : Nat), q, r) = (0, 0, 0) ∧ (k = 4 ∨ k = 5 ∨ k = 7 ∨ 9 ≤ k ∧ k ≤ 13)) ∨ ((2 : Nat), q, r) = (15, 0, 0) ∨ ((2 : Nat), q, r) = (16, 0, 0) ∨ ((2 : Nat), q, r) = (2, 3, 0) ∨ ((2 : Nat), q, r) = (3, 3, 0) ∨ ((2 : Nat), q, r) = (4, 3, 0) ∨ ((2 : Nat), q, r) = (5, 3, 0) ∨ ((2 : Nat), q, r) = (12, 6, 0) ∨ ((2 : Nat), q, r) = (13, 6, 0) ∨ ((2 : Nat), q, r) = (14, 6, 0))
    simp only [Prod.mk.injEq, Nat.reduceEqDiff, Nat.reduceAdd, true_and, false_and, and_true, and_false, or_false, false_or, ne_eq, not_true_eq_false, not_false_eq_true, iff_false, false_iff, iff_self]
    try omega
  | (3, q, r), k => by
    show (0 ≤ q ∧ q < 0 ∧ 0 ≤ r ∧ r < 4 ∨ q = 3 ∧ r = 0) ↔ ((((3 : Nat), q, r) = (0, 0, 0) ∧ (k = 4 ∨ k = 5 ∨ k = 7 ∨ 9 ≤ k ∧ k ≤ 13)) ∨ ((3 : Nat), q, r) = (15, 0, 0) ∨ ((3 : Nat), q, r) = (16, 0, 0) ∨ ((3 : Nat), q, r) = (2, 3, 0) ∨ ((3 : Nat), q, r) = (3, 3, 0) ∨ ((3 : Nat), q, r) = (4, 3, 0) ∨ ((3 : Nat), q, r) = (5, 3, 0) ∨ ((3 : Nat), q, r) = (12, 6, 0) ∨ ((3 : Nat), q, r) = (13, 6, 0) ∨ ((3 : Nat), q, r) = (14, 6, 0))
    simp only [Prod.mk.injEq, Nat.reduceEqDiff, Nat.reduceAdd, true_and, false_and, and_true, and_false, or_false, false_or, ne_eq, not_true_eq_false, not_false_eq_true, iff_false, false_iff, iff_self]
    try omega
  | (4, q, r), k => by
    show (0 ≤ q ∧ q < 0 ∧ 0 ≤ r ∧ r < 6 ∨ q = 3 ∧ r = 0) ↔ ((((4 : Nat), q, r) = (0, 0, 0) ∧ (k = 4 ∨ k = 5 ∨ k = 7 ∨ 9 ≤ k ∧ k ≤ 13)) ∨ ((4 : Nat), q, r) = (15, 0, 0) ∨ ((4 : Nat), q, r) = (16, 0, 0) ∨ ((4 : Nat), q, r) = (2, 3, 0) ∨ ((4 : Nat), q, r) = (3, 3, 0) ∨ ((4 : Nat), q, r) = (4, 3, 0) ∨ ((4 : Nat), q, r) = (5, 3, 0) ∨ ((4 : Nat), q, r) = (12, 6, 0) ∨ ((4 : Nat), q, r) = (13, 6, 0) ∨ ((4 : Nat), q, r) = (14, 6, 0))
    simp only [Prod.mk.injEq, Nat.reduceEqDiff, Nat.reduceAdd, true_and, false_and, and_true, and_false, or_false, false_or, ne_eq, not_true_eq_false, not_false_eq_true, iff_false, false_iff, iff_self]
    try omega
  | (5, q, r), k => by
    show (0 ≤ q ∧ q < 0 ∧ 0 ≤ r ∧ r < 6 ∨ q = 3 ∧ r = 0) ↔ ((((5 : Nat), q, r) = (0, 0, 0) ∧ (k = 4 ∨ k = 5 ∨ k = 7 ∨ 9 ≤ k ∧ k ≤ 13)) ∨ ((5 : Nat), q, r) = (15, 0, 0) ∨ ((5 : Nat), q, r) = (16, 0, 0) ∨ ((5 : Nat), q, r) = (2, 3, 0) ∨ ((5 : Nat), q, r) = (3, 3, 0) ∨ ((5 : Nat), q, r) = (4, 3, 0) ∨ ((5 : Nat), q, r) = (5, 3, 0) ∨ ((5 : Nat), q, r) = (12, 6, 0) ∨ ((5 : Nat), q, r) = (13, 6, 0) ∨ ((5 : Nat), q, r) = (14, 6, 0))
    simp only [Prod.mk.injEq, Nat.reduceEqDiff, Nat.reduceAdd, true_and, false_and, and_true, and_false, or_false, false_or, ne_eq, not_true_eq_false, not_false_eq_true, iff_false, false_iff, iff_self]
    try omega
  | (6, q, r), k => by
    show (0 ≤ q ∧ q < 0 ∧ 0 ≤ r ∧ r < 3) ↔ ((((6 : Nat), q, r) = (0, 0, 0) ∧ (k = 4 ∨ k = 5 ∨ k = 7 ∨ 9 ≤ k ∧ k ≤ 13)) ∨ ((6 : Nat), q, r) = (15, 0, 0) ∨ ((6 : Nat), q, r) = (16, 0, 0) ∨ ((6 : Nat), q, r) = (2, 3, 0) ∨ ((6 : Nat), q, r) = (3, 3, 0) ∨ ((6 : Nat), q, r) = (4, 3, 0) ∨ ((6 : Nat), q, r) = (5, 3, 0) ∨ ((6 : Nat), q, r) = (12, 6, 0) ∨ ((6 : Nat), q, r) = (13, 6, 0) ∨ ((6 : Nat), q, r) = (14, 6, 0))
    simp only [Prod.mk.injEq, Nat.reduceEqDiff, Nat.reduceAdd, true_and, false_and, and_true, and_false, or_false, false_or, ne_eq, not_true_eq_false, not_false_eq_true, iff_false, false_iff, iff_self]
    try omega
  | (7, q, r), k => by
    show (0 ≤ q ∧ q < 0 ∧ 0 ≤ r ∧ r < 3) ↔ ((((7 : Nat), q, r) = (0, 0, 0) ∧ (k = 4 ∨ k = 5 ∨ k = 7 ∨ 9 ≤ k ∧ k ≤ 13)) ∨ ((7 : Nat), q, r) = (15, 0, 0) ∨ ((7 : Nat), q, r) = (16, 0, 0) ∨ ((7 : Nat), q, r) = (2, 3, 0) ∨ ((7 : Nat), q, r) = (3, 3, 0) ∨ ((7 : Nat), q, r) = (4, 3, 0) ∨ ((7 : Nat), q, r) = (5, 3, 0) ∨ ((7 : Nat), q, r) = (12, 6, 0) ∨ ((7 : Nat), q, r) = (13, 6, 0) ∨ ((7 : Nat), q, r) = (14, 6, 0))
    simp only [Prod.mk.injEq, Nat.reduceEqDiff, Nat.reduceAdd, true_and, false_and, and_true, and_false, or_false, false_or, ne_eq, not_true_eq_false, not_false_eq_true, iff_false, false_iff, iff_self]
    try omega
  | (8, q, r), k => by
    show (0 ≤ q ∧ q < 0 ∧ 0 ≤ r ∧ r < 3) ↔ ((((8 : Nat), q, r) = (0, 0, 0) ∧ (k = 4 ∨ k = 5 ∨ k = 7 ∨ 9 ≤ k ∧ k ≤ 13)) ∨ ((8 : Nat), q, r) = (15, 0, 0) ∨ ((8 : Nat), q, r) = (16, 0, 0) ∨ ((8 : Nat), q, r) = (2, 3, 0) ∨ ((8 : Nat), q, r) = (3, 3, 0) ∨ ((8 : Nat), q, r) = (4, 3, 0) ∨ ((8 : Nat), q, r) = (5, 3, 0) ∨ ((8 : Nat), q, r) = (12, 6, 0) ∨ ((8 : Nat), q, r) = (13, 6, 0) ∨ ((8 : Nat), q, r) = (14, 6, 0))
    simp only [Prod.mk.injEq, Nat.reduceEqDiff, Nat.reduceAdd, true_and, false_and, and_true, and_false, or_false, false_or, ne_eq, not_true_eq_false, not_false_eq_true, iff_false, false_iff, iff_self]
    try omega
  | (9, q, r), k => by
    show (0 ≤ q ∧ q < 0 ∧ 0 ≤ r ∧ r < 3) ↔ ((((9 : Nat), q, r) = (0, 0, 0) ∧ (k = 4 ∨ k = 5 ∨ k = 7 ∨ 9 ≤ k ∧ k ≤ 13)) ∨ ((9 : Nat), q, r) = (15, 0, 0) ∨ ((9 : Nat), q, r) = (16, 0, 0) ∨ ((9 : Nat), q, r) = (2, 3, 0) ∨ ((9 : Nat), q, r) = (3, 3, 0) ∨ ((9 : Nat), q, r) = (4, 3, 0) ∨ ((9 : Nat), q, r) = (5, 3, 0) ∨ ((9 : Nat), q, r) = (12, 6, 0) ∨ ((9 : Nat), q, r) = (13, 6, 0) ∨ ((9 : Nat), q, r) = (14, 6, 0))
    simp only [Prod.mk.injEq, Nat.reduceEqDiff, Nat.reduceAdd, true_and, false_and, and_true, and_false, or_false, false_or, ne_eq, not_true_eq_false, not_false_eq_true, iff_false, false_iff, iff_self]
    try omega
  | (10, q, r), k => by
    show (0 ≤ q ∧ q < 0 ∧ r = 0) ↔ ((((10 : Nat), q, r) = (0, 0, 0) ∧ (k = 4 ∨ k = 5 ∨ k = 7 ∨ 9 ≤ k ∧ k ≤ 13)) ∨ ((10 : Nat), q, r) = (15, 0, 0) ∨ ((10 : Nat), q, r) = (16, 0, 0) ∨ ((10 : Nat), q, r) = (2, 3, 0) ∨ ((10 : Nat), q, r) = (3, 3, 0) ∨ ((10 : Nat), q, r) = (4, 3, 0) ∨ ((10 : Nat), q, r) = (5, 3, 0) ∨ ((10 : Nat), q, r) = (12, 6, 0) ∨ ((10 : Nat), q, r) = (13, 6, 0) ∨ ((10 : Nat), q, r) = (14, 6, 0))
    simp only [Prod.mk.injEq, Nat.reduceEqDiff, Nat.reduceAdd, true_and, false_and, and_true, and_false, or_false, false_or, ne_eq, not_true_eq_false, not_false_eq_true, iff_false, false_iff, iff_self]
    try omega
  | (11, q, r), k => by
    show (0 ≤ q ∧ q < 0 ∧ r = 0) ↔ ((((11 : Nat), q, r) = (0, 0, 0) ∧ (k = 4 ∨ k = 5 ∨ k = 7 ∨ 9 ≤ k ∧ k ≤ 13)) ∨ ((11 : Nat), q, r) = (15, 0, 0) ∨ ((11 : Nat), q, r) = (16, 0, 0) ∨ ((11 : Nat), q, r) = (2, 3, 0) ∨ ((11 : Nat), q, r) = (3, 3, 0) ∨ ((11 : Nat), q, r) = (4, 3, 0) ∨ ((11 : Nat), q, r) = (5, 3, 0) ∨ ((11 : Nat), q, r) = (12, 6, 0) ∨ ((11 : Nat), q, r) = (13, 6, 0) ∨ ((11 : Nat), q, r) = (14, 6, 0))
    simp only [Prod.mk.injEq, Nat.reduceEqDiff, Nat.reduceAdd, true_and, false_and, and_true, and_false, or_false, false_or, ne_eq, not_true_eq_false, not_false_eq_true, iff_false, false_iff, iff_self]
    try omega
  | (12, q, r), k => by
    show (q = 6 ∧ r = 0) ↔ ((((12 : Nat), q, r) = (0, 0, 0) ∧ (k = 4 ∨ k = 5 ∨ k = 7 ∨ 9 ≤ k ∧ k ≤ 13)) ∨ ((12 : Nat), q, r) = (15, 0, 0) ∨ ((12 : Nat), q, r) = (16, 0, 0) ∨ ((12 : Nat), q, r) = (2, 3, 0) ∨ ((12 : Nat), q, r) = (3, 3, 0) ∨ ((12 : Nat), q, r) = (4, 3, 0) ∨ ((12 : Nat), q, r) = (5, 3, 0) ∨ ((12 : Nat), q, r) = (12, 6, 0) ∨ ((12 : Nat), q, r) = (13, 6, 0) ∨ ((12 : Nat), q, r) = (14, 6, 0))
    simp only [Prod.mk.injEq, Nat.reduceEqDiff, Nat.reduceAdd, true_and, false_and, and_true, and_false, or_false, false_or, ne_eq, not_true_eq_false, not_false_eq_true, iff_false, false_iff, iff_self]
    try omega
  | (13, q, r), k => by
    show (q = 6 ∧ r = 0) ↔ ((((13 : Nat), q, r) = (0, 0, 0) ∧ (k = 4 ∨ k = 5 ∨ k = 7 ∨ 9 ≤ k ∧ k ≤ 13)) ∨ ((13 : Nat), q, r) = (15, 0, 0) ∨ ((13 : Nat), q, r) = (16, 0, 0) ∨ ((13 : Nat), q, r) = (2, 3, 0) ∨ ((13 : Nat), q, r) = (3, 3, 0) ∨ ((13 : Nat), q, r) = (4, 3, 0) ∨ ((13 : Nat), q, r) = (5, 3, 0) ∨ ((13 : Nat), q, r) = (12, 6, 0) ∨ ((13 : Nat), q, r) = (13, 6, 0) ∨ ((13 : Nat), q, r) = (14, 6, 0))
    simp only [Prod.mk.injEq, Nat.reduceEqDiff, Nat.reduceAdd, true_and, false_and, and_true, and_false, or_false, false_or, ne_eq, not_true_eq_false, not_false_eq_true, iff_false, false_iff, iff_self]
    try omega
  | (14, q, r), k => by
    show (q = 6 ∧ r = 0) ↔ ((((14 : Nat), q, r) = (0, 0, 0) ∧ (k = 4 ∨ k = 5 ∨ k = 7 ∨ 9 ≤ k ∧ k ≤ 13)) ∨ ((14 : Nat), q, r) = (15, 0, 0) ∨ ((14 : Nat), q, r) = (16, 0, 0) ∨ ((14 : Nat), q, r) = (2, 3, 0) ∨ ((14 : Nat), q, r) = (3, 3, 0) ∨ ((14 : Nat), q, r) = (4, 3, 0) ∨ ((14 : Nat), q, r) = (5, 3, 0) ∨ ((14 : Nat), q, r) = (12, 6, 0) ∨ ((14 : Nat), q, r) = (13, 6, 0) ∨ ((14 : Nat), q, r) = (14, 6, 0))
    simp only [Prod.mk.injEq, Nat.reduceEqDiff, Nat.reduceAdd, true_and, false_and, and_true, and_false, or_false, false_or, ne_eq, not_true_eq_false, not_false_eq_true, iff_false, false_iff, iff_self]
    try omega
  | (15, q, r), k => by
    show (q = 0 ∧ r = 0) ↔ ((((15 : Nat), q, r) = (0, 0, 0) ∧ (k = 4 ∨ k = 5 ∨ k = 7 ∨ 9 ≤ k ∧ k ≤ 13)) ∨ ((15 : Nat), q, r) = (15, 0, 0) ∨ ((15 : Nat), q, r) = (16, 0, 0) ∨ ((15 : Nat), q, r) = (2, 3, 0) ∨ ((15 : Nat), q, r) = (3, 3, 0) ∨ ((15 : Nat), q, r) = (4, 3, 0) ∨ ((15 : Nat), q, r) = (5, 3, 0) ∨ ((15 : Nat), q, r) = (12, 6, 0) ∨ ((15 : Nat), q, r) = (13, 6, 0) ∨ ((15 : Nat), q, r) = (14, 6, 0))
    simp only [Prod.mk.injEq, Nat.reduceEqDiff, Nat.reduceAdd, true_and, false_and, and_true, and_false, or_false, false_or, ne_eq, not_true_eq_false, not_false_eq_true, iff_false, false_iff, iff_self]
    try omega
  | (16, q, r), k => by
    show (q = 0 ∧ r = 0) ↔ ((((16 : Nat), q, r) = (0, 0, 0) ∧ (k = 4 ∨ k = 5 ∨ k = 7 ∨ 9 ≤ k ∧ k ≤ 13)) ∨ ((16 : Nat), q, r) = (15, 0, 0) ∨ ((16 : Nat), q, r) = (16, 0, 0) ∨ ((16 : Nat), q, r) = (2, 3, 0) ∨ ((16 : Nat), q, r) = (3, 3, 0) ∨ ((16 : Nat), q, r) = (4, 3, 0) ∨ ((16 : Nat), q, r) = (5, 3, 0) ∨ ((16 : Nat), q, r) = (12, 6, 0) ∨ ((16 : Nat), q, r) = (13, 6, 0) ∨ ((16 : Nat), q, r) = (14, 6, 0))
    simp only [Prod.mk.injEq, Nat.reduceEqDiff, Nat.reduceAdd, true_and, false_and, and_true, and_false, or_false, false_or, ne_eq, not_true_eq_false, not_false_eq_true, iff_false, false_iff, iff_self]
    try omega
  | (17, q, r), k => by
    show False ↔ ((((17 : Nat), q, r) = (0, 0, 0) ∧ (k = 4 ∨ k = 5 ∨ k = 7 ∨ 9 ≤ k ∧ k ≤ 13)) ∨ ((17 : Nat), q, r) = (15, 0, 0) ∨ ((17 : Nat), q, r) = (16, 0, 0) ∨ ((17 : Nat), q, r) = (2, 3, 0) ∨ ((17 : Nat), q, r) = (3, 3, 0) ∨ ((17 : Nat), q, r) = (4, 3, 0) ∨ ((17 : Nat), q, r) = (5, 3, 0) ∨ ((17 : Nat), q, r) = (12, 6, 0) ∨ ((17 : Nat), q, r) = (13, 6, 0) ∨ ((17 : Nat), q, r) = (14, 6, 0))
    simp only [Prod.mk.injEq, Nat.reduceEqDiff, Nat.reduceAdd, true_and, false_and, and_true, and_false, or_false, false_or, ne_eq, not_true_eq_false, not_false_eq_true, iff_false, false_iff, iff_self]
    try omega
  | (18, q, r), k => by
    show False ↔ ((((18 : Nat), q, r) = (0, 0, 0) ∧ (k = 4 ∨ k = 5 ∨ k = 7 ∨ 9 ≤ k ∧ k ≤ 13)) ∨ ((18 : Nat), q, r) = (15, 0, 0) ∨ ((18 : Nat), q, r) = (16, 0, 0) ∨ ((18 : Nat), q, r) = (2, 3, 0) ∨ ((18 : Nat), q, r) = (3, 3, 0) ∨ ((18 : Nat), q, r) = (4, 3, 0) ∨ ((18 : Nat), q, r) = (5, 3, 0) ∨ ((18 : Nat), q, r) = (12, 6, 0) ∨ ((18 : Nat), q, r) = (13, 6, 0) ∨ ((18 : Nat), q, r) = (14, 6, 0))
    simp only [Prod.mk.injEq, Nat.reduceEqDiff, Nat.reduceAdd, true_and, false_and, and_true, and_false, or_false, false_or, ne_eq, not_true_eq_false, not_false_eq_true, iff_false, false_iff, iff_self]
    try omega
  | (19, q, r), k => by
    show ((q = 0 ∧ r = 0) ∧ (k : Int) < 0) ↔ ((((19 : Nat), q, r) = (0, 0, 0) ∧ (k = 4 ∨ k = 5 ∨ k = 7 ∨ 9 ≤ k ∧ k ≤ 13)) ∨ ((19 : Nat), q, r) = (15, 0, 0) ∨ ((19 : Nat), q, r) = (16, 0, 0) ∨ ((19 : Nat), q, r) = (2, 3, 0) ∨ ((19 : Nat), q, r) = (3, 3, 0) ∨ ((19 : Nat), q, r) = (4, 3, 0) ∨ ((19 : Nat), q, r) = (5, 3, 0) ∨ ((19 : Nat), q, r) = (12, 6, 0) ∨ ((19 : Nat), q, r) = (13, 6, 0) ∨ ((19 : Nat), q, r) = (14, 6, 0))
    simp only [Prod.mk.injEq, Nat.reduceEqDiff, Nat.reduceAdd, true_and, false_and, and_true, and_false, or_false, false_or, ne_eq, not_true_eq_false, not_false_eq_true, iff_false, false_iff, iff_self]
    try omega
  | (20, q, r), k => by
    show (0 ≤ q ∧ q < 0 ∧ r = 0) ↔ ((((20 : Nat), q, r) = (0, 0, 0) ∧ (k = 4 ∨ k = 5 ∨ k = 7 ∨ 9 ≤ k ∧ k ≤ 13)) ∨ ((20 : Nat), q, r) = (15, 0, 0) ∨ ((20 : Nat), q, r) = (16, 0, 0) ∨ ((20 : Nat), q, r) = (2, 3, 0) ∨ ((20 : Nat), q, r) = (3, 3, 0) ∨ ((20 : Nat), q, r) = (4, 3, 0) ∨ ((20 : Nat), q, r) = (5, 3, 0) ∨ ((20 : Nat), q, r) = (12, 6, 0) ∨ ((20 : Nat), q, r) = (13, 6, 0) ∨ ((20 : Nat), q, r) = (14, 6, 0))
    simp only [Prod.mk.injEq, Nat.reduceEqDiff, Nat.reduceAdd, true_and, false_and, and_true, and_false, or_false, false_or, ne_eq, not_true_eq_false, not_false_eq_true, iff_false, false_iff, iff_self]
    try omega
  | (21, q, r), k => by
    show (0 ≤ q ∧ q < 0 ∧ r = 0) ↔ ((((21 : Nat), q, r) = (0, 0, 0) ∧ (k = 4 ∨ k = 5 ∨ k = 7 ∨ 9 ≤ k ∧ k ≤ 13)) ∨ ((21 : Nat), q, r) = (15, 0, 0) ∨ ((21 : Nat), q, r) = (16, 0, 0) ∨ ((21 : Nat), q, r) = (2, 3, 0) ∨ ((21 : Nat), q, r) = (3, 3, 0) ∨ ((21 : Nat), q, r) = (4, 3, 0) ∨ ((21 : Nat), q, r) = (5, 3, 0) ∨ ((21 : Nat), q, r) = (12, 6, 0) ∨ ((21 : Nat), q, r) = (13, 6, 0) ∨ ((21 : Nat), q, r) = (14, 6, 0))
    simp only [Prod.mk.injEq, Nat.reduceEqDiff, Nat.reduceAdd, true_and, false_and, and_true, and_false, or_false, false_or, ne_eq, not_true_eq_false, not_false_eq_true, iff_false, false_iff, iff_self]
    try omega
  | (22, q, r), k => by
    show False ↔ ((((22 : Nat), q, r) = (0, 0, 0) ∧ (k = 4 ∨ k = 5 ∨ k = 7 ∨ 9 ≤ k ∧ k ≤ 13)) ∨ ((22 : Nat), q, r) = (15, 0, 0) ∨ ((22 : Nat), q, r) = (16, 0, 0) ∨ ((22 : Nat), q, r) = (2, 3, 0) ∨ ((22 : Nat), q, r) = (3, 3, 0) ∨ ((22 : Nat), q, r) = (4, 3, 0) ∨ ((22 : Nat), q, r) = (5, 3, 0) ∨ ((22 : Nat), q, r) = (12, 6, 0) ∨ ((22 : Nat), q, r) = (13, 6, 0) ∨ ((22 : Nat), q, r) = (14, 6, 0))
    simp only [Prod.mk.injEq, Nat.reduceEqDiff, Nat.reduceAdd, true_and, false_and, and_true, and_false, or_false, false_or, ne_eq, not_true_eq_false, not_false_eq_true, iff_false, false_iff, iff_self]
    try omega
  | (23, q, r), k => by
    show False ↔ ((((23 : Nat), q, r) = (0, 0, 0) ∧ (k = 4 ∨ k = 5 ∨ k = 7 ∨ 9 ≤ k ∧ k ≤ 13)) ∨ ((23 : Nat), q, r) = (15, 0, 0) ∨ ((23 : Nat), q, r) = (16, 0, 0) ∨ ((23 : Nat), q, r) = (2, 3, 0) ∨ ((23 : Nat), q, r) = (3, 3, 0) ∨ ((23 : Nat), q, r) = (4, 3, 0) ∨ ((23 : Nat), q, r) = (5, 3, 0) ∨ ((23 : Nat), q, r) = (12, 6, 0) ∨ ((23 : Nat), q, r) = (13, 6, 0) ∨ ((23 : Nat), q, r) = (14, 6, 0))
    simp only [Prod.mk.injEq, Nat.reduceEqDiff, Nat.reduceAdd, true_and, false_and, and_true, and_false, or_false, false_or, ne_eq, not_true_eq_false, not_false_eq_true, iff_false, false_iff, iff_self]
    try omega
  | (p + 24, q, r), k => by
    show False ↔ ((((p + 24 : Nat), q, r) = (0, 0, 0) ∧ (k = 4 ∨ k = 5 ∨ k = 7 ∨ 9 ≤ k ∧ k ≤ 13)) ∨ ((p + 24 : Nat), q, r) = (15, 0, 0) ∨ ((p + 24 : Nat), q, r) = (16, 0, 0) ∨ ((p + 24 : Nat), q, r) = (2, 3, 0) ∨ ((p + 24 : Nat), q, r) = (3, 3, 0) ∨ ((p + 24 : Nat), q, r) = (4, 3, 0) ∨ ((p + 24 : Nat), q, r) = (5, 3, 0) ∨ ((p + 24 : Nat), q, r) = (12, 6, 0) ∨ ((p + 24 : Nat), q, r) = (13, 6, 0) ∨ ((p + 24 : Nat), q, r) = (14, 6, 0))
    simp only [Prod.mk.injEq, Nat.reduceEqDiff, Nat.reduceAdd, true_and, false_and, and_true, and_false, or_false, false_or, ne_eq, not_true_eq_false, not_false_eq_true, iff_false, false_iff, iff_self]
    try omega
theorem DG_GB {n m : Int} : ∀ {o : Ob} {k : Nat}, DG n m o k → GB n m o
  | (0, _, _), _, h => h.1
  | (1, _, _), _, h => h
  | (2, _, _), _, h => h
  | (3, _, _), _, h => h
  | (4, _, _), _, h => h
  | (5, _, _), _, h => h
  | (6, _, _), _, h => h
  | (7, _, _), _, h => h
  | (8, _, _), _, h => h
  | (9, _, _), _, h => h
  | (10, _, _), _, h => h
  | (11, _, _), _, h => h
  | (12, _, _), _, h => h
  | (13, _, _), _, h => h
  | (14, _, _), _, h => h
  | (15, _, _), _, h => h
  | (16, _, _), _, h => h
  | (17, _, _), _, h => h.elim
  | (18, _, _), _, h => h.elim
  | (19, _, _), _, h => h.1
  | (20, _, _), _, h => h
  | (21, _, _), _, h => h
  | (22, _, _), _, h => h.elim
  | (23, _, _), _, h => h.elim
  | (_ + 24, _, _), _, h => h
theorem GB_R (o : Ob) : GB 3 6 o ↔ (o = (0, 0, 0) ∨ NGo o) := by
  rw [GB_VC]
  obtain ⟨p, q, r⟩ := o
  by_cases hp : p = 0
  · subst hp
    show (q = 0 ∧ r = 0) ↔ (((0 : Nat), q, r) = (0, 0, 0) ∨ ((q = 0 ∧ r = 0) ∧ (0 : Nat) ≠ 0))
    simp only [Prod.mk.injEq, Nat.reduceEqDiff, Nat.reduceAdd, true_and, false_and, and_true, and_false, or_false, false_or, ne_eq, not_true_eq_false, not_false_eq_true, iff_false, false_iff, iff_self]
    try omega
  · rw [ne_tag hp, false_or]
    exact ⟨fun h => ⟨h, hp⟩, fun h => h.1⟩
theorem NT_no {V : Ob → Prop} {t : Int} (hn : ∀ o, NGo o → ¬ V o) (ht : 0 ≤ t ∧ t < 3) : ∀ o, NT t o → ¬ kW V (fun o' => GB t 0 o' ∨ o' = (1, t, 0)) o
  | (0, _, _), h => h.1.elim
  | (1, _, _), h => absurd rfl h.2
  | (2, q, r), ⟨h, _⟩ => by
    have h : q = t ∧ 0 ≤ r ∧ r < 4 := h
    refine fun z => z.elim (hn _ ⟨v_2 (by omega), by simp⟩) (fun z => z.elim (fun (z : (0 ≤ q ∧ q < t ∧ 0 ≤ r ∧ r < 4 ∨ q = 3 ∧ r = 0)) => by omega) (fun z => by cases z))
  | (3, q, r), ⟨h, _⟩ => by
    have h : q = t ∧ 0 ≤ r ∧ r < 4 := h
    refine fun z => z.elim (hn _ ⟨v_3 (by omega), by simp⟩) (fun z => z.elim (fun (z : (0 ≤ q ∧ q < t ∧ 0 ≤ r ∧ r < 4 ∨ q = 3 ∧ r = 0)) => by omega) (fun z => by cases z))
  | (4, q, r), ⟨h, _⟩ => by
    have h : q = t ∧ 0 ≤ r ∧ r < 6 := h
    refine fun z => z.elim (hn _ ⟨v_4 (by omega), by simp⟩) (fun z => z.elim (fun (z : (0 ≤ q ∧ q < t ∧ 0 ≤ r ∧ r < 6 ∨ q = 3 ∧ r = 0)) => by omega) (fun z => by cases z))
  | (5, q, r), ⟨h, _⟩ => by
    have h : q = t ∧ 0 ≤ r ∧ r < 6 := h
    refine fun z => z.elim (hn _ ⟨v_5 (by omega), by simp⟩) (fun z => z.elim (fun (z : (0 ≤ q ∧ q < t ∧ 0 ≤ r ∧ r < 6 ∨ q = 3 ∧ r = 0)) => by omega) (fun z => by cases z))
  | (6, q, r), ⟨h, _⟩ => by
    have h : q = t ∧ 0 ≤ r ∧ r < 3 := h
    refine fun z => z.elim (hn _ ⟨v_6 (by omega), by simp⟩) (fun z => z.elim (fun (z : (0 ≤ q ∧ q < t ∧ 0 ≤ r ∧ r < 3)) => by omega) (fun z => by cases z))
  | (7, q, r), ⟨h, _⟩ => by
    have h : q = t ∧ 0 ≤ r ∧ r < 3 := h
    refine fun z => z.elim (hn _ ⟨v_7 (by omega), by simp⟩) (fun z => z.elim (fun (z : (0 ≤ q ∧ q < t ∧ 0 ≤ r ∧ r < 3)) => by omega) (fun z => by cases z))
  | (8, q, r), ⟨h, _⟩ => by
    have h : q = t ∧ 0 ≤ r ∧ r < 3 := h
    refine fun z => z.elim (hn _ ⟨v_8 (by omega), by simp⟩) (fun z => z.elim (fun (z : (0 ≤ q ∧ q < t ∧ 0 ≤ r ∧ r < 3)) => by omega) (fun z => by cases z))
  | (9, q, r), ⟨h, _⟩ => by
    have h : q = t ∧ 0 ≤ r ∧ r < 3 := h
    refine fun z => z.elim (hn _ ⟨v_9 (by omega), by simp⟩) (fun z => z.elim (fun (z : (0 ≤ q ∧ q < t ∧ 0 ≤ r ∧ r < 3)) => by omega) (fun z => by cases z))
  | (10, q, r), ⟨h, _⟩ => by
    have h : q = t ∧ r = 0 := h
    refine fun z => z.elim (hn _ ⟨v_10 (by omega), by simp⟩) (fun z => z.elim (fun (z : (0 ≤ q ∧ q < t ∧ r = 0)) => by omega) (fun z => by cases z))
  | (11, q, r), ⟨h, _⟩ => by
    have h : q = t ∧ r = 0 := h
    refine fun z => z.elim (hn _ ⟨v_11 (by omega), by simp⟩) (fun z => z.elim (fun (z : (0 ≤ q ∧ q < t ∧ r = 0)) => by omega) (fun z => by cases z))
  | (12, _, _), h => h.1.elim
  | (13, _, _), h => h.1.elim
  | (14, _, _), h => h.1.elim
  | (15, _, _), h => h.1.elim
  | (16, _, _), h => h.1.elim
  | (17, _, _), h => h.1.elim
  | (18, _, _), h => h.1.elim
  | (19, _, _), h => h.1.elim
  | (20, _, _), h => h.1.elim
  | (21, _, _), h => h.1.elim
  | (22, _, _), h => h.1.elim
  | (23, _, _), h => h.1.elim
  | (_ + 24, _, _), h => h.1.elim
