/-! ===== a town as a row of 133 numbers; what days do to it ===== -/
noncomputable def pI (P : Prop) : Int := @ite Int P (Classical.propDecidable P) 1 0
theorem pI_t {P : Prop} (h : P) : pI P = 1 := by unfold pI; rw [if_pos h]
theorem pI_f {P : Prop} (h : ¬ P) : pI P = 0 := by unfold pI; rw [if_neg h]
theorem pI_rg (P : Prop) : 0 ≤ pI P ∧ pI P ≤ 1 := by
  rcases Classical.em P with h | h
  · rw [pI_t h]; omega
  · rw [pI_f h]; omega
theorem pI_c {P Q : Prop} (h : P ↔ Q) : pI P = pI Q := by rw [propext h]
theorem pI_b {b : Bool} {P : Prop} (h : b = true ↔ P) : bI b = pI P := by
  cases b
  · rw [pI_f (fun z => by have := h.mpr z; cases this)]; rfl
  · rw [pI_t (h.mp rfl)]; rfl
abbrev Tn : Type := Int → Int
/-- what a House adds, by what its TESTS look at; NEED; AGE -/
abbrev Hs : Type := ((Int → Int) → Int) × Int × Int
/-- the walk behind a day -/
def wkS (age day num walk : Int) : Int := if 0 < age ∧ day % age = 0 then wx walk (p2 ((num + day) % 12)) else walk
def hR (r : Int) : Int := if r = 0 then 6 else r - 1
def lbT (T : Tn) (p g sum : Int) : Int := lbS (T (16 + 10 * p)) (T (17 + 10 * p)) (T (19 + 10 * p)) (T (20 + 10 * p)) (T (22 + 10 * p + g)) (T 77) g sum
def vsT (T : Tn) (p g : Int) : Int → Int := valS p (T (16 + 10 * p)) (T (17 + 10 * p)) g (T (20 + 10 * p)) (T 77)
def lkT (S : Hs) (T : Tn) (p g w : Int) : Int := lbT T p g (alk w (T (18 + 10 * p)) + S.1 (vsT T p g))
/-- a GATE g LETS COMER p BY -/
def LTg (S : Hs) (T : Tn) (p g : Int) : Prop := ∃ k, 0 ≤ k ∧ k < T (4 * g) ∧ S.2.1 ≤ lkT S T p g (T (4 * g + 1 + k))
def LT (S : Hs) (T : Tn) (p : Int) : Prop := LTg S T p (T (19 + 10 * p))
/-- a day of the COMERS below i -/
noncomputable def dayF (S : Hs) (T : Tn) (i : Int) : Tn := fun k => if 16 ≤ k ∧ k < 16 + 10 * i then (if (k - 16) % 10 = 2 then wkS S.2.2 (T 77) ((k - 16) / 10) (T k) else if (k - 16) % 10 = 4 then min 9 (T k + (1 - pI (LT S T ((k - 16) / 10)))) else if (k - 16) % 10 = 5 then T k + pI (LT S T ((k - 16) / 10)) else T k) else T k
noncomputable def dayT (S : Hs) (T : Tn) : Tn := fun k => if k = 77 then T 77 + 1 else dayF S T (T 76) k
noncomputable def daysT (S : Hs) : Nat → Tn → Tn
  | 0, T => T
  | n + 1, T => dayT S (daysT S n T)
/-- the class's Town t is T -/
def CR (μ : Me) (t : Int) (T : Tn) (p : Int) : Prop := μ (4, t, p) 0 = p ∧ μ (4, t, p) 1 = T (16 + 10 * p) ∧ μ (4, t, p) 2 = T (17 + 10 * p) ∧ μ (4, t, p) 3 = T (18 + 10 * p) ∧ μ (4, t, p) 4 = T (19 + 10 * p) ∧ μ (4, t, p) 5 = T (20 + 10 * p) ∧ μ (4, t, p) 6 = T (21 + 10 * p) ∧ ∀ k, 0 ≤ k → k < 4 → μ (5, t, p) k = T (22 + 10 * p + k)
def GR (μ : Me) (t : Int) (T : Tn) (g : Int) : Prop := μ (2, t, g) 1 = T (4 * g) ∧ ∀ k, 0 ≤ k → k < 3 → μ (3, t, g) k = T (4 * g + 1 + k)
def RR (μ : Me) (t : Int) (T : Tn) : Prop := (μ (6, t, 0) 3 = T 79 ∧ ∀ k, 0 ≤ k → k < 5 → μ (7, t, 0) k = T (80 + 3 * k) ∧ μ (8, t, 0) k = T (81 + 3 * k) ∧ μ (9, t, 0) k = T (82 + 3 * k)) ∧ (μ (6, t, 1) 3 = T 95 ∧ ∀ k, 0 ≤ k → k < 10 → μ (7, t, 1) k = T (96 + 2 * k) ∧ μ (8, t, 1) k = T (97 + 2 * k)) ∧ (μ (6, t, 2) 3 = T 116 ∧ ∀ k, 0 ≤ k → k < 8 → μ (7, t, 2) k = T (117 + 2 * k) ∧ μ (8, t, 2) k = T (118 + 2 * k))
def SR (μ : Me) (t : Int) (T : Tn) : Prop := μ (1, t, 0) 5 = T 76 ∧ μ (1, t, 0) 6 = T 77 ∧ μ (1, t, 0) 7 = hR (T 78)
def TR (μ : Me) (t : Int) (T : Tn) : Prop := (∀ g, 0 ≤ g → g < 4 → GR μ t T g) ∧ (∀ p, 0 ≤ p → p < 6 → CR μ t T p) ∧ SR μ t T ∧ RR μ t T
/-- the numbers of a town are as told -/
def CI (T : Tn) (p : Int) : Prop := (0 ≤ T (16 + 10 * p) ∧ T (16 + 10 * p) ≤ 6) ∧ (0 ≤ T (17 + 10 * p) ∧ T (17 + 10 * p) ≤ 9) ∧ (0 ≤ T (18 + 10 * p) ∧ T (18 + 10 * p) < 4096) ∧ (0 ≤ T (19 + 10 * p) ∧ T (19 + 10 * p) ≤ 3) ∧ (0 ≤ T (20 + 10 * p) ∧ T (20 + 10 * p) ≤ 9) ∧ (0 ≤ T (21 + 10 * p) ∧ T (21 + 10 * p) ≤ T 77) ∧ ∀ k, 0 ≤ k → k < 4 → 0 ≤ T (22 + 10 * p + k) ∧ T (22 + 10 * p + k) ≤ 9
def GI (T : Tn) (g : Int) : Prop := (0 ≤ T (4 * g) ∧ T (4 * g) ≤ 3) ∧ ∀ k, 0 ≤ k → k < 3 → 0 ≤ T (4 * g + 1 + k) ∧ T (4 * g + 1 + k) < 4096
def PI1 (T : Tn) (a n : Int) : Prop := a = 0 ∨ a = 1 ∧ 0 ≤ n ∧ n < 40 ∧ n % 10 < T 76 ∨ a = 2 ∧ 0 ≤ n ∧ n < 4 ∨ a = 3 ∧ 0 ≤ n ∧ n < T 76
def RI (T : Tn) : Prop := (0 ≤ T 79 ∧ T 79 ≤ 5) ∧ (∀ k, 0 ≤ k → k < T 79 → (0 ≤ T (80 + 3 * k) ∧ T (80 + 3 * k) < T 76) ∧ (0 ≤ T (81 + 3 * k) ∧ T (81 + 3 * k) < 4) ∧ (0 ≤ T (82 + 3 * k) ∧ T (82 + 3 * k) ≤ 1)) ∧ (0 ≤ T 95 ∧ T 95 ≤ 10) ∧ (∀ k, 0 ≤ k → k < T 95 → PI1 T (T (96 + 2 * k)) (T (97 + 2 * k))) ∧ (0 ≤ T 116 ∧ T 116 ≤ 8) ∧ ∀ k, 0 ≤ k → k < T 116 → (0 ≤ T (117 + 2 * k) ∧ T (117 + 2 * k) < T 76) ∧ (0 ≤ T (118 + 2 * k) ∧ T (118 + 2 * k) ≤ 9999)
def TI (T : Tn) : Prop := (∀ g, 0 ≤ g → g < 4 → GI T g) ∧ (∀ p, 0 ≤ p → p < 6 → CI T p) ∧ (0 ≤ T 76 ∧ T 76 ≤ 6) ∧ 0 ≤ T 77 ∧ (0 ≤ T 78 ∧ T 78 ≤ 6) ∧ RI T
/-- the class's House of rule r is S -/
def HRel (μ : Me) (nh : Int) (r : Int) (S : Hs) : Prop := (0 ≤ hR r ∧ hR r < nh ∧ hR r < 6 ∨ hR r = 6) ∧ HouseOK μ (hR r) ∧ (∀ vals, bonH μ (hR r) vals = S.1 vals) ∧ μ (12, hR r, 0) 3 = S.2.1 ∧ μ (12, hR r, 0) 4 = S.2.2
theorem alk_c (a b : Int) : alk a b = alk b a := by
  unfold alk wx
  rw [Nat.xor_comm]
section SPEC
variable {μ : Me} {nh t p g : Int} {T : Tn} {S : Hs}
theorem TR.town (h : TR μ t T) (hI : TI T) (hH : HRel μ nh (T 78) S) (ht : 0 ≤ t ∧ t < 3) (hd : T 77 ≤ 20000) : TownOK μ nh t := by
  obtain ⟨-, -, ⟨s1, s2, s3⟩, -⟩ := h
  obtain ⟨-, -, i1, i2, i3, -⟩ := hI
  refine ⟨ht, by omega, by omega, ?_, by rw [s3]; exact hH.2.1⟩
  rw [s3]
  exact hH.1
theorem TR.comer (h : TR μ t T) (hI : TI T) (ht : 0 ≤ t ∧ t < 3) (hp : 0 ≤ p ∧ p < 6) (hd : T 77 ≤ 20000) : ComerOK μ t p := by
  obtain ⟨c0, c1, c2, c3, c4, c5, c6, c7⟩ := h.2.1 p hp.1 hp.2
  obtain ⟨i1, i2, i3, i4, i5, i6, i7⟩ := hI.2.1 p hp.1 hp.2
  refine ⟨by omega, by omega, by omega, by omega, by omega, by omega, by omega, by omega, fun k a b => ?_⟩
  rw [c7 k a b]
  exact i7 k a b
theorem TR.gate (h : TR μ t T) (hI : TI T) (hg : 0 ≤ g ∧ g < 4) : GateOK μ t g := by
  obtain ⟨c0, c1⟩ := h.1 g hg.1 hg.2
  obtain ⟨i1, i2⟩ := hI.1 g hg.1 hg.2
  refine ⟨by omega, fun k a b => ?_⟩
  rw [c1 k a b]
  exact i2 k a b
theorem TR.lb (h : TR μ t T) (hp : 0 ≤ p ∧ p < 6) (hg : 0 ≤ g ∧ g < 4) (sum : Int) : lbM μ t t p g sum = lbT T p g sum := by
  obtain ⟨c0, c1, c2, c3, c4, c5, c6, c7⟩ := h.2.1 p hp.1 hp.2
  unfold lbM lbT
  rw [c1, c2, c4, c5, c7 g hg.1 hg.2, h.2.2.1.2.1]
theorem TR.bn (h : TR μ t T) (hH : HRel μ nh (T 78) S) (hp : 0 ≤ p ∧ p < 6) : bnM μ t t p g = S.1 (vsT T p g) := by
  obtain ⟨c0, c1, c2, c3, c4, c5, c6, c7⟩ := h.2.1 p hp.1 hp.2
  unfold bnM vsT
  rw [c0, c1, c2, c5, h.2.2.1.2.1, h.2.2.1.2.2, hH.2.2.1]
theorem TR.nd (h : TR μ t T) (hH : HRel μ nh (T 78) S) : ndM μ t = S.2.1 := by
  unfold ndM
  rw [h.2.2.1.2.2, hH.2.2.2.1]
theorem TR.let (h : TR μ t T) (hH : HRel μ nh (T 78) S) (hI : TI T) (hp : 0 ≤ p ∧ p < 6) (hg : 0 ≤ g ∧ g < 4) : letM μ t t p g ↔ LTg S T p g := by
  obtain ⟨c0, c1, c2, c3, c4, c5, c6, c7⟩ := h.2.1 p hp.1 hp.2
  obtain ⟨g0, g1⟩ := h.1 g hg.1 hg.2
  obtain ⟨i1, i2⟩ := hI.1 g hg.1 hg.2
  unfold letM LTg
  rw [g0]
  refine exists_congr fun k => and_congr_right fun k1 => and_congr_right fun k2 => ?_
  rw [h.nd hH, h.lb hp hg, h.bn hH hp, g1 k k1 (by omega), c3]
  rfl
end SPEC
