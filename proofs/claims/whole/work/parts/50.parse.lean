/-! ===== how a house's text is read: the grammar, what it makes, what it means ===== -/
/-- well read?; the place behind; what a House does for it; what it says -/
abbrev Rd : Type := Bool × Int × List (Int × Int) × ((Int → Int) → Bool)
def rdF (a : Int) : Rd := (false, a, [], fun _ => false)
def chA (tx : Tn) (tl a : Int) : Int := if a < tl then tx a else -1
def dgP (c : Int) : Bool := decide (48 ≤ c ∧ c ≤ 57)
def nuN (tx : Tn) (tl a : Int) : Int := if dgP (chA tx tl a) = true then (if dgP (chA tx tl (a + 1)) = true then 10 * (chA tx tl a - 48) + (chA tx tl (a + 1) - 48) else chA tx tl a - 48) else -1
def nuA (tx : Tn) (tl a : Int) : Int := if dgP (chA tx tl a) = true then (if dgP (chA tx tl (a + 1)) = true then a + 2 else a + 1) else a
def lxT (c : Int) : Int := if c = 112 then 0 else if c = 107 then 1 else if c = 118 then 2 else if c = 103 then 3 else if c = 116 then 4 else if c = 100 then 5 else -1
def sgT (c : Int) : Int := if c = 60 then 0 else if c = 61 then 1 else if c = 62 then 2 else -1
def testS (tx : Tn) (tl a : Int) : Rd := if lxT (chA tx tl a) = -1 then rdF a else if sgT (chA tx tl (a + 1)) = -1 then rdF (a + 1) else if nuN tx tl (a + 2) = -1 then rdF (a + 2) else (true, nuA tx tl (a + 2), [(3 * lxT (chA tx tl a) + sgT (chA tx tl (a + 1)), nuN tx tl (a + 2))], fun vals => tstS (sgT (chA tx tl (a + 1))) (vals (lxT (chA tx tl a))) (nuN tx tl (a + 2)))
def notR (r : Rd) : Rd := if r.1 = true then (true, r.2.1, r.2.2.1 ++ [(18, 0)], fun v => !(r.2.2.2 v)) else rdF r.2.1
def parR (tx : Tn) (tl : Int) (r : Rd) : Rd := if r.1 = true then (if chA tx tl r.2.1 = 41 then (true, r.2.1 + 1, r.2.2.1, r.2.2.2) else rdF r.2.1) else rdF r.2.1
def andR (r q : Rd) : Rd := (true, q.2.1, r.2.2.1 ++ q.2.2.1 ++ [(19, 0)], fun v => r.2.2.2 v && q.2.2.2 v)
def orR (r q : Rd) : Rd := (true, q.2.1, r.2.2.1 ++ q.2.2.1 ++ [(20, 0)], fun v => r.2.2.2 v || q.2.2.2 v)
def facS (F A : Int → Int → Rd) (tx : Tn) (tl d a : Int) : Rd := if chA tx tl a = 33 ∧ d < 4 then notR (F (d + 1) (a + 1)) else if chA tx tl a = 40 ∧ d < 4 then parR tx tl (A (d + 1) (a + 1)) else testS tx tl a
def thenS (F : Int → Int → Rd) (N : Int → Rd → Rd) (d a : Int) : Rd := if (F d a).1 = true then N d (F d a) else rdF (F d a).2.1
def lpaS (F : Int → Int → Rd) (N : Int → Rd → Rd) (tx : Tn) (tl d : Int) (r : Rd) : Rd := if chA tx tl r.2.1 = 38 then (if (F d (r.2.1 + 1)).1 = true then N d (andR r (F d (r.2.1 + 1))) else rdF (F d (r.2.1 + 1)).2.1) else r
def lpoS (B : Int → Int → Rd) (N : Int → Rd → Rd) (tx : Tn) (tl d : Int) (r : Rd) : Rd := if chA tx tl r.2.1 = 124 then (if (B d (r.2.1 + 1)).1 = true then N d (orR r (B d (r.2.1 + 1))) else rdF (B d (r.2.1 + 1)).2.1) else r
/-- factor, both, its loop, any, its loop; by fuel -/
def pS (tx : Tn) (tl : Int) : Nat → (Int → Int → Rd) × (Int → Int → Rd) × (Int → Rd → Rd) × (Int → Int → Rd) × (Int → Rd → Rd)
  | 0 => (fun _ a => rdF a, fun _ a => rdF a, fun _ r => rdF r.2.1, fun _ a => rdF a, fun _ r => rdF r.2.1)
  | n + 1 => (facS (pS tx tl n).1 (pS tx tl n).2.2.2.1 tx tl, thenS (pS tx tl n).1 (pS tx tl n).2.2.1, lpaS (pS tx tl n).1 (pS tx tl n).2.2.1 tx tl, thenS (pS tx tl n).2.1 (pS tx tl n).2.2.2.2, lpoS (pS tx tl n).2.1 (pS tx tl n).2.2.2.2 tx tl)
def fF (tx : Tn) (tl : Int) (n : Nat) : Int → Int → Rd := (pS tx tl n).1
def fB (tx : Tn) (tl : Int) (n : Nat) : Int → Int → Rd := (pS tx tl n).2.1
def fLA (tx : Tn) (tl : Int) (n : Nat) : Int → Rd → Rd := (pS tx tl n).2.2.1
def fA (tx : Tn) (tl : Int) (n : Nat) : Int → Int → Rd := (pS tx tl n).2.2.2.1
def fLO (tx : Tn) (tl : Int) (n : Nat) : Int → Rd → Rd := (pS tx tl n).2.2.2.2
theorem fF_s (tx : Tn) (tl : Int) (n : Nat) (d a : Int) : fF tx tl (n + 1) d a = facS (fF tx tl n) (fA tx tl n) tx tl d a := rfl
theorem fB_s (tx : Tn) (tl : Int) (n : Nat) (d a : Int) : fB tx tl (n + 1) d a = thenS (fF tx tl n) (fLA tx tl n) d a := rfl
theorem fLA_s (tx : Tn) (tl : Int) (n : Nat) (d : Int) (r : Rd) : fLA tx tl (n + 1) d r = lpaS (fF tx tl n) (fLA tx tl n) tx tl d r := rfl
theorem fA_s (tx : Tn) (tl : Int) (n : Nat) (d a : Int) : fA tx tl (n + 1) d a = thenS (fB tx tl n) (fLO tx tl n) d a := rfl
theorem fLO_s (tx : Tn) (tl : Int) (n : Nat) (d : Int) (r : Rd) : fLO tx tl (n + 1) d r = lpoS (fB tx tl n) (fLO tx tl n) tx tl d r := rfl
/-- what steps do -/
def runC (vals : Int → Int) : List (Int × Int) → Int × List Bool → Int × List Bool
  | [], s => s
  | c :: cs, s => runC vals cs (stepH c.1 c.2 vals s)
def okC (vals : Int → Int) (K : Nat) : List (Int × Int) → Int × List Bool → Prop
  | [], s => s.2.length ≤ K
  | c :: cs, s => s.2.length ≤ K ∧ okC vals K cs (stepH c.1 c.2 vals s)
theorem runC_app (vals : Int → Int) : ∀ (a b : List (Int × Int)) (s : Int × List Bool), runC vals (a ++ b) s = runC vals b (runC vals a s)
  | [], _, _ => rfl
  | _ :: a, b, _ => runC_app vals a b _
theorem okC_app {vals : Int → Int} {K : Nat} : ∀ {a b : List (Int × Int)} {s : Int × List Bool}, okC vals K a s → okC vals K b (runC vals a s) → okC vals K (a ++ b) s
  | [], _, _, _, h => h
  | _ :: _, _, _, h1, h2 => ⟨h1.1, okC_app h1.2 h2⟩
def opsC (c : List (Int × Int)) : Prop := ∀ x ∈ c, (0 ≤ x.1 ∧ x.1 ≤ 22) ∧ 0 ≤ x.2 ∧ x.2 ≤ 99
theorem opsC_app {a b : List (Int × Int)} (h1 : opsC a) (h2 : opsC b) : opsC (a ++ b) := fun x hx => by
  rcases List.mem_append.mp hx with h | h
  · exact h1 x h
  · exact h2 x h
theorem opsC_1 {x : Int × Int} (h : (0 ≤ x.1 ∧ x.1 ≤ 22) ∧ 0 ≤ x.2 ∧ x.2 ≤ 99) : opsC [x] := fun y hy => by
  rw [List.mem_singleton] at hy
  rw [hy]; exact h
/-- read from a on, with k on the stack at most -/
def gdR (tl a : Int) (k : Nat) (r : Rd) : Prop := r.2.1 ≤ tl ∧ (r.1 = false → a ≤ r.2.1) ∧ (r.1 = true → a + 1 ≤ r.2.1 ∧ (r.2.2.1.length : Int) ≤ r.2.1 - a ∧ opsC r.2.2.1 ∧ ∀ (vals : Int → Int) (s : Int × List Bool) (K : Nat), s.2.length + k ≤ K → okC vals K r.2.2.1 s ∧ runC vals r.2.2.1 s = (s.1, r.2.2.2 vals :: s.2))
section PARSE
variable {tx : Tn} {tl : Int}
theorem gd_F {a b : Int} {k : Nat} (h : b ≤ tl) (h2 : a ≤ b) : gdR tl a k (rdF b) := ⟨h, fun _ => h2, fun z => by cases z⟩
theorem chA_lt {a : Int} (h : chA tx tl a ≠ -1) : a < tl := by
  unfold chA at h
  split at h
  · assumption
  · exact absurd rfl h
theorem lxT_rg (c : Int) : -1 ≤ lxT c ∧ lxT c ≤ 5 := by unfold lxT; (repeat' split) <;> omega
theorem sgT_rg (c : Int) : -1 ≤ sgT c ∧ sgT c ≤ 2 := by unfold sgT; (repeat' split) <;> omega
theorem lxT_m1 : lxT (-1) = -1 := rfl
theorem sgT_m1 : sgT (-1) = -1 := rfl
theorem dgP_m1 : dgP (-1) = false := rfl
theorem dg_lt {a : Int} (h : dgP (chA tx tl a) = true) : a < tl ∧ 48 ≤ chA tx tl a ∧ chA tx tl a ≤ 57 := by
  have h2 : 48 ≤ chA tx tl a ∧ chA tx tl a ≤ 57 := by simpa [dgP] using h
  exact ⟨chA_lt (tx := tx) (by omega), h2⟩
theorem nu_rg (a : Int) (ha : a ≤ tl) : (nuN tx tl a = -1 ∧ nuA tx tl a = a) ∨ (0 ≤ nuN tx tl a ∧ nuN tx tl a ≤ 99 ∧ a + 1 ≤ nuA tx tl a ∧ nuA tx tl a ≤ tl) := by
  unfold nuN nuA
  by_cases h1 : dgP (chA tx tl a) = true
  · have g1 := dg_lt h1
    rw [if_pos h1, if_pos h1]
    by_cases h2 : dgP (chA tx tl (a + 1)) = true
    · have g2 := dg_lt h2
      rw [if_pos h2, if_pos h2]
      omega
    · rw [if_neg h2, if_neg h2]
      omega
  · rw [if_neg h1, if_neg h1]
    omega
theorem gd_test {a : Int} (ha : a ≤ tl) : gdR tl a 1 (testS tx tl a) := by
  unfold testS
  have g0 := lxT_rg (chA tx tl a)
  have g1 := sgT_rg (chA tx tl (a + 1))
  by_cases h0 : lxT (chA tx tl a) = -1
  · rw [if_pos h0]; exact gd_F ha (by omega)
  rw [if_neg h0]
  have l0 : a < tl := chA_lt (fun z => h0 (by rw [z]; rfl))
  by_cases h1 : sgT (chA tx tl (a + 1)) = -1
  · rw [if_pos h1]; exact gd_F (by omega) (by omega)
  rw [if_neg h1]
  have l1 : a + 1 < tl := chA_lt (fun z => h1 (by rw [z]; rfl))
  by_cases h2 : nuN tx tl (a + 2) = -1
  · rw [if_pos h2]; exact gd_F (by omega) (by omega)
  rw [if_neg h2]
  have g2 := nu_rg (tx := tx) (a + 2) (show a + 2 ≤ tl by omega)
  refine ⟨by simp only; omega, fun z => (by cases z), fun _ => ⟨by simp only; omega, by simp only [List.length_singleton]; omega, opsC_1 (by simp only; omega), fun vals s K hK => ?_⟩⟩
  have e1 : (3 * lxT (chA tx tl a) + sgT (chA tx tl (a + 1))) % 3 = sgT (chA tx tl (a + 1)) := by omega
  have e2 : (3 * lxT (chA tx tl a) + sgT (chA tx tl (a + 1))) / 3 = lxT (chA tx tl a) := by omega
  have es : stepH (3 * lxT (chA tx tl a) + sgT (chA tx tl (a + 1))) (nuN tx tl (a + 2)) vals s = (s.1, tstS (sgT (chA tx tl (a + 1))) (vals (lxT (chA tx tl a))) (nuN tx tl (a + 2)) :: s.2) := by
    unfold stepH
    rw [if_pos (by omega), e1, e2]
  refine ⟨⟨by omega, ?_⟩, ?_⟩
  · show (stepH _ _ vals s).2.length ≤ K
    rw [es]
    simp only [List.length_cons]
    omega
  · simp only [runC]
    rw [es]
theorem gd_k {a : Int} {k k' : Nat} {r : Rd} (h : gdR tl a k r) (hk : k ≤ k') : gdR tl a k' r := ⟨h.1, h.2.1, fun z => ⟨(h.2.2 z).1, (h.2.2 z).2.1, (h.2.2 z).2.2.1, fun vals s K hK => (h.2.2 z).2.2.2 vals s K (by omega)⟩⟩
theorem gd_not {a : Int} {k : Nat} {r : Rd} (h : gdR tl (a + 1) k r) (hk : 1 ≤ k) : gdR tl a k (notR r) := by
  unfold notR
  by_cases z : r.1 = true
  · rw [if_pos z]
    obtain ⟨h1, h2, h3, h4⟩ := h.2.2 z
    refine ⟨h.1, fun z => (by cases z), fun _ => ⟨by simp only; omega, by simp only [List.length_append, List.length_singleton]; omega, opsC_app h3 (opsC_1 (by simp only; omega)), fun vals s K hK => ?_⟩⟩
    obtain ⟨i1, i2⟩ := h4 vals s K hK
    refine ⟨okC_app i1 ?_, ?_⟩
    · rw [i2]
      exact ⟨by simp only [List.length_cons]; omega, by simp only [okC, stepH]; simp; omega⟩
    · rw [runC_app, i2]
      rfl
  · rw [if_neg z]
    have z' : r.1 = false := by cases e : r.1 <;> simp_all
    exact gd_F h.1 (by have := h.2.1 z'; omega)
theorem gd_par {a : Int} {k : Nat} {r : Rd} (h : gdR tl (a + 1) k r) : gdR tl a k (parR tx tl r) := by
  unfold parR
  by_cases z : r.1 = true
  · rw [if_pos z]
    obtain ⟨h1, h2, h3, h4⟩ := h.2.2 z
    by_cases q : chA tx tl r.2.1 = 41
    · rw [if_pos q]
      have := chA_lt (tx := tx) (tl := tl) (a := r.2.1) (by omega)
      exact ⟨by simp only; omega, fun z => (by cases z), fun _ => ⟨by simp only; omega, by simp only; omega, h3, h4⟩⟩
    · rw [if_neg q]
      exact gd_F h.1 (by omega)
  · rw [if_neg z]
    have z' : r.1 = false := by cases e : r.1 <;> simp_all
    exact gd_F h.1 (by have := h.2.1 z'; omega)
/-- two behind each other, and what binds them -/
theorem gd_two {a op : Int} {k : Nat} {r q : Rd} {f : Bool → Bool → Bool} (h : gdR tl a (k + 1) r) (hr : r.1 = true) (h2 : gdR tl (r.2.1 + 1) k q) (hq : q.1 = true) (hop : 0 ≤ op ∧ op ≤ 22) (hs : ∀ (vals : Int → Int) (x : Int) (b1 b2 : Bool) (l : List Bool), stepH op 0 vals (x, b2 :: b1 :: l) = (x, f b1 b2 :: l)) : gdR tl a (k + 1) (true, q.2.1, r.2.2.1 ++ q.2.2.1 ++ [(op, 0)], fun v => f (r.2.2.2 v) (q.2.2.2 v)) := by
  obtain ⟨i1, i2, i3, i4⟩ := h.2.2 hr
  obtain ⟨j1, j2, j3, j4⟩ := h2.2.2 hq
  refine ⟨h2.1, fun z => (by cases z), fun _ => ⟨by simp only; omega, by simp only [List.length_append, List.length_singleton]; omega, opsC_app (opsC_app i3 j3) (opsC_1 (by simp only; omega)), fun vals s K hK => ?_⟩⟩
  obtain ⟨u1, u2⟩ := i4 vals s K hK
  obtain ⟨v1, v2⟩ := j4 vals (runC vals r.2.2.1 s) K (by rw [u2]; simp only [List.length_cons]; omega)
  have e : runC vals (r.2.2.1 ++ q.2.2.1) s = (s.1, q.2.2.2 vals :: r.2.2.2 vals :: s.2) := by rw [runC_app, v2, u2]
  refine ⟨okC_app (okC_app u1 v1) ?_, ?_⟩
  · rw [e]
    have hl := v1
    refine ⟨?_, ?_⟩
    · have hlen : ∀ (c : List (Int × Int)) (s : Int × List Bool), okC vals K c s → (runC vals c s).2.length ≤ K := by
        intro c
        induction c with
        | nil => intro s h; exact h
        | cons x c ih => intro s h; exact ih _ h.2
      have := hlen _ _ v1
      rw [← runC_app, e] at this
      exact this
    · show (stepH op 0 vals _).2.length ≤ K
      rw [hs]
      simp only [List.length_cons]
      omega
  · rw [runC_app, e]
    simp only [runC]
    rw [hs]
theorem z_f {r : Rd} (z : ¬ r.1 = true) : r.1 = false := by cases e : r.1 <;> simp_all
theorem pS_gd : ∀ (n : Nat) (d : Int), 0 ≤ d → d ≤ 4 → (∀ a, a ≤ tl → gdR tl a (9 - 2 * d).toNat (fF tx tl n d a)) ∧ (∀ a, a ≤ tl → gdR tl a (10 - 2 * d).toNat (fB tx tl n d a)) ∧ (∀ a r, r.1 = true → gdR tl a (10 - 2 * d).toNat r → gdR tl a (10 - 2 * d).toNat (fLA tx tl n d r)) ∧ (∀ a, a ≤ tl → gdR tl a (11 - 2 * d).toNat (fA tx tl n d a)) ∧ ∀ a r, r.1 = true → gdR tl a (11 - 2 * d).toNat r → gdR tl a (11 - 2 * d).toNat (fLO tx tl n d r)
  | 0, d, _, _ => ⟨fun a h => gd_F h (Int.le_refl _), fun a h => gd_F h (Int.le_refl _), fun a r hr h => gd_F h.1 (by have := (h.2.2 hr).1; omega), fun a h => gd_F h (Int.le_refl _), fun a r hr h => gd_F h.1 (by have := (h.2.2 hr).1; omega)⟩
  | n + 1, d, h0, h4 => by
    obtain ⟨iF, iB, iLA, iA, iLO⟩ := pS_gd n d h0 h4
    refine ⟨fun a ha => ?_, fun a ha => ?_, fun a r hr h => ?_, fun a ha => ?_, fun a r hr h => ?_⟩
    · rw [fF_s]
      unfold facS
      by_cases c1 : chA tx tl a = 33 ∧ d < 4
      · rw [if_pos c1]
        have hl := chA_lt (tx := tx) (tl := tl) (a := a) (by omega)
        obtain ⟨jF, -, -, jA, -⟩ := pS_gd n (d + 1) (by omega) (by omega)
        exact gd_not (gd_k (jF (a + 1) (by omega)) (by omega)) (by omega)
      · rw [if_neg c1]
        by_cases c2 : chA tx tl a = 40 ∧ d < 4
        · rw [if_pos c2]
          have hl := chA_lt (tx := tx) (tl := tl) (a := a) (by omega)
          obtain ⟨jF, -, -, jA, -⟩ := pS_gd n (d + 1) (by omega) (by omega)
          exact gd_par (gd_k (jA (a + 1) (by omega)) (by omega))
        · rw [if_neg c2]
          exact gd_k (gd_test ha) (by omega)
    · rw [fB_s]
      unfold thenS
      have hf := iF a ha
      by_cases z : (fF tx tl n d a).1 = true
      · rw [if_pos z]
        exact iLA a _ z (gd_k hf (by omega))
      · rw [if_neg z]
        exact gd_F hf.1 (hf.2.1 (z_f z))
    · rw [fLA_s]
      unfold lpaS
      by_cases c : chA tx tl r.2.1 = 38
      · rw [if_pos c]
        have hl := chA_lt (tx := tx) (tl := tl) (a := r.2.1) (by omega)
        have hf := iF (r.2.1 + 1) (by omega)
        by_cases z : (fF tx tl n d (r.2.1 + 1)).1 = true
        · rw [if_pos z]
          refine iLA a _ rfl ?_
          rw [show (10 - 2 * d).toNat = (9 - 2 * d).toNat + 1 by omega] at h ⊢
          exact gd_two (f := fun b1 b2 => b1 && b2) h hr hf z (by omega) (fun vals x b1 b2 l => by simp [stepH, hdB, Bool.and_comm])
        · rw [if_neg z]
          exact gd_F hf.1 (by have := hf.2.1 (z_f z); have := (h.2.2 hr).1; omega)
      · rw [if_neg c]; exact h
    · rw [fA_s]
      unfold thenS
      have hf := iB a ha
      by_cases z : (fB tx tl n d a).1 = true
      · rw [if_pos z]
        exact iLO a _ z (gd_k hf (by omega))
      · rw [if_neg z]
        exact gd_F hf.1 (hf.2.1 (z_f z))
    · rw [fLO_s]
      unfold lpoS
      by_cases c : chA tx tl r.2.1 = 124
      · rw [if_pos c]
        have hl := chA_lt (tx := tx) (tl := tl) (a := r.2.1) (by omega)
        have hf := iB (r.2.1 + 1) (by omega)
        by_cases z : (fB tx tl n d (r.2.1 + 1)).1 = true
        · rw [if_pos z]
          refine iLO a _ rfl ?_
          rw [show (11 - 2 * d).toNat = (10 - 2 * d).toNat + 1 by omega] at h ⊢
          exact gd_two (f := fun b1 b2 => b1 || b2) h hr hf z (by omega) (fun vals x b1 b2 l => by simp [stepH, hdB, Bool.or_comm])
        · rw [if_neg z]
          exact gd_F hf.1 (by have := hf.2.1 (z_f z); have := (h.2.2 hr).1; omega)
      · rw [if_neg c]; exact h
end PARSE
/-! clauses -/
def mtc (tx : Tn) (tl : Int) : List Int → Int → Nat
  | [], _ => 0
  | c :: cs, a => if chA tx tl a = c then mtc tx tl cs (a + 1) + 1 else 0
def wdL (i : Int) : List Int := if i = 0 then [104, 101, 108, 112] else if i = 1 then [104, 105, 110, 100, 101, 114] else if i = 2 then [110, 101, 101, 100] else [97, 103, 101]
def wdI (tx : Tn) (tl a : Int) : Int := if chA tx tl a = 110 then 2 else if chA tx tl a = 97 then 3 else if chA tx tl (a + 1) = 105 then 1 else 0
def wdM (tx : Tn) (tl a : Int) : Nat := mtc tx tl (wdL (wdI tx tl a)) a
/-- behind the word, its blank, the number -/
def clA (tx : Tn) (tl a : Int) : Int := a + (wdL (wdI tx tl a)).length
abbrev Cl : Type := Int × List (Int × Int) × ((Int → Int) → Int) × Int × Int
def clF (c : Cl) (a : Int) : Bool × Cl := (false, a, c.2)
def hlp (w : Int) (r : Rd) (n : Int) (c : Cl) : Cl := (r.2.1, c.2.1 ++ r.2.2.1 ++ [(if w = 0 then 21 else 22, n)], fun v => c.2.2.1 v + (if r.2.2.2 v = true then (if w = 0 then n else -n) else 0), c.2.2.2)
/-- a clause, the any of its test given -/
def clS (tx : Tn) (tl : Int) (c : Cl) : Bool × Cl :=
  if (wdM tx tl c.1 : Int) < (wdL (wdI tx tl c.1)).length then clF c (c.1 + wdM tx tl c.1)
  else if chA tx tl (clA tx tl c.1) ≠ 32 then clF c (clA tx tl c.1)
  else if nuN tx tl (clA tx tl c.1 + 1) = -1 then clF c (clA tx tl c.1 + 1)
  else if wdI tx tl c.1 = 2 then (true, nuA tx tl (clA tx tl c.1 + 1), c.2.1, c.2.2.1, nuN tx tl (clA tx tl c.1 + 1), c.2.2.2.2)
  else if wdI tx tl c.1 = 3 then (true, nuA tx tl (clA tx tl c.1 + 1), c.2.1, c.2.2.1, c.2.2.2.1, nuN tx tl (clA tx tl c.1 + 1))
  else if chA tx tl (nuA tx tl (clA tx tl c.1 + 1)) ≠ 32 then clF c (nuA tx tl (clA tx tl c.1 + 1))
  else if (fA tx tl 1000 0 (nuA tx tl (clA tx tl c.1 + 1) + 1)).1 = true then (true, hlp (wdI tx tl c.1) (fA tx tl 1000 0 (nuA tx tl (clA tx tl c.1 + 1) + 1)) (nuN tx tl (clA tx tl c.1 + 1)) c)
  else clF c (fA tx tl 1000 0 (nuA tx tl (clA tx tl c.1 + 1) + 1)).2.1
/-- clauses, m at most -/
def alS (tx : Tn) (tl : Int) : Nat → Cl → Bool × Cl
  | 0, c => (false, c)
  | m + 1, c => if (clS tx tl c).1 = true then (if chA tx tl (clS tx tl c).2.1 = 59 ∧ m ≠ 0 then alS tx tl m ((clS tx tl c).2.1 + 1, (clS tx tl c).2.2) else (decide ((clS tx tl c).2.1 = tl), (clS tx tl c).2)) else (false, (clS tx tl c).2)
def rdS (tx : Tn) (tl : Int) : Bool × Cl := alS tx tl 10 (0, [], fun _ => 0, 10, 0)
/-- the house of a text -/
def hsS (tx : Tn) (tl : Int) : Hs := ((rdS tx tl).2.2.2.1, (rdS tx tl).2.2.2.2.1, (rdS tx tl).2.2.2.2.2)
section CLAUSE
variable {tx : Tn} {tl : Int}
theorem mtc_rg : ∀ (w : List Int) (a : Int), a ≤ tl → (∀ c ∈ w, c ≠ -1) → mtc tx tl w a ≤ w.length ∧ a + mtc tx tl w a ≤ tl
  | [], a, h, _ => by simp [mtc]; exact h
  | c :: w, a, h, hw => by
    simp only [mtc]
    split
    · rename_i e
      have hl := chA_lt (tx := tx) (tl := tl) (a := a) (by rw [e]; exact hw c (by simp))
      have := mtc_rg w (a + 1) (by omega) (fun x hx => hw x (by simp [hx]))
      simp only [List.length_cons]
      omega
    · simp
      exact h
theorem wdL_ne (i : Int) : ∀ c ∈ wdL i, c ≠ -1 := by unfold wdL; (repeat' split) <;> decide
theorem wdL_len (i : Int) : 3 ≤ (wdL i).length ∧ (wdL i).length ≤ 6 := by unfold wdL; (repeat' split) <;> decide
/-- clauses read so far -/
def gdC (tl : Int) (c : Cl) : Prop := (0 ≤ c.1 ∧ c.1 ≤ tl) ∧ (c.2.1.length : Int) ≤ c.1 ∧ opsC c.2.1 ∧ (∀ vals, okC vals 24 c.2.1 (0, []) ∧ runC vals c.2.1 (0, []) = (c.2.2.1 vals, [])) ∧ (0 ≤ c.2.2.2.1 ∧ c.2.2.2.1 ≤ 99) ∧ 0 ≤ c.2.2.2.2 ∧ c.2.2.2.2 ≤ 99
theorem gd_cl {c : Cl} (h : gdC tl c) : (c.1 ≤ (clS tx tl c).2.1 ∧ (clS tx tl c).2.1 ≤ tl) ∧ ((clS tx tl c).1 = true → gdC tl (clS tx tl c).2 ∧ c.1 < (clS tx tl c).2.1) := by
  obtain ⟨⟨h1, h2⟩, h3, h4, h5, h6, h7⟩ := h
  have hm := mtc_rg (tx := tx) (tl := tl) (wdL (wdI tx tl c.1)) c.1 h2 (wdL_ne _)
  have hl := wdL_len (wdI tx tl c.1)
  have hmd : wdM tx tl c.1 = mtc tx tl (wdL (wdI tx tl c.1)) c.1 := rfl
  unfold clS
  by_cases c1 : (wdM tx tl c.1 : Int) < (wdL (wdI tx tl c.1)).length
  · rw [if_pos c1]
    exact ⟨⟨by simp only [clF]; omega, by simp only [clF]; omega⟩, fun z => (by cases z)⟩
  rw [if_neg c1]
  have hA : clA tx tl c.1 = c.1 + (wdL (wdI tx tl c.1)).length := rfl
  by_cases c2 : chA tx tl (clA tx tl c.1) ≠ 32
  · rw [if_pos c2]
    exact ⟨⟨by simp only [clF]; omega, by simp only [clF]; omega⟩, fun z => (by cases z)⟩
  rw [if_neg c2]
  have l2 := chA_lt (tx := tx) (tl := tl) (a := clA tx tl c.1) (by omega)
  by_cases c3 : nuN tx tl (clA tx tl c.1 + 1) = -1
  · rw [if_pos c3]
    exact ⟨⟨by simp only [clF]; omega, by simp only [clF]; omega⟩, fun z => (by cases z)⟩
  rw [if_neg c3]
  have hn := nu_rg (tx := tx) (tl := tl) (clA tx tl c.1 + 1) (by omega)
  by_cases c4 : wdI tx tl c.1 = 2
  · rw [if_pos c4]
    exact ⟨⟨by simp only; omega, by simp only; omega⟩, fun _ => ⟨⟨⟨by simp only; omega, by simp only; omega⟩, by simp only; omega, h4, h5, by simp only; omega, h7⟩, by simp only; omega⟩⟩
  rw [if_neg c4]
  by_cases c5 : wdI tx tl c.1 = 3
  · rw [if_pos c5]
    exact ⟨⟨by simp only; omega, by simp only; omega⟩, fun _ => ⟨⟨⟨by simp only; omega, by simp only; omega⟩, by simp only; omega, h4, h5, h6, by simp only; omega⟩, by simp only; omega⟩⟩
  rw [if_neg c5]
  by_cases c6 : chA tx tl (nuA tx tl (clA tx tl c.1 + 1)) ≠ 32
  · rw [if_pos c6]
    exact ⟨⟨by simp only [clF]; omega, by simp only [clF]; omega⟩, fun z => (by cases z)⟩
  rw [if_neg c6]
  have l6 := chA_lt (tx := tx) (tl := tl) (a := nuA tx tl (clA tx tl c.1 + 1)) (by omega)
  have hg := (pS_gd (tx := tx) (tl := tl) 1000 0 (by decide) (by decide)).2.2.2.1 (nuA tx tl (clA tx tl c.1 + 1) + 1) (by omega)
  generalize fA tx tl 1000 0 (nuA tx tl (clA tx tl c.1 + 1) + 1) = r at hg ⊢
  by_cases z : r.1 = true
  · rw [if_pos z]
    obtain ⟨g1, g2, g3, g4⟩ := hg.2.2 z
    have gt := hg.1
    refine ⟨⟨by simp only [hlp]; omega, by simp only [hlp]; omega⟩, fun _ => ⟨⟨⟨by simp only [hlp]; omega, by simp only [hlp]; omega⟩, by simp only [hlp, List.length_append, List.length_singleton]; omega, opsC_app (opsC_app h4 g3) (opsC_1 ?_), fun vals => ?_, h6, h7⟩, by simp only [hlp]; omega⟩⟩
    · simp only
      split <;> omega
    · obtain ⟨u1, u2⟩ := h5 vals
      obtain ⟨v1, v2⟩ := g4 vals (runC vals c.2.1 (0, [])) 24 (by rw [u2]; simp)
      have e : runC vals (c.2.1 ++ r.2.2.1) (0, []) = (c.2.2.1 vals, [r.2.2.2 vals]) := by rw [runC_app, v2, u2]
      have es : stepH (if wdI tx tl c.1 = 0 then 21 else 22) (nuN tx tl (clA tx tl c.1 + 1)) vals (c.2.2.1 vals, [r.2.2.2 vals]) = (c.2.2.1 vals + (if r.2.2.2 vals = true then (if wdI tx tl c.1 = 0 then nuN tx tl (clA tx tl c.1 + 1) else -(nuN tx tl (clA tx tl c.1 + 1))) else 0), []) := by
        unfold stepH
        by_cases q : wdI tx tl c.1 = 0
        · simp only [q, if_true, hdB, List.headD_cons]
          cases r.2.2.2 vals <;> simp
        · simp only [q, if_false, hdB, List.headD_cons]
          cases r.2.2.2 vals <;> simp
          omega
      refine ⟨okC_app (okC_app u1 v1) ?_, ?_⟩
      · rw [e]
        refine ⟨by simp, ?_⟩
        show (stepH _ _ vals _).2.length ≤ 24
        rw [es]
        simp
      · show runC vals (c.2.1 ++ r.2.2.1 ++ [(if wdI tx tl c.1 = 0 then 21 else 22, nuN tx tl (clA tx tl c.1 + 1))]) (0, []) = _
        rw [runC_app, e]
        exact es
  · rw [if_neg z]
    have := hg.2.1 (z_f z)
    have gt := hg.1
    exact ⟨⟨by simp only [clF]; omega, by simp only [clF]; omega⟩, fun z => (by cases z)⟩
theorem gd_al : ∀ (m : Nat) (c : Cl), gdC tl c → (c.1 ≤ (alS tx tl m c).2.1 ∧ (alS tx tl m c).2.1 ≤ tl) ∧ ((alS tx tl m c).1 = true → gdC tl (alS tx tl m c).2)
  | 0, c, h => ⟨⟨Int.le_refl _, h.1.2⟩, fun z => by cases z⟩
  | m + 1, c, h => by
    obtain ⟨⟨i1, i2⟩, i3⟩ := gd_cl (tx := tx) h
    simp only [alS]
    by_cases z : (clS tx tl c).1 = true
    · rw [if_pos z]
      obtain ⟨j1, j2⟩ := i3 z
      by_cases q : chA tx tl (clS tx tl c).2.1 = 59 ∧ m ≠ 0
      · rw [if_pos q]
        have hl := chA_lt (tx := tx) (tl := tl) (a := (clS tx tl c).2.1) (by omega)
        obtain ⟨⟨k0, k0'⟩, k1, k2, k3, k4, k5⟩ := j1
        obtain ⟨⟨r1, r2⟩, r3⟩ := gd_al m ((clS tx tl c).2.1 + 1, (clS tx tl c).2.2) ⟨⟨by simp only; omega, by simp only; omega⟩, by simp only; omega, k2, k3, k4, k5⟩
        exact ⟨⟨by simp only at r1; omega, r2⟩, r3⟩
      · rw [if_neg q]
        exact ⟨⟨i1, i2⟩, fun _ => j1⟩
    · rw [if_neg z]
      exact ⟨⟨i1, i2⟩, fun z => by cases z⟩
theorem gd_rd (h : 0 ≤ tl) : (0 ≤ (rdS tx tl).2.1 ∧ (rdS tx tl).2.1 ≤ tl) ∧ ((rdS tx tl).1 = true → gdC tl (rdS tx tl).2) :=
  gd_al 10 _ ⟨⟨by decide, h⟩, by decide, fun x hx => (by cases hx), fun vals => ⟨by simp [okC], rfl⟩, by decide, by decide⟩
/-- the House's cells are the steps of code -/
def HC (μ : Me) (h : Int) (code : List (Int × Int)) : Prop := μ (12, h, 0) 2 = code.length ∧ ∀ i : Nat, i < code.length → μ (13, h, 0) i = (code.getD i (0, 0)).1 ∧ μ (14, h, 0) i = (code.getD i (0, 0)).2
theorem take_s (code : List (Int × Int)) {n : Nat} (h : n < code.length) : code.take (n + 1) = code.take n ++ [code.getD n (0, 0)] := by
  rw [List.take_succ_eq_append_getElem h, List.getD_eq_getElem?_getD, List.getElem?_eq_getElem h]
  rfl
theorem runH_take {ops nums : Int → Int} {code : List (Int × Int)} (vals : Int → Int) (e : ∀ i : Nat, i < code.length → ops i = (code.getD i (0, 0)).1 ∧ nums i = (code.getD i (0, 0)).2) : ∀ n : Nat, n ≤ code.length → runH ops nums vals n = runC vals (code.take n) (0, [])
  | 0, _ => rfl
  | n + 1, hn => by
    rw [take_s code hn, runC_app, ← runH_take vals e n (by omega)]
    simp only [runH, runC]
    rw [(e n hn).1, (e n hn).2]
theorem okC_take {vals : Int → Int} {K : Nat} : ∀ {code : List (Int × Int)} {s : Int × List Bool}, okC vals K code s → ∀ n : Nat, (runC vals (code.take n) s).2.length ≤ K
  | [], _, h, n => by rw [List.take_nil]; exact h
  | c :: cs, s, h, 0 => h.1
  | c :: cs, s, h, n + 1 => okC_take h.2 n
theorem HC_ok {μ : Me} {h : Int} {c : Cl} (hc : HC μ h c.2.1) (hg : gdC tl c) (ht : tl ≤ 100) (hh : 0 ≤ h ∧ h < 6) (hn : μ (12, h, 0) 3 = c.2.2.2.1) (ha : μ (12, h, 0) 4 = c.2.2.2.2) : HouseOK μ h ∧ ∀ vals, bonH μ h vals = c.2.2.1 vals := by
  obtain ⟨g1, g2, g3, g4, g5, g6⟩ := hg
  obtain ⟨h1, h2⟩ := hc
  have hz : (hsz h : Int) = 100 := by unfold hsz; rw [if_neg (by omega)]; rfl
  refine ⟨⟨by omega, by omega, fun i a b => ?_, fun vals n hn => ?_, by omega, by omega, by omega, by omega⟩, fun vals => ?_⟩
  · obtain ⟨e1, e2⟩ := h2 i.toNat (by omega)
    rw [toNat_c a] at e1 e2
    have hm : c.2.1.getD i.toNat (0, 0) ∈ c.2.1 := by
      rw [List.getD_eq_getElem?_getD, List.getElem?_eq_getElem (show i.toNat < c.2.1.length by omega)]
      exact List.getElem_mem _
    have := g3 _ hm
    omega
  · rw [runH_take vals h2 n (by omega)]
    exact okC_take (g4 vals).1 n
  · unfold bonH
    rw [runH_take vals h2 _ (by omega), List.take_of_length_le (by omega), (g4 vals).2]
end CLAUSE
