/-! ===== counts, the best of many, fractions ===== -/
noncomputable def cntP (f : Int → Prop) : Nat → Int
  | 0 => 0
  | n + 1 => cntP f n + pI (f n)
theorem cntP_rg (f : Int → Prop) : ∀ n : Nat, 0 ≤ cntP f n ∧ cntP f n ≤ n
  | 0 => by simp [cntP]
  | n + 1 => by
    have ih := cntP_rg f n
    have h1 := pI_rg (f n)
    simp only [cntP]
    omega
theorem cntP_c {f h : Int → Prop} : ∀ n : Nat, (∀ p : Int, 0 ≤ p → p < n → (f p ↔ h p)) → cntP f n = cntP h n
  | 0, _ => rfl
  | n + 1, e => by
    have ih := cntP_c n (fun p a b => e p a (by omega))
    simp only [cntP]
    rw [ih, pI_c (e n (by omega) (by omega))]
/-- the first place where f is greatest, below n; and how much -/
def maxL (f : Int → Int) : Nat → Int × Int
  | 0 => (0, -1)
  | n + 1 => if (maxL f n).2 < f n then (n, f n) else maxL f n
theorem maxL_rg (f : Int → Int) : ∀ n : Nat, 0 ≤ (maxL f n).1 ∧ (maxL f n).1 ≤ n ∧ ((maxL f n).1 < n ∨ (maxL f n).1 = 0)
  | 0 => by simp [maxL]
  | n + 1 => by
    have ih := maxL_rg f n
    simp only [maxL]
    split
    · simp only; omega
    · omega
theorem maxL_b {f : Int → Int} {B : Int} (N : Nat) (h : ∀ k : Int, 0 ≤ k → k < N → 0 ≤ f k ∧ f k ≤ B) : ∀ n : Nat, n ≤ N → -1 ≤ (maxL f n).2 ∧ ((maxL f n).2 ≤ B ∨ (maxL f n).2 = -1) ∧ (0 < n → 0 ≤ (maxL f n).2 ∧ (maxL f n).2 = f (maxL f n).1)
  | 0, _ => by simp [maxL]
  | n + 1, hn => by
    have ih := maxL_b N h n (by omega)
    have h1 := h n (by omega) (by omega)
    simp only [maxL]
    split
    · exact ⟨by simp only; omega, by simp only; omega, fun _ => ⟨by simp only; omega, rfl⟩⟩
    · refine ⟨ih.1, ih.2.1, fun _ => ?_⟩
      by_cases h0 : 0 < n
      · exact ih.2.2 h0
      · have : n = 0 := by omega
        subst this
        simp only [maxL] at *
        omega
/-- no more once it is as much as can be -/
theorem maxL_stop {f : Int → Int} {B : Int} (N : Nat) (h : ∀ k : Int, 0 ≤ k → k < N → f k ≤ B) (n : Nat) (hm : B ≤ (maxL f n).2) : ∀ j : Nat, n + j ≤ N → maxL f (n + j) = maxL f n
  | 0, _ => rfl
  | j + 1, hj => by
    have ih := maxL_stop N h n hm j (by omega)
    have h1 := h ((n + j : Nat) : Int) (by omega) (by omega)
    show maxL f ((n + j) + 1) = _
    simp only [maxL]
    rw [ih, if_neg (by omega)]
theorem maxL_c {f h : Int → Int} : ∀ n : Nat, (∀ k : Int, 0 ≤ k → k < n → f k = h k) → maxL f n = maxL h n
  | 0, _ => rfl
  | n + 1, e => by
    have ih := maxL_c n (fun p a b => e p a (by omega))
    simp only [maxL]
    rw [ih, e n (by omega) (by omega)]
/-- the least number of MARKS alike by which comer p is let at g -/
def mnT (S : Hs) (T : Tn) (p g z : Int) : Prop := 0 ≤ z ∧ z ≤ 13 ∧ ∀ m, 0 ≤ m → m ≤ 12 → (z ≤ m ↔ S.2.1 ≤ lbT T p g (m + S.1 (vsT T p g)))
theorem mnT_of {μ : Me} {nh t p g z : Int} {T : Tn} {S : Hs} (h : mnP μ t t p g z) (hR0 : TR μ t T) (hH : HRel μ nh (T 78) S) (hp : 0 ≤ p ∧ p < 6) (hg : 0 ≤ g ∧ g < 4) : mnT S T p g z := by
  refine ⟨h.1, h.2.1, fun m a b => ?_⟩
  have := h.2.2 m a b
  rw [hR0.lb hp hg, hR0.bn hH hp, hR0.nd hH] at this
  exact this
/-- LETS BY of comer p, were its walk w and the gate's walks G -/
def LW (S : Hs) (T : Tn) (p g kn : Int) (G : Int → Int) (w : Int) : Prop := ∃ k, 0 ≤ k ∧ k < kn ∧ S.2.1 ≤ lbT T p g (alk (G k) w + S.1 (vsT T p g))
theorem LW_kn {S : Hs} {T : Tn} {p g kn w z : Int} {G : Int → Int} (h : mnT S T p g z) : (∃ k, 0 ≤ k ∧ k < kn ∧ z ≤ alk (G k) w) ↔ LW S T p g kn G w := by
  unfold LW
  refine exists_congr fun k => and_congr_right fun k1 => and_congr_right fun k2 => ?_
  exact h.2.2 _ (alk_rg _ _).1 (alk_rg _ _).2
theorem LW_c {S : Hs} {T : Tn} {p g kn w : Int} {G G' : Int → Int} (h : ∀ k, 0 ≤ k → k < kn → G k = G' k) : LW S T p g kn G w ↔ LW S T p g kn G' w := by
  unfold LW
  refine exists_congr fun k => and_congr_right fun k1 => and_congr_right fun k2 => ?_
  rw [h k k1 k2]
/-- how many one walk alone would let by -/
noncomputable def aloN (S : Hs) (T : Tn) (g w : Int) : Int := cntP (fun p => S.2.1 ≤ lkT S T p g w) (T 76).toNat
noncomputable def masT (S : Hs) (T : Tn) (g : Int) : Int × Int := maxL (aloN S T g) 4096
noncomputable def toldZ (S : Hs) (T : Tn) (w : Int) : Int := if 10 ≤ w ∧ w < 22 then (if (w - 10) % 3 < T (4 * ((w - 10) / 3)) then T (4 * ((w - 10) / 3) + 1 + (w - 10) % 3) else -5) else if 30 ≤ w ∧ w < 34 then (masT S T (w - 30)).1 else if 40 ≤ w ∧ w < 44 then (masT S T (w - 40)).2 else if w = 0 then T 77 else if w = 1 then S.2.1 else if w = 2 then S.2.2 else if w = 3 then whoT S T else if w = 4 then passT T else -1
/-- a fraction in lowest terms -/
def gcdI (a b : Int) : Int := ((Nat.gcd a.toNat b.toNat : Nat) : Int)
def fracZ (a b part : Int) : Int := if part = 0 then a / gcdI a b else b / gcdI a b
/-- the greatest d from 1 to n + 1 that divides both -/
def comL (a b : Int) : Nat → Int
  | 0 => 1
  | n + 1 => if a % ((n : Int) + 2) = 0 ∧ b % ((n : Int) + 2) = 0 then (n : Int) + 2 else comL a b n
theorem comL_ok (a b : Int) : ∀ n : Nat, (1 ≤ comL a b n ∧ comL a b n ≤ n + 1) ∧ (comL a b n ∣ a ∧ comL a b n ∣ b) ∧ ∀ d : Int, 1 ≤ d → d ≤ n + 1 → d ∣ a → d ∣ b → d ≤ comL a b n
  | 0 => by
    refine ⟨by simp [comL], ⟨Int.one_dvd _, Int.one_dvd _⟩, fun d h1 h2 _ _ => ?_⟩
    simp only [comL]
    omega
  | n + 1 => by
    obtain ⟨i1, i2, i3⟩ := comL_ok a b n
    simp only [comL]
    by_cases h : a % ((n : Int) + 2) = 0 ∧ b % ((n : Int) + 2) = 0
    · rw [if_pos h]
      refine ⟨by omega, ⟨Int.dvd_of_emod_eq_zero h.1, Int.dvd_of_emod_eq_zero h.2⟩, fun d h1 h2 _ _ => by omega⟩
    · rw [if_neg h]
      refine ⟨by omega, i2, fun d h1 h2 h3 h4 => ?_⟩
      by_cases e : d = (n : Int) + 2
      · subst e
        exact absurd ⟨Int.emod_eq_zero_of_dvd h3, Int.emod_eq_zero_of_dvd h4⟩ h
      · exact i3 d h1 (by omega) h3 h4
theorem gcdI_pos {a b : Int} (hb : 0 < b) : 0 < gcdI a b := by
  have := Nat.gcd_pos_of_pos_right a.toNat (show 0 < b.toNat by omega)
  unfold gcdI
  omega
theorem comL_gcd {a b : Int} (ha : 0 ≤ a) (hb : 0 < b) : comL a b (b.toNat - 1) = gcdI a b := by
  obtain ⟨i1, ⟨i2, i2'⟩, i3⟩ := comL_ok a b (b.toNat - 1)
  have hg := gcdI_pos (a := a) hb
  have d1 : gcdI a b ∣ a := by
    have h := Nat.gcd_dvd_left a.toNat b.toNat
    have h2 := Int.natCast_dvd_natCast.mpr h
    rwa [toNat_c ha] at h2
  have d2 : gcdI a b ∣ b := by
    have h := Nat.gcd_dvd_right a.toNat b.toNat
    have h2 := Int.natCast_dvd_natCast.mpr h
    rwa [toNat_c (by omega)] at h2
  have l1 : gcdI a b ≤ b := Int.le_of_dvd hb d2
  have h1 := i3 (gcdI a b) (by omega) (by omega) d1 d2
  have h2 : comL a b (b.toNat - 1) ≤ gcdI a b := by
    have e : comL a b (b.toNat - 1) = (((comL a b (b.toNat - 1)).toNat : Nat) : Int) := (toNat_c (by omega)).symm
    have ka : (comL a b (b.toNat - 1)).toNat ∣ a.toNat := by
      apply Int.natCast_dvd_natCast.mp
      rw [toNat_c ha, ← e]; exact i2
    have kb : (comL a b (b.toNat - 1)).toNat ∣ b.toNat := by
      apply Int.natCast_dvd_natCast.mp
      rw [← e, toNat_c (show 0 ≤ b by omega)]; exact i2'
    have kg := Nat.le_of_dvd (Nat.gcd_pos_of_pos_right a.toNat (show 0 < b.toNat by omega)) (Nat.dvd_gcd ka kb)
    unfold gcdI
    omega
  omega
noncomputable def meanZ (S : Hs) (T : Tn) (n part : Int) : Int := if (0 ≤ n ∧ n < 61) ∧ (0 ≤ part ∧ part < 2) ∧ T 76 ≠ 0 then fracZ (passT (daysT S n.toNat T)) (T 76) part else -9223372036854775808
noncomputable def oddsZ (S : Hs) (T : Tn) (c g part : Int) : Int := if (0 ≤ c ∧ c < T 76) ∧ (0 ≤ g ∧ g < 4) ∧ 0 ≤ part ∧ part < 2 then fracZ (cntP (fun m => LW S T c g (T (4 * g)) (fun k => T (4 * g + 1 + k)) (wx (T (18 + 10 * c)) (p2 m))) 12) 12 part else -9223372036854775808
/-- FEIGN: the least number of MARKS so far (13), the walk (-5) -/
noncomputable def feL (Lw : Int → Prop) (w0 : Int) : Nat → Int × Int
  | 0 => (13, -5)
  | n + 1 => @ite (Int × Int) (pop (wx w0 n) < (feL Lw w0 n).1 ∧ Lw n) (Classical.propDecidable _) (pop (wx w0 n), (n : Int)) (feL Lw w0 n)
theorem feL_t {Lw : Int → Prop} {w0 : Int} {n : Nat} (h : pop (wx w0 n) < (feL Lw w0 n).1 ∧ Lw n) : feL Lw w0 (n + 1) = (pop (wx w0 n), (n : Int)) := by simp only [feL]; rw [if_pos h]
theorem feL_f {Lw : Int → Prop} {w0 : Int} {n : Nat} (h : ¬ (pop (wx w0 n) < (feL Lw w0 n).1 ∧ Lw n)) : feL Lw w0 (n + 1) = feL Lw w0 n := by simp only [feL]; rw [if_neg h]
theorem feL_rg {Lw : Int → Prop} {w0 : Int} : ∀ n : Nat, ((feL Lw w0 n).1 = 13 ∧ (feL Lw w0 n).2 = -5) ∨ (0 ≤ (feL Lw w0 n).1 ∧ (feL Lw w0 n).1 ≤ 12 ∧ 0 ≤ (feL Lw w0 n).2 ∧ (feL Lw w0 n).2 < n)
  | 0 => Or.inl ⟨rfl, rfl⟩
  | n + 1 => by
    have ih := feL_rg (Lw := Lw) (w0 := w0) n
    have hp := pop_rg (wx w0 n)
    rcases Classical.em (pop (wx w0 n) < (feL Lw w0 n).1 ∧ Lw n) with h | h
    · rw [feL_t h]; right; simp only; omega
    · rw [feL_f h]; omega
noncomputable def feT (S : Hs) (T : Tn) (c g : Int) : Int × Int := feL (fun w => LW S T c g (T (4 * g)) (fun k => T (4 * g + 1 + k)) w) (T (18 + 10 * c)) 4096
noncomputable def feignZ (S : Hs) (T : Tn) (c g what : Int) : Int := if (0 ≤ c ∧ c < T 76) ∧ (0 ≤ g ∧ g < 4) ∧ 0 ≤ what ∧ what < 2 then (if (feT S T c g).2 = -5 then -5 else if what = 1 then (feT S T c g).2 else (feT S T c g).1) else -1
