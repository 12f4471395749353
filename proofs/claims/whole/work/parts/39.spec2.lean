/-! ===== what the calls answer, and what they leave (towns) ===== -/
def upT (T : Tn) (k z : Int) : Tn := fun j => if j = k then z else T j
theorem upT_ne {T : Tn} {k z j : Int} (h : j ≠ k) : upT T k z j = T j := if_neg h
theorem upT_eq {T : Tn} {k z : Int} : upT T k z k = z := if_pos rfl
/-- the first n from n0 on, of f, with P; -5 -/
noncomputable def firstF (P : Nat → Prop) : Nat → Nat → Int
  | 0, _ => -5
  | f + 1, n => @ite Int (P n) (Classical.propDecidable _) n (firstF P f (n + 1))
theorem firstF_t {P : Nat → Prop} {f n : Nat} (h : P n) : firstF P (f + 1) n = n := by simp only [firstF]; rw [if_pos h]
theorem firstF_f {P : Nat → Prop} {f n : Nat} (h : ¬ P n) : firstF P (f + 1) n = firstF P f (n + 1) := by simp only [firstF]; rw [if_neg h]
theorem firstF_rg {P : Nat → Prop} : ∀ (f n : Nat), firstF P f n = -5 ∨ (n : Int) ≤ firstF P f n ∧ firstF P f n < n + f
  | 0, n => Or.inl rfl
  | f + 1, n => by
    rcases Classical.em (P n) with h | h
    · rw [firstF_t h]; omega
    · rw [firstF_f h]
      have := firstF_rg (P := P) f (n + 1)
      omega
theorem firstF_c {P Q : Nat → Prop} : ∀ (f n : Nat), (∀ m, n ≤ m → m < n + f → (P m ↔ Q m)) → firstF P f n = firstF Q f n
  | 0, _, _ => rfl
  | f + 1, n, h => by
    have ih := firstF_c f (n + 1) (fun m a b => h m (by omega) (by omega))
    rcases Classical.em (P n) with hp | hp
    · rw [firstF_t hp, firstF_t ((h n (by omega) (by omega)).mp hp)]
    · rw [firstF_f hp, firstF_f (fun z => hp ((h n (by omega) (by omega)).mpr z)), ih]
def isC (T : Tn) (c : Int) : Prop := 0 ≤ c ∧ c < T 76
def comerOk (kind v walk gate : Int) : Prop := (0 ≤ kind ∧ kind < 7) ∧ (0 ≤ gate ∧ gate < 4) ∧ (0 ≤ v ∧ v < 10) ∧ 0 ≤ walk ∧ walk < 4096
def comerZ (T : Tn) (kind v walk gate : Int) : Int := if (0 ≤ kind ∧ kind < 7) ∧ 0 ≤ gate ∧ gate < 4 then (if (0 ≤ v ∧ v < 10) ∧ 0 ≤ walk ∧ walk < 4096 then (if T 76 < 6 then T 76 else -4) else -2) else -1
def comerN (T : Tn) (kind v walk gate : Int) : Tn := fun k => if k = 76 then T 76 + 1 else if k = 16 + 10 * T 76 then kind else if k = 17 + 10 * T 76 then v else if k = 18 + 10 * T 76 then walk else if k = 19 + 10 * T 76 then gate else if 20 + 10 * T 76 ≤ k ∧ k < 26 + 10 * T 76 then 0 else T k
def comerT (T : Tn) (kind v walk gate : Int) : Tn := if 0 ≤ comerZ T kind v walk gate then comerN T kind v walk gate else T
/-- NEAREST of the first n by f -/
def nearL (f : Int → Int) : Nat → Int × Int
  | 0 => (-5, 0)
  | n + 1 => if (nearL f n).1 = -5 ∨ (nearL f n).2 < f n then (n, f n) else nearL f n
theorem nearL_rg (f : Int → Int) : ∀ n : Nat, (nearL f n).1 = -5 ∨ 0 ≤ (nearL f n).1 ∧ (nearL f n).1 < n
  | 0 => Or.inl rfl
  | n + 1 => by
    have := nearL_rg f n
    simp only [nearL]
    split
    · right; simp only; omega
    · omega
theorem nearL_b {f : Int → Int} {B : Int} (hB : 0 ≤ B) (N : Nat) (h : ∀ k : Int, 0 ≤ k → k < N → -B ≤ f k ∧ f k ≤ B) : ∀ n : Nat, n ≤ N → -B ≤ (nearL f n).2 ∧ (nearL f n).2 ≤ B
  | 0, _ => by simp [nearL]; omega
  | n + 1, hn => by
    have ih := nearL_b hB N h n (by omega)
    have h1 := h n (by omega) (by omega)
    simp only [nearL]
    split
    · exact h1
    · exact ih
def nearT (S : Hs) (T : Tn) (c g : Int) : Int := (nearL (fun k => lkT S T c g (T (4 * g + 1 + k))) (T (4 * g)).toNat).1
noncomputable def outT (S : Hs) (T : Tn) (c : Int) : Int := firstF (fun n => ¬ LT S (daysT S n T) c) 61 0
noncomputable def ofZ (S : Hs) (T : Tn) (c what : Int) : Int := if 0 ≤ c ∧ c < T 76 then (if 10 ≤ what ∧ what < 14 then pI (LTg S T c (what - 10)) else if 20 ≤ what ∧ what < 24 then nearT S T c (what - 20) else if 0 ≤ what ∧ what ≤ 5 then T (16 + 10 * c + what) else if what = 6 then outT S T c else -1) else -1
def setLim (what : Int) : Int := if what = 0 then 4096 else if what = 1 then 4 else 10
def setZ (T : Tn) (c what n : Int) : Int := if (0 ≤ c ∧ c < T 76) ∧ 0 ≤ what ∧ what < 3 then (if 0 ≤ n ∧ n < setLim what then T (18 + 10 * c + what) else -2) else -1
def setT (T : Tn) (c what n : Int) : Tn := if ((0 ≤ c ∧ c < T 76) ∧ 0 ≤ what ∧ what < 3) ∧ 0 ≤ n ∧ n < setLim what then upT T (18 + 10 * c + what) n else T
def likeZ (S : Hs) (T : Tn) (c g k : Int) : Int := if (0 ≤ c ∧ c < T 76) ∧ (0 ≤ g ∧ g < 4) ∧ 0 ≤ k ∧ k < T (4 * g) then lkT S T c g (T (4 * g + 1 + k)) else -10001
def teachZ (T : Tn) (g c : Int) : Int := if (0 ≤ g ∧ g < 4) ∧ 0 ≤ c ∧ c < T 76 then lostT T g (T (18 + 10 * c)) else -1
def teachT (T : Tn) (g c : Int) : Tn := if (0 ≤ g ∧ g < 4) ∧ 0 ≤ c ∧ c < T 76 then tauT T g (T (18 + 10 * c)) else T
def forgetZ (T : Tn) (g : Int) : Int := if 0 ≤ g ∧ g < 4 then T (4 * g) else -1
def forgetT (T : Tn) (g : Int) : Tn := if 0 ≤ g ∧ g < 4 then (fun k => if k = 4 * g then 0 else T k) else T
def rowZ (T : Tn) (c p n : Int) : Int := if (0 ≤ c ∧ c < T 76) ∧ 0 ≤ p ∧ p < 4 then (if 0 ≤ n ∧ n < 10 then (if T (16 + 10 * c) = 6 then T (22 + 10 * c + p) else -3) else -2) else -1
def rowT (T : Tn) (c p n : Int) : Tn := if (((0 ≤ c ∧ c < T 76) ∧ 0 ≤ p ∧ p < 4) ∧ 0 ≤ n ∧ n < 10) ∧ T (16 + 10 * c) = 6 then upT T (22 + 10 * c + p) n else T
