/-! ===== Reader: either ===== -/
/-- what stands behind the loop of a both: prev waits when due -/
def KE (tx : Tn) (tl : Int) (m1 : Nat) (d : Int) (due : Bool) (prev b : Rd) : Rd := if b.1 = true then fLO tx tl m1 d (if due = true then orR prev b else b) else rdF b.2.1
def cdE (due : Bool) (prev : Rd) : List (Int × Int) := if due = true then prev.2.2.1 else []
section EITHER
variable {ad : Ob → Nat} {nh : Int} {tx : Tn} {tl h : Int}
theorem fLA_n {m : Nat} {d : Int} {r : Rd} (hm : 0 < m) (hc : chA tx tl r.2.1 ≠ 38) : fLA tx tl m d r = r := by
  obtain ⟨k, rfl⟩ : ∃ k, m = k + 1 := ⟨m - 1, by omega⟩
  rw [fLA_s]; unfold lpaS; rw [if_neg hc]
theorem fLO_n {m : Nat} {d : Int} {r : Rd} (hm : 0 < m) (hc : chA tx tl r.2.1 ≠ 124) : fLO tx tl m d r = r := by
  obtain ⟨k, rfl⟩ : ∃ k, m = k + 1 := ⟨m - 1, by omega⟩
  rw [fLO_s]; unfold lpoS; rw [if_neg hc]
theorem fA_KE {k : Nat} {d a : Int} (h : (fF tx tl k d a).1 = true) : fA tx tl (k + 2) d a = KE tx tl (k + 1) d false (fF tx tl k d a) (fLA tx tl k d (fF tx tl k d a)) := by
  rw [fA_s, show k + 1 = k + 1 from rfl]
  unfold thenS KE
  rw [fB_s]
  unfold thenS
  rw [if_pos h]
  rfl
theorem fA_no {k : Nat} {d a : Int} (h : (fF tx tl k d a).1 = false) : fA tx tl (k + 2) d a = rdF (fF tx tl k d a).2.1 := by
  have eb : fB tx tl (k + 1) d a = rdF (fF tx tl k d a).2.1 := by rw [fB_s]; unfold thenS; rw [if_neg (by rw [h]; decide)]
  rw [fA_s]
  unfold thenS
  rw [eb]
  rfl
theorem KE_and {m m1 : Nat} {d : Int} {due : Bool} {prev cur : Rd} (hc : chA tx tl cur.2.1 = 38) (h : (fF tx tl m d (cur.2.1 + 1)).1 = true) : KE tx tl m1 d due prev (fLA tx tl (m + 1) d cur) = KE tx tl m1 d due prev (fLA tx tl m d (andR cur (fF tx tl m d (cur.2.1 + 1)))) := by
  rw [fLA_s]
  unfold lpaS
  rw [if_pos hc, if_pos h]
theorem KE_andF {m m1 : Nat} {d : Int} {due : Bool} {prev cur : Rd} (hc : chA tx tl cur.2.1 = 38) (h : (fF tx tl m d (cur.2.1 + 1)).1 = false) : KE tx tl m1 d due prev (fLA tx tl (m + 1) d cur) = rdF (fF tx tl m d (cur.2.1 + 1)).2.1 := by
  rw [fLA_s]
  unfold lpaS
  rw [if_pos hc, if_neg (by rw [h]; decide)]
  rfl
theorem KE_or {m1 : Nat} {d : Int} {due : Bool} {prev cur : Rd} (hcur : cur.1 = true) (hc : chA tx tl cur.2.1 = 124) (h : (fF tx tl m1 d (cur.2.1 + 1)).1 = true) : KE tx tl (m1 + 2) d due prev cur = KE tx tl (m1 + 1) d true (if due = true then orR prev cur else cur) (fLA tx tl m1 d (fF tx tl m1 d (cur.2.1 + 1))) := by
  have e : (if due = true then orR prev cur else cur).2.1 = cur.2.1 := by split <;> rfl
  unfold KE
  rw [if_pos hcur, fLO_s]
  unfold lpoS
  rw [e, if_pos hc, fB_s]
  unfold thenS
  rw [if_pos h]
  simp
theorem KE_orF {m1 : Nat} {d : Int} {due : Bool} {prev cur : Rd} (hcur : cur.1 = true) (hc : chA tx tl cur.2.1 = 124) (h : (fF tx tl m1 d (cur.2.1 + 1)).1 = false) : KE tx tl (m1 + 2) d due prev cur = rdF (fF tx tl m1 d (cur.2.1 + 1)).2.1 := by
  have e : (if due = true then orR prev cur else cur).2.1 = cur.2.1 := by split <;> rfl
  unfold KE
  rw [if_pos hcur, fLO_s]
  unfold lpoS
  have eb : fB tx tl (m1 + 1) d (cur.2.1 + 1) = rdF (fF tx tl m1 d (cur.2.1 + 1)).2.1 := by rw [fB_s]; unfold thenS; rw [if_neg (by rw [h]; decide)]
  rw [e, if_pos hc, eb]
  rfl
theorem KE_end {m1 : Nat} {d : Int} {due : Bool} {prev cur : Rd} (hcur : cur.1 = true) (hm : 0 < m1) (hc : chA tx tl cur.2.1 ≠ 124) : KE tx tl m1 d due prev cur = if due = true then orR prev cur else cur := by
  have e : (if due = true then orR prev cur else cur).2.1 = cur.2.1 := by split <;> rfl
  unfold KE
  rw [if_pos hcur, fLO_n hm (by rw [e]; exact hc)]
end EITHER
