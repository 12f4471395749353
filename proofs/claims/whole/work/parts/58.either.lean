/-! ===== Reader: either ===== -/
/-- what stands behind the loop of a both: prev waits when due -/
def KE (tx : Tn) (tl : Int) (m1 : Nat) (d : Int) (due : Bool) (prev b : Rd) : Rd := if b.1 = true then fLO tx tl m1 d (if due = true then orR prev b else b) else rdF b.2.1
def cdE (due : Bool) (prev : Rd) : List (Int × Int) := if due = true then prev.2.2.1 else []
section EITHER
variable {ad : Ob → Nat} {nh : Int} {tx : Tn} {tl h : Int}
theorem fLA_n {m : Nat} {d : Int} {r : Rd} (hm : 0 < m) (hc : chA tx tl r.2.1 ≠ 38) : fLA tx tl m d r = r := by
  obtain ⟨k, rfl⟩ : ∃ k, m = k + 1 := ⟨m - 1, by omega⟩
  rw [fLA_s]; unfold lpaS; rw [if_neg hc]
theorem fLO_n {m : Nat} {d : Int} {r : Rd} (hm : 0 < m) (hc : chA tx tl r.2.1 ≠ 124) : fLO tx tl m d r = r := by
  obtain ⟨k, rfl⟩ : ∃ k, m = k + 1 := ⟨m - 1, by omega⟩
  rw [fLO_s]; unfold lpoS; rw [if_neg hc]
end EITHER
