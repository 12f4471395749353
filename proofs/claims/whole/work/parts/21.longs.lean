/-! ===== longs and narrow numbers ===== -/
def w32 (v : Int) : Int := (J v).toInt32.toInt
def b8 (a : Int) : Int := ((I a).toInt8.toInt32).toInt
def s16 (a : Int) : Int := ((I a).toInt16.toInt32).toInt
def lcS (a b : Int) : Int := (lg_cmp (J a) (J b)).toInt
theorem i32_rg (x : Int32) : -2147483648 ≤ x.toInt ∧ x.toInt < 2147483648 := ⟨by have := Int32.le_toInt x; omega, by have := Int32.toInt_lt x; omega⟩
theorem w32_rg (v : Int) : -2147483648 ≤ w32 v ∧ w32 v < 2147483648 := i32_rg _
theorem b8_rg (v : Int) : -2147483648 ≤ b8 v ∧ b8 v < 2147483648 := i32_rg _
theorem s16_rg (v : Int) : -2147483648 ≤ s16 v ∧ s16 v < 2147483648 := i32_rg _
theorem lcS_rg (a b : Int) : -2147483648 ≤ lcS a b ∧ lcS a b < 2147483648 := i32_rg _
/-- what a TAPE of a sort keeps of a number -/
def cutS (s v : Int) : Int := if s = 0 then b8 (w32 v) else if s = 1 then s16 (w32 v) else if s = 2 then w32 v else if s = 4 then (if lcS v 0 = 0 then 0 else 1) else v
section LONGS
variable {Γ : Ct} {cc : ByteArray} {own : String} {nL : Nat} {ret : Option FieldType} {P : Pq} {d mc ms : Nat} {V : Ob → Prop} {ad : Ob → Nat} {ν : Mv} {cs sl pc : Nat} {L : List (Nat × Value)} {st : List Value} {a b z : Int}
theorem tq_l2i (F : Fx Γ cc own nL ret P d mc ms) (dd : decode cc pc = .ok (.l2i, 1)) (k : XX Γ nL V ad ν cs sl (pc + 1) L (.int (I (w32 a)) :: st)) : XX Γ nL V ad ν cs sl pc L (.long (J a) :: st) := r_l2i F dd (I_of _).symm k
theorem tq_i2b (F : Fx Γ cc own nL ret P d mc ms) (dd : decode cc pc = .ok (.i2b, 1)) (k : XX Γ nL V ad ν cs sl (pc + 1) L (.int (I (b8 a)) :: st)) : XX Γ nL V ad ν cs sl pc L (.int (I a) :: st) := r_i2b F dd (I_of _).symm k
theorem tq_i2s (F : Fx Γ cc own nL ret P d mc ms) (dd : decode cc pc = .ok (.i2s, 1)) (k : XX Γ nL V ad ν cs sl (pc + 1) L (.int (I (s16 a)) :: st)) : XX Γ nL V ad ν cs sl pc L (.int (I a) :: st) := r_i2s F dd (I_of _).symm k
theorem tq_lcmp (F : Fx Γ cc own nL ret P d mc ms) (dd : decode cc pc = .ok (.lcmp, 1)) (k : XX Γ nL V ad ν cs sl (pc + 1) L (.int (I (lcS a b)) :: st)) : XX Γ nL V ad ν cs sl pc L (.long (J b) :: .long (J a) :: st) := by
  refine r_lcmp F dd ?_
  rw [show lg_cmp (J a) (J b) = I (lcS a b) from (I_of _).symm]
  exact k
theorem J_toInt {a : Int} (h : -9223372036854775808 ≤ a ∧ a < 9223372036854775808) : (J a).toInt = a := Int64.toInt_ofInt_of_le (by omega) (by omega)
theorem J_ne0 {b : Int} (h : 0 < b ∧ b < 9223372036854775808) : ¬ J b = 0 := by
  intro e
  have := congrArg Int64.toInt e
  rw [J_toInt (by omega)] at this
  simp at this
  omega
theorem J_quo {a b : Int} (h : 0 ≤ a ∧ a < 9223372036854775808 ∧ 0 < b ∧ b < 9223372036854775808) : J a / J b = J (a / b) := by
  apply Int64.toInt_inj.mp
  have h1 : 0 ≤ a / b ∧ a / b ≤ a := ⟨Int.ediv_nonneg h.1 (by omega), Int.ediv_le_self b h.1⟩
  rw [Int64.toInt_div, J_toInt (by omega), J_toInt (by omega), J_toInt (by omega), Int.tdiv_eq_ediv_of_nonneg h.1]
  exact Int.bmod_eq_of_le (by omega) (by omega)
theorem J_sub (a b : Int) : J a - J b = J (a - b) := (Int64.ofInt_sub a b).symm
theorem J_mul (a b : Int) : J a * J b = J (a * b) := (Int64.ofInt_mul a b).symm
theorem J_rem {a b : Int} (h : 0 ≤ a ∧ a < 9223372036854775808 ∧ 0 < b ∧ b < 9223372036854775808) : J a - J a / J b * J b = J (a % b) := by
  rw [J_quo h, J_mul, J_sub]
  congr 1
  have := Int.mul_ediv_add_emod a b
  rw [Int.mul_comm] at this
  omega
theorem tq_ldiv (F : Fx Γ cc own nL ret P d mc ms) (dd : decode cc pc = .ok (.ldiv, 1)) (h : 0 ≤ a ∧ a < 9223372036854775808 ∧ 0 < b ∧ b < 9223372036854775808) (k : XX Γ nL V ad ν cs sl (pc + 1) L (.long (J (a / b)) :: st)) : XX Γ nL V ad ν cs sl pc L (.long (J b) :: .long (J a) :: st) := r_ldiv F dd (J_ne0 (by omega)) (J_quo h) k
theorem tq_lrem (F : Fx Γ cc own nL ret P d mc ms) (dd : decode cc pc = .ok (.lrem, 1)) (h : 0 ≤ a ∧ a < 9223372036854775808 ∧ 0 < b ∧ b < 9223372036854775808) (k : XX Γ nL V ad ν cs sl (pc + 1) L (.long (J (a % b)) :: st)) : XX Γ nL V ad ν cs sl pc L (.long (J b) :: .long (J a) :: st) := r_lrem F dd (J_ne0 (by omega)) (J_rem h) k
theorem lcS_0 {a b : Int} : lcS a b = 0 ↔ J a = J b := by
  unfold lcS lg_cmp
  constructor
  · intro h
    by_cases h1 : J a > J b
    · rw [if_pos h1] at h; exact absurd h (by decide)
    · rw [if_neg h1] at h
      by_cases h2 : J a = J b
      · exact h2
      · rw [if_neg h2] at h; exact absurd h (by decide)
  · intro h
    rw [h]
    simp
theorem J_eq {a b : Int} (h : -9223372036854775808 ≤ a ∧ a < 9223372036854775808 ∧ -9223372036854775808 ≤ b ∧ b < 9223372036854775808) : J a = J b ↔ a = b := by
  constructor
  · intro e
    rw [← J_toInt (a := a) (by omega), ← J_toInt (a := b) (by omega), e]
  · intro e
    rw [e]
end LONGS
