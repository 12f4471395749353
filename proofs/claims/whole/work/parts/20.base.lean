/-! ===== numbers: bitCount, min, max; isIn, alike ===== -/
/-- how many of the first k bits of n are set -/
def popF : Nat → Nat → Nat
  | 0, _ => 0
  | k + 1, n => popF k n + (n >>> k) % 2
def pop (w : Int) : Int := ((popF 12 w.toNat : Nat) : Int)
def bcF (x : Int32) : Int32 :=
  let s (a : Int32) (k : Int32) : Int32 := (a.toUInt32 >>> (k.toUInt32 &&& Int32.toUInt32 31)).toInt32
  let a := x - (s x 1 &&& 1431655765)
  let b := (a &&& 858993459) + (s a 2 &&& 858993459)
  let c := (b + s b 4) &&& 252645135
  let d := c + s c 8
  let e := d + s d 16
  e &&& 63
theorem bc_ok0 : ∀ a : Nat, a < 64 → ∀ b : Nat, b < 64 → bcF (nI (64 * a + b)) = nI (popF 12 (64 * a + b)) := by decide +kernel
theorem bc_ok (n : Nat) (h : n < 4096) : bcF (nI n) = nI (popF 12 n) := by
  have h1 := bc_ok0 (n / 64) (by omega) (n % 64) (by omega)
  rwa [show 64 * (n / 64) + n % 64 = n by omega] at h1
theorem popF_le (k n : Nat) : popF k n ≤ k := by
  induction k with
  | zero => exact Nat.le_refl _
  | succ k ih =>
    simp only [popF]
    omega
theorem pop_rg (w : Int) : 0 ≤ pop w ∧ pop w ≤ 12 := by
  have := popF_le 12 w.toNat
  unfold pop
  omega
/-- marks alike in two walks -/
def alk (a b : Int) : Int := 12 - pop (wx a b)
theorem alk_rg (a b : Int) : 0 ≤ alk a b ∧ alk a b ≤ 12 := by
  have := pop_rg (wx a b)
  unfold alk
  omega
theorem wx_rg {a b : Int} (h : 0 ≤ a ∧ a < 4096 ∧ 0 ≤ b ∧ b < 4096) : 0 ≤ wx a b ∧ wx a b < 4096 := by
  have := Nat.xor_lt_two_pow (n := 12) (show a.toNat < 2 ^ 12 by omega) (show b.toNat < 2 ^ 12 by omega)
  unfold wx
  omega
section BASE
variable {V : Ob → Prop} {ad : Ob → Nat} {μ : Me}
set_option maxRecDepth 20000 in
theorem c_bitCount (w : Int) (hw : 0 ≤ w ∧ w < 4096) (l : Launch) (E : Ev) (A : Nat → Prop) : Con l E 0 m_J6_bitCount_0f7a4 A V ad μ [.int (I w)] (pi fun z μ' => z = pop w ∧ μ = μ') := by
  refine con (own := RJ6) (by decide +kernel) rfl rfl rfl (fun Γ F => ?_)
  refine x_iload_n (i := 0) (pc := 0) F dJ6_bitCount_0f7a4_0 rfl rfl ?_
  refine x_iload_n (i := 0) (pc := 1) F dJ6_bitCount_0f7a4_1 rfl rfl ?_
  refine x_iconst (pc := 2) F dJ6_bitCount_0f7a4_2 ?_
  refine r_iushr (pc := 3) F dJ6_bitCount_0f7a4_3 rfl ?_
  refine r_ldcw (pc := 4) F dJ6_bitCount_0f7a4_4 kw_404 ?_
  refine r_iand (pc := 7) F dJ6_bitCount_0f7a4_7 rfl ?_
  refine r_isub (pc := 8) F dJ6_bitCount_0f7a4_8 rfl ?_
  refine x_istore_n (i := 0) (pc := 9) F dJ6_bitCount_0f7a4_9 rfl rfl ?_
  refine x_iload_n (i := 0) (pc := 10) F dJ6_bitCount_0f7a4_10 rfl rfl ?_
  refine r_ldcw (pc := 11) F dJ6_bitCount_0f7a4_11 kw_405 ?_
  refine r_iand (pc := 14) F dJ6_bitCount_0f7a4_14 rfl ?_
  refine x_iload_n (i := 0) (pc := 15) F dJ6_bitCount_0f7a4_15 rfl rfl ?_
  refine x_iconst (pc := 16) F dJ6_bitCount_0f7a4_16 ?_
  refine r_iushr (pc := 17) F dJ6_bitCount_0f7a4_17 rfl ?_
  refine r_ldcw (pc := 18) F dJ6_bitCount_0f7a4_18 kw_405 ?_
  refine r_iand (pc := 21) F dJ6_bitCount_0f7a4_21 rfl ?_
  refine r_iadd (pc := 22) F dJ6_bitCount_0f7a4_22 rfl ?_
  refine x_istore_n (i := 0) (pc := 23) F dJ6_bitCount_0f7a4_23 rfl rfl ?_
  refine x_iload_n (i := 0) (pc := 24) F dJ6_bitCount_0f7a4_24 rfl rfl ?_
  refine x_iload_n (i := 0) (pc := 25) F dJ6_bitCount_0f7a4_25 rfl rfl ?_
  refine x_iconst (pc := 26) F dJ6_bitCount_0f7a4_26 ?_
  refine r_iushr (pc := 27) F dJ6_bitCount_0f7a4_27 rfl ?_
  refine r_iadd (pc := 28) F dJ6_bitCount_0f7a4_28 rfl ?_
  refine r_ldcw (pc := 29) F dJ6_bitCount_0f7a4_29 kw_406 ?_
  refine r_iand (pc := 32) F dJ6_bitCount_0f7a4_32 rfl ?_
  refine x_istore_n (i := 0) (pc := 33) F dJ6_bitCount_0f7a4_33 rfl rfl ?_
  refine x_iload_n (i := 0) (pc := 34) F dJ6_bitCount_0f7a4_34 rfl rfl ?_
  refine x_iload_n (i := 0) (pc := 35) F dJ6_bitCount_0f7a4_35 rfl rfl ?_
  refine x_bipush (pc := 36) F dJ6_bitCount_0f7a4_36 (by decide) ?_
  refine r_iushr (pc := 38) F dJ6_bitCount_0f7a4_38 rfl ?_
  refine r_iadd (pc := 39) F dJ6_bitCount_0f7a4_39 rfl ?_
  refine x_istore_n (i := 0) (pc := 40) F dJ6_bitCount_0f7a4_40 rfl rfl ?_
  refine x_iload_n (i := 0) (pc := 41) F dJ6_bitCount_0f7a4_41 rfl rfl ?_
  refine x_iload_n (i := 0) (pc := 42) F dJ6_bitCount_0f7a4_42 rfl rfl ?_
  refine x_bipush (pc := 43) F dJ6_bitCount_0f7a4_43 (by decide) ?_
  refine r_iushr (pc := 45) F dJ6_bitCount_0f7a4_45 rfl ?_
  refine r_iadd (pc := 46) F dJ6_bitCount_0f7a4_46 rfl ?_
  refine x_istore_n (i := 0) (pc := 47) F dJ6_bitCount_0f7a4_47 rfl rfl ?_
  refine x_iload_n (i := 0) (pc := 48) F dJ6_bitCount_0f7a4_48 rfl rfl ?_
  refine x_bipush (pc := 49) F dJ6_bitCount_0f7a4_49 (by decide) ?_
  refine r_iand (pc := 51) F dJ6_bitCount_0f7a4_51 rfl ?_
  refine x_st (st' := [.int (I (pop w))]) ?_ ?_
  · have h := bc_ok w.toNat (by omega)
    have e : nI w.toNat = I w := by rw [I_nI, toNat_c hw.1]
    rw [e, I_nI] at h
    exact congrArg (fun v => [Value.int v]) h
  · exact tq_reti (pc := 52) F dJ6_bitCount_0f7a4_52 ⟨rfl, rfl⟩ rfl rfl rfl
end BASE
section MATH
variable {Γ : Ct} {cc : ByteArray} {own : String} {nL : Nat} {ret : Option FieldType} {P : Pq} {d mc ms : Nat} {V : Ob → Prop} {ad : Ob → Nat} {ν : Mv} {cs sl pc : Nat} {L : List (Nat × Value)} {st : List Value} {a b : Int} {idx : Nat}
theorem tq_max (F : Fx Γ cc own nL ret P d mc ms) (dd : decode cc pc = .ok (.invokestatic idx, 3)) (hlk : Cond.methodLink own idx yJ9_max_7cf53 ∈ wA) (hd : Nat.ble 1 d = true) (hcat : Nat.ble ((st.map fun v => v.category).sum) 8 = true) (hc : Nat.ble cs mc = true) (hs : Nat.ble sl ms = true) (h : -2147483648 ≤ a ∧ a < 2147483648 ∧ -2147483648 ≤ b ∧ b < 2147483648) (k : XX Γ nL V ad ν cs sl (pc + 3) L (.int (I (max a b)) :: st)) : XX Γ nL V ad ν cs sl pc L (.int (I b) :: .int (I a) :: st) := by
  obtain ⟨p, l, e, R, s, m, args, below, meth, c, A, Q, E⟩ := Γ
  obtain ⟨hx, hb, hml, hown, hts, hlok, hr, hK, hA0, hR, hQ, hzz⟩ := F
  intro H locs ls hW hV hS hl
  subst hR
  have h1 := Nat.le_of_ble_eq_true hd
  have h2 := Nat.le_of_ble_eq_true hcat
  refine va_mmax hx hb (by rw [hml]; exact hl.1.symm) hown (hts _ hlk) (hts _ kw_558) (hts _ kw_81) (hts _ kw_559) h1 (by show _ + 13 ≤ 40 * d; omega) (Nat.le_of_ble_eq_true hc) (Nat.le_of_ble_eq_true hs) dd ?_
  have e : (if I a < I b then I b else I a) = I (max a b) := by
    by_cases hh : a < b
    · rw [if_pos ((I_lt (by omega)).mpr hh)]
      congr 1
      omega
    · rw [if_neg (fun z => hh ((I_lt (by omega)).mp z))]
      congr 1
      omega
  rw [e]
  exact k H locs ls hW hV hS hl
theorem tq_min (F : Fx Γ cc own nL ret P d mc ms) (dd : decode cc pc = .ok (.invokestatic idx, 3)) (hlk : Cond.methodLink own idx yJ9_min_7cf53 ∈ wA) (hd : Nat.ble 1 d = true) (hcat : Nat.ble ((st.map fun v => v.category).sum) 8 = true) (hc : Nat.ble cs mc = true) (hs : Nat.ble sl ms = true) (h : -2147483648 ≤ a ∧ a < 2147483648 ∧ -2147483648 ≤ b ∧ b < 2147483648) (k : XX Γ nL V ad ν cs sl (pc + 3) L (.int (I (min a b)) :: st)) : XX Γ nL V ad ν cs sl pc L (.int (I b) :: .int (I a) :: st) := by
  obtain ⟨p, l, e, R, s, m, args, below, meth, c, A, Q, E⟩ := Γ
  obtain ⟨hx, hb, hml, hown, hts, hlok, hr, hK, hA0, hR, hQ, hzz⟩ := F
  intro H locs ls hW hV hS hl
  subst hR
  have h1 := Nat.le_of_ble_eq_true hd
  have h2 := Nat.le_of_ble_eq_true hcat
  refine va_mmin hx hb (by rw [hml]; exact hl.1.symm) hown (hts _ hlk) (hts _ kw_392) (hts _ kw_81) (hts _ kw_393) h1 (by show _ + 13 ≤ 40 * d; omega) (Nat.le_of_ble_eq_true hc) (Nat.le_of_ble_eq_true hs) dd ?_
  have e : (if I b < I a then I b else I a) = I (min a b) := by
    by_cases hh : b < a
    · rw [if_pos ((I_lt (by omega)).mpr hh)]
      congr 1
      omega
    · rw [if_neg (fun z => hh ((I_lt (by omega)).mp z))]
      congr 1
      omega
  rw [e]
  exact k H locs ls hW hV hS hl
end MATH
section BASE2
variable {V : Ob → Prop} {ad : Ob → Nat} {μ : Me}
set_option maxRecDepth 20000 in
theorem c_X7_isIn (a b : Int) (h : -2147483648 ≤ a ∧ a < 2147483648 ∧ -2147483648 ≤ b ∧ b < 2147483648) (l : Launch) (E : Ev) (A : Nat → Prop) : Con l E 0 m_X7_isIn A V ad μ [.int (I a), .int (I b)] (pz fun z μ' => z = decide (0 ≤ a ∧ a < b) ∧ μ = μ') := by
  refine con (own := RX7) (by decide +kernel) rfl rfl rfl (fun Γ F => ?_)
  refine x_iload_n (i := 0) (pc := 0) F dX7_isIn_0 rfl rfl ?_
  refine x_if_lt (tgt := 13) (pc := 1) F dX7_isIn_1 rfl (by omega) (fun h1 => ?_) (fun h1 => ?_)
  · refine x_iconst (pc := 13) F dX7_isIn_13 ?_
    refine tq_retz (b := false) (pc := 14) F dX7_isIn_14 ?_ rfl rfl rfl
    exact ⟨by simp only [Bool.true_eq, Bool.false_eq, decide_eq_true_eq, decide_eq_false_iff_not]; omega, rfl⟩
  · refine x_iload_n (i := 0) (pc := 4) F dX7_isIn_4 rfl rfl ?_
    refine x_iload_n (i := 1) (pc := 5) F dX7_isIn_5 rfl rfl ?_
    refine x_icmp_ge (tgt := 13) (pc := 6) F dX7_isIn_6 rfl (by omega) (fun h6 => ?_) (fun h6 => ?_)
    · refine x_iconst (pc := 13) F dX7_isIn_13 ?_
      refine tq_retz (b := false) (pc := 14) F dX7_isIn_14 ?_ rfl rfl rfl
      exact ⟨by simp only [Bool.true_eq, Bool.false_eq, decide_eq_true_eq, decide_eq_false_iff_not]; omega, rfl⟩
    · refine x_iconst (pc := 9) F dX7_isIn_9 ?_
      refine x_goto (tgt := 14) (pc := 10) F dX7_isIn_10 rfl ?_
      refine tq_retz (b := true) (pc := 14) F dX7_isIn_14 ?_ rfl rfl rfl
      exact ⟨by simp only [Bool.true_eq, Bool.false_eq, decide_eq_true_eq, decide_eq_false_iff_not]; omega, rfl⟩
set_option maxRecDepth 20000 in
theorem c_X7_alike (a b : Int) (h : 0 ≤ a ∧ a < 4096 ∧ 0 ≤ b ∧ b < 4096) (l : Launch) (E : Ev) (A : Nat → Prop) : Con l E 1 m_X7_alike A V ad μ [.int (I a), .int (I b)] (pi fun z μ' => z = alk a b ∧ μ = μ') := by
  have hx := wx_rg h
  refine con (own := RX7) (by decide +kernel) rfl rfl rfl (fun Γ F => ?_)
  refine x_bipush (pc := 0) F dX7_alike_0 (by decide) ?_
  refine x_iload_n (i := 0) (pc := 2) F dX7_alike_2 rfl rfl ?_
  refine x_iload_n (i := 1) (pc := 3) F dX7_alike_3 rfl rfl ?_
  refine tq_ixor (pc := 4) F dX7_alike_4 (by omega) ?_
  refine x_S1i (pc := 5) F dX7_alike_5 lk_X7_73 rfl (c_bitCount _ (by omega)) rfl rfl rfl ?_
  rintro _ _ ⟨rfl, rfl⟩
  refine x_isub (pc := 8) F dX7_alike_8 ?_
  refine tq_reti (pc := 9) F dX7_alike_9 ?_ rfl rfl rfl
  exact ⟨rfl, rfl⟩
end BASE2
