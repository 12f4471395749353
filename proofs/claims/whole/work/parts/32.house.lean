/-! ===== House ===== -/
theorem nat_or1 (y : Nat) : y ||| 1 = y + 1 - y % 2 := by
  have h1 : (y ||| 1) / 2 = y / 2 := by rw [Nat.or_div_two]; simp
  have h2 : (y ||| 1) % 2 = 1 := by simp
  omega
theorem nat_xor1 (y : Nat) : y ^^^ 1 = y + 1 - 2 * (y % 2) := by
  have h1 : (y ^^^ 1) / 2 = y / 2 := by rw [Nat.xor_div_two]; simp
  have h2 : (y ^^^ 1) % 2 = (y + 1) % 2 := by
    have h := Nat.xor_mod_two_pow (a := y) (b := 1) (n := 1)
    rw [show 2 ^ 1 = 2 from rfl] at h
    rw [h]
    rcases Nat.mod_two_eq_zero_or_one y with e | e <;> rw [e] <;> simp <;> omega
  omega
theorem nat_and2 {y : Nat} (h : y < 4294967296) : y &&& 4294967294 = y - y % 2 := by
  have h1 : (y &&& 4294967294) / 2 = y / 2 := by
    rw [Nat.and_div_two]
    exact Nat.and_two_pow_sub_one_of_lt_two_pow (n := 31) (by omega)
  have h2 : (y &&& 4294967294) % 2 = 0 := by
    have := Nat.and_mod_two_pow (a := y) (b := 4294967294) (n := 1)
    simpa using this
  omega
theorem and1_I {x : Int} (h : 0 ≤ x ∧ x < 2147483648) : I x &&& I 1 = I (x % 2) := by
  rw [wa_I (by omega)]
  congr 1
  unfold wa
  rw [show (1 : Int).toNat = 1 from rfl, Nat.and_one_is_mod]
  omega
theorem or1_I {x : Int} (h : 0 ≤ x ∧ x < 2147483647) : I x ||| I 1 = I (x + 1 - x % 2) := by
  rw [wo_I (by omega)]
  congr 1
  unfold wo
  rw [show (1 : Int).toNat = 1 from rfl, nat_or1]
  omega
theorem or0_I {x : Int} (h : 0 ≤ x ∧ x < 2147483647) : I x ||| I 0 = I x := by
  rw [wo_I (by omega)]
  congr 1
  unfold wo
  simp
  omega
def orb (x c : Int) : Int := if c = 1 then x + 1 - x % 2 else x
theorem orb_I {x c : Int} (h : 0 ≤ x ∧ x < 2147483647) (hc : c = 0 ∨ c = 1) : I x ||| I c = I (orb x c) := by
  unfold orb
  rcases hc with rfl | rfl
  · exact or0_I h
  · exact or1_I h
theorem xor1_I {x : Int} (h : 0 ≤ x ∧ x < 2147483647) : I x ^^^ I 1 = I (x + 1 - 2 * (x % 2)) := by
  rw [wx_I (by omega)]
  congr 1
  unfold wx
  rw [show (1 : Int).toNat = 1 from rfl, nat_xor1]
  omega
theorem andm2_I {x : Int} (h : 0 ≤ x ∧ x < 2147483648) : I x &&& I (-2) = I (x - x % 2) := by
  have e1 : x = ((x.toNat : Nat) : Int) := by omega
  rw [show I (-2) = Int32.ofNat 4294967294 by decide, e1]
  rw [show ((x.toNat : Nat) : Int) - ((x.toNat : Nat) : Int) % 2 = ((x.toNat - x.toNat % 2 : Nat) : Int) by omega]
  simp only [I_nat]
  rw [← nat_and2 (y := x.toNat) (by omega), ← Int32.toBitVec_inj]
  simp [BitVec.ofNat_and]
theorem andm1_I {x : Int} : I x &&& I (-1) = I x := by
  rw [show I (-1) = -1 by decide]
  exact Int32.and_neg_one
theorem shl1_I {x : Int} : I x <<< (I 1 &&& 31) = I (2 * x) := by
  rw [show (I 1 &&& 31) = 1 by decide]
  have : I x <<< (1 : Int32) = I x + I x := by
    rw [← Int32.toBitVec_inj]
    simp only [Int32.toBitVec_shiftLeft, Int32.toBitVec_add]
    show (I x).toBitVec <<< ((1 : BitVec 32).smod 32) = _
    rw [show (1 : BitVec 32).smod 32 = 1 by decide, BitVec.shiftLeft_eq']
    show (I x).toBitVec <<< 1 = _
    rw [BitVec.shiftLeft_eq_mul_twoPow, show BitVec.twoPow 32 1 = 2#32 by decide, BitVec.mul_two]
  rw [this, I_add]
  congr 1
  omega
theorem shr1_I {x : Int} (h : 0 ≤ x ∧ x < 2147483648) : I x >>> (I 1 &&& 31) = I (x / 2) := by
  rw [show (I 1 &&& 31) = 1 by decide]
  apply Int32.toInt_inj.mp
  have e : (I x >>> (1 : Int32)).toInt = (I x).toInt >>> (1 : Nat) := by
    show (I x >>> (1 : Int32)).toBitVec.toInt = _
    rw [Int32.toBitVec_shiftRight, show ((1 : Int32).toBitVec.smod 32) = 1#32 by decide, BitVec.toInt_sshiftRight']
    rfl
  rw [e, I_toInt (by omega), I_toInt (by omega), Int.shiftRight_eq_div_pow]
  rfl
/-- a TEST -/
def tstS (sign v n : Int) : Bool := if sign = 0 then decide (v < n) else if sign = 1 then decide (v = n) else decide (n < v)
def hdB (l : List Bool) : Bool := l.headD false
def bitsL : List Bool → Int
  | [] => 0
  | b :: l => bI b + 2 * bitsL l
theorem bitsL_t (l : List Bool) : bitsL l = bI (hdB l) + 2 * bitsL l.tail := by
  cases l with
  | nil => rfl
  | cons b l => rfl
theorem bitsL_0 : ∀ l : List Bool, 0 ≤ bitsL l
  | [] => Int.le_refl _
  | b :: l => by
    have := bitsL_0 l
    have := bI_rg b
    simp only [bitsL]
    omega
theorem bitsL_lt : ∀ (l : List Bool), bitsL l < 2 ^ l.length
  | [] => by decide
  | b :: l => by
    have := bitsL_lt l
    have := bI_rg b
    simp only [bitsL, List.length_cons]
    rw [Int.pow_succ]
    omega
theorem bitsL_rg {l : List Bool} (h : l.length ≤ 24) : 0 ≤ bitsL l ∧ bitsL l < 16777216 := by
  refine ⟨bitsL_0 l, Int.lt_of_lt_of_le (bitsL_lt l) ?_⟩
  have h1 : 2 ^ l.length ≤ 16777216 := Nat.le_trans (Nat.pow_le_pow_right (n := 2) (by decide) h) (by decide)
  have h2 : (2 : Int) ^ l.length = ((2 ^ l.length : Nat) : Int) := by simp
  rw [h2]
  omega
/-- a step of a House -/
def stepH (op n : Int) (vals : Int → Int) (s : Int × List Bool) : Int × List Bool :=
  if op < 18 then (s.1, tstS (op % 3) (vals (op / 3)) n :: s.2)
  else if op = 18 then (s.1, (!hdB s.2) :: s.2.tail)
  else if op = 19 then (s.1, (hdB s.2 && hdB s.2.tail) :: s.2.tail.tail)
  else if op = 20 then (s.1, (hdB s.2 || hdB s.2.tail) :: s.2.tail.tail)
  else (if hdB s.2 = true then (if op = 21 then s.1 + n else s.1 - n) else s.1, [])
def runH (ops nums vals : Int → Int) : Nat → Int × List Bool
  | 0 => (0, [])
  | n + 1 => stepH (ops n) (nums n) vals (runH ops nums vals n)
theorem runH_rg {ops nums vals : Int → Int} (N : Nat) (h : ∀ i : Int, 0 ≤ i → i < N → 0 ≤ nums i ∧ nums i ≤ 99) : ∀ n : Nat, n ≤ N → -(99 * (n : Int)) ≤ (runH ops nums vals n).1 ∧ (runH ops nums vals n).1 ≤ 99 * n
  | 0, _ => by simp [runH]
  | n + 1, hn => by
    have ih := runH_rg (ops := ops) (nums := nums) (vals := vals) N h n (by omega)
    have h1 := h n (by omega) (by omega)
    simp only [runH, stepH]
    repeat' split
    all_goals (simp only; omega)
/-- what the TESTS of a House look at -/
def valS (p k v g t d : Int) (letter : Int) : Int := if letter = 0 then p else if letter = 1 then k else if letter = 2 then v else if letter = 3 then g else if letter = 4 then t else d % 10
/-- a House's cells: well made -/
def HouseOK (μ : Me) (h : Int) : Prop := 0 ≤ μ (12, h, 0) 2 ∧ μ (12, h, 0) 2 ≤ hsz h ∧ (∀ i, 0 ≤ i → i < μ (12, h, 0) 2 → 0 ≤ μ (13, h, 0) i ∧ μ (13, h, 0) i ≤ 22 ∧ 0 ≤ μ (14, h, 0) i ∧ μ (14, h, 0) i ≤ 99) ∧ (∀ vals n, n ≤ (μ (12, h, 0) 2).toNat → (runH (μ (13, h, 0)) (μ (14, h, 0)) vals n).2.length ≤ 24) ∧ 0 ≤ μ (12, h, 0) 3 ∧ μ (12, h, 0) 3 ≤ 99 ∧ 0 ≤ μ (12, h, 0) 4 ∧ μ (12, h, 0) 4 ≤ 99
/-- what a House adds -/
def bonH (μ : Me) (h : Int) (vals : Int → Int) : Int := (runH (μ (13, h, 0)) (μ (14, h, 0)) vals (μ (12, h, 0) 2).toNat).1
theorem bonH_rg {μ : Me} {h : Int} (hh : HouseOK μ h) (vals : Int → Int) : -9900 ≤ bonH μ h vals ∧ bonH μ h vals ≤ 9900 := by
  obtain ⟨h1, h2, h3, -⟩ := hh
  have hz := hsz_rg h
  have := runH_rg (ops := μ (13, h, 0)) (nums := μ (14, h, 0)) (vals := vals) (μ (12, h, 0) 2).toNat (fun i a b => ⟨(h3 i a (by omega)).2.2.1, (h3 i a (by omega)).2.2.2⟩) (μ (12, h, 0) 2).toNat (Nat.le_refl _)
  unfold bonH
  omega
section HOUSE
variable {ad : Ob → Nat} {μ : Me} {nh : Int} {h j t p : Int}
set_option maxRecDepth 20000 in
theorem c_X2_clear (hg : (0 ≤ h ∧ h < nh ∨ h = 6) ∧ j = 0) (l : Launch) (E : Ev) (A : Nat → Prop) : Con l E 1 m_X2_clear A (VC nh) ad μ [.ref (ad (12, h, j))] (pv fun μ' => upM (upM (upM μ (12, h, j) 2 0) (12, h, j) 3 10) (12, h, j) 4 0 = μ') := by
  refine con (own := RX2) (by decide +kernel) rfl rfl rfl (fun Γ F => ?_)
  refine x_aload_n (i := 0) (pc := 0) F dX2_clear_0 rfl rfl ?_
  refine x_iconst (pc := 1) F dX2_clear_1 ?_
  refine pf_X2_22 (pc := 2) F dX2_clear_2 (v_12 (by omega)) ?_
  refine x_aload_n (i := 0) (pc := 5) F dX2_clear_5 rfl rfl ?_
  refine x_bipush (pc := 6) F dX2_clear_6 (by decide) ?_
  refine pf_X2_18 (pc := 8) F dX2_clear_8 (v_12 (by omega)) ?_
  refine x_aload_n (i := 0) (pc := 11) F dX2_clear_11 rfl rfl ?_
  refine x_iconst (pc := 12) F dX2_clear_12 ?_
  refine pf_X2_25 (pc := 13) F dX2_clear_13 (v_12 (by omega)) ?_
  refine tq_retv (pc := 16) F dX2_clear_16 ?_ rfl rfl rfl
  exact rfl
set_option maxRecDepth 20000 in
theorem c_X2_put (op n : Int) (hg : 0 ≤ h ∧ h < nh ∧ h < 6) (hl : 0 ≤ μ (12, h, 0) 2 ∧ μ (12, h, 0) 2 < 100) (l : Launch) (E : Ev) (A : Nat → Prop) : Con l E 1 m_X2_put A (VC nh) ad μ [.ref (ad (12, h, 0)), .int (I op), .int (I n)] (pv fun μ' => μ' (12, h, 0) 2 = μ (12, h, 0) 2 + 1 ∧ (∀ k, μ' (13, h, 0) k = if k = μ (12, h, 0) 2 then op else μ (13, h, 0) k) ∧ (∀ k, μ' (14, h, 0) k = if k = μ (12, h, 0) 2 then n else μ (14, h, 0) k) ∧ (∀ k, k ≠ 2 → μ' (12, h, 0) k = μ (12, h, 0) k) ∧ ∀ o, o ≠ (12, h, 0) → o ≠ (13, h, 0) → o ≠ (14, h, 0) → μ' o = μ o) := by
  have hz : hsz h = 100 := by unfold hsz; rw [if_neg (by omega)]
  refine con (own := RX2) (by decide +kernel) rfl rfl rfl (fun Γ F => ?_)
  refine x_aload_n (i := 0) (pc := 0) F dX2_put_0 rfl rfl ?_
  refine gf_X2_22 (pc := 1) F dX2_put_1 (v_12 (by omega)) ?_
  refine x_aload_n (i := 0) (pc := 4) F dX2_put_4 rfl rfl ?_
  refine gf_X2_9 (pc := 5) F dX2_put_5 (v_12 (by omega)) ?_
  refine x_alen (pc := 8) F dX2_put_8 (v_13 (by omega)) sh_13 rfl rfl ?_
  refine x_icmp_ge (tgt := 42) (pc := 9) F dX2_put_9 rfl (by omega) (fun h9 => ?_) (fun h9 => ?_)
  · exfalso; omega
  · refine x_aload_n (i := 0) (pc := 12) F dX2_put_12 rfl rfl ?_
    refine gf_X2_9 (pc := 13) F dX2_put_13 (v_12 (by omega)) ?_
    refine x_aload_n (i := 0) (pc := 16) F dX2_put_16 rfl rfl ?_
    refine gf_X2_22 (pc := 17) F dX2_put_17 (v_12 (by omega)) ?_
    refine x_iload_n (i := 1) (pc := 20) F dX2_put_20 rfl rfl ?_
    refine tq_ias (pc := 21) F dX2_put_21 (v_13 (by omega)) sh_13 (fun _ => rfl) (by omega) ?_
    refine x_aload_n (i := 0) (pc := 22) F dX2_put_22 rfl rfl ?_
    refine gf_X2_15 (pc := 23) F dX2_put_23 (v_12 (by omega)) ?_
    refine x_aload_n (i := 0) (pc := 26) F dX2_put_26 rfl rfl ?_
    refine gf_X2_22 (pc := 27) F dX2_put_27 (v_12 (by omega)) ?_
    refine x_iload_n (i := 2) (pc := 30) F dX2_put_30 rfl rfl ?_
    have e1 : upM μ (13, h, 0) (μ (12, h, 0) 2) op (12, h, 0) 2 = μ (12, h, 0) 2 := by simp [upM]
    refine tq_ias (pc := 31) F dX2_put_31 (v_14 (by omega)) sh_14 (fun _ => rfl) (by omega) ?_
    refine x_aload_n (i := 0) (pc := 32) F dX2_put_32 rfl rfl ?_
    refine x_dup (pc := 33) F dX2_put_33 rfl ?_
    refine gf_X2_22 (pc := 34) F dX2_put_34 (v_12 (by omega)) ?_
    refine x_iconst (pc := 37) F dX2_put_37 ?_
    refine x_iadd (pc := 38) F dX2_put_38 ?_
    refine pf_X2_22 (pc := 39) F dX2_put_39 (v_12 (by omega)) ?_
    refine tq_retv (pc := 42) F dX2_put_42 ?_ rfl rfl rfl
    refine ⟨by simp [upM], fun k => by simp [upM], fun k => by simp [upM], fun k hk => by simp [upM, hk], fun o h1 h2 h3 => ?_⟩
    rw [upM_ne h1, upM_ne h3, upM_ne h2]
set_option maxRecDepth 20000 in
theorem c_X2_valueOf (a g d : Int) (hp : 0 ≤ t ∧ t < 3 ∧ 0 ≤ p ∧ p < 6 ∨ t = 3 ∧ p = 0) (ha : 0 ≤ a ∧ a ≤ 5) (hd : 0 ≤ d ∧ d ≤ 20000) (l : Launch) (E : Ev) (A : Nat → Prop) : Con l E 1 m_X2_valueOf A (VC nh) ad μ [.int (I a), .ref (ad (4, t, p)), .int (I g), .int (I d)] (pi fun z μ' => z = valS (μ (4, t, p) 0) (μ (4, t, p) 1) (μ (4, t, p) 2) g (μ (4, t, p) 5) d a ∧ μ = μ') := by
  refine con (own := RX2) (by decide +kernel) rfl rfl rfl (fun Γ F => ?_)
  refine x_iload_n (i := 0) (pc := 0) F dX2_valueOf_0 rfl rfl ?_
  refine x_tab (ts := [36, 41, 46, 51, 53]) (dt := 58) (pc := 1) F dX2_valueOf_1 rfl rfl (by omega) ⟨fun h1 => ?_, fun h1 => ?_, fun h1 => ?_, fun h1 => ?_, fun h1 => ?_, trivial⟩ (fun h1 => ?_)
  · refine x_aload_n (i := 1) (pc := 36) F dX2_valueOf_36 rfl rfl ?_
    refine gf_X2_36 (pc := 37) F dX2_valueOf_37 (v_4 (by omega)) ?_
    refine tq_reti (pc := 40) F dX2_valueOf_40 ?_ rfl rfl rfl
    exact ⟨by unfold valS; (repeat' split) <;> first | rfl | (exfalso; omega), rfl⟩
  · refine x_aload_n (i := 1) (pc := 41) F dX2_valueOf_41 rfl rfl ?_
    refine gf_X2_41 (pc := 42) F dX2_valueOf_42 (v_4 (by omega)) ?_
    refine tq_reti (pc := 45) F dX2_valueOf_45 ?_ rfl rfl rfl
    exact ⟨by unfold valS; (repeat' split) <;> first | rfl | (exfalso; omega), rfl⟩
  · refine x_aload_n (i := 1) (pc := 46) F dX2_valueOf_46 rfl rfl ?_
    refine gf_X2_44 (pc := 47) F dX2_valueOf_47 (v_4 (by omega)) ?_
    refine tq_reti (pc := 50) F dX2_valueOf_50 ?_ rfl rfl rfl
    exact ⟨by unfold valS; (repeat' split) <;> first | rfl | (exfalso; omega), rfl⟩
  · refine x_iload_n (i := 2) (pc := 51) F dX2_valueOf_51 rfl rfl ?_
    refine tq_reti (pc := 52) F dX2_valueOf_52 ?_ rfl rfl rfl
    exact ⟨by unfold valS; (repeat' split) <;> first | rfl | (exfalso; omega), rfl⟩
  · refine x_aload_n (i := 1) (pc := 53) F dX2_valueOf_53 rfl rfl ?_
    refine gf_X2_47 (pc := 54) F dX2_valueOf_54 (v_4 (by omega)) ?_
    refine tq_reti (pc := 57) F dX2_valueOf_57 ?_ rfl rfl rfl
    exact ⟨by unfold valS; (repeat' split) <;> first | rfl | (exfalso; omega), rfl⟩
  · refine x_iload_n (i := 3) (pc := 58) F dX2_valueOf_58 rfl rfl ?_
    refine x_bipush (pc := 59) F dX2_valueOf_59 (by decide) ?_
    refine tq_irem (pc := 61) F dX2_valueOf_61 (by omega) ?_
    refine tq_reti (pc := 62) F dX2_valueOf_62 ?_ rfl rfl rfl
    exact ⟨by unfold valS; (repeat' split) <;> first | rfl | (exfalso; omega), rfl⟩
set_option maxRecDepth 20000 in
theorem c_X2_isSo (v s n : Int) (hv : -2147483648 ≤ v ∧ v < 2147483648) (hs : 0 ≤ s ∧ s ≤ 2) (hn : 0 ≤ n ∧ n ≤ 99) (l : Launch) (E : Ev) (A : Nat → Prop) : Con l E 1 m_X2_isSo A (VC nh) ad μ [.int (I v), .int (I s), .int (I n)] (pz fun z μ' => z = tstS s v n ∧ μ = μ') := by
  refine con (own := RX2) (by decide +kernel) rfl rfl rfl (fun Γ F => ?_)
  refine x_iload_n (i := 1) (pc := 0) F dX2_isSo_0 rfl rfl ?_
  refine x_if_ne (tgt := 15) (pc := 1) F dX2_isSo_1 rfl (by omega) (fun h1 => ?_) (fun h1 => ?_)
  · refine x_iload_n (i := 1) (pc := 15) F dX2_isSo_15 rfl rfl ?_
    refine x_iconst (pc := 16) F dX2_isSo_16 ?_
    refine x_icmp_ne (tgt := 33) (pc := 17) F dX2_isSo_17 rfl (by omega) (fun h17 => ?_) (fun h17 => ?_)
    · refine x_iload_n (i := 0) (pc := 33) F dX2_isSo_33 rfl rfl ?_
      refine x_iload_n (i := 2) (pc := 34) F dX2_isSo_34 rfl rfl ?_
      refine x_icmp_le (tgt := 42) (pc := 35) F dX2_isSo_35 rfl (by omega) (fun h35 => ?_) (fun h35 => ?_)
      · refine x_iconst (pc := 42) F dX2_isSo_42 ?_
        refine tq_retz (b := false) (pc := 43) F dX2_isSo_43 ?_ rfl rfl rfl
        exact ⟨by unfold tstS; (repeat' split) <;> first | (exfalso; omega) | (symm; apply decide_eq_true; omega) | (symm; apply decide_eq_false; omega), rfl⟩
      · refine x_iconst (pc := 38) F dX2_isSo_38 ?_
        refine x_goto (tgt := 43) (pc := 39) F dX2_isSo_39 rfl ?_
        refine tq_retz (b := true) (pc := 43) F dX2_isSo_43 ?_ rfl rfl rfl
        exact ⟨by unfold tstS; (repeat' split) <;> first | (exfalso; omega) | (symm; apply decide_eq_true; omega) | (symm; apply decide_eq_false; omega), rfl⟩
    · refine x_iload_n (i := 0) (pc := 20) F dX2_isSo_20 rfl rfl ?_
      refine x_iload_n (i := 2) (pc := 21) F dX2_isSo_21 rfl rfl ?_
      refine x_icmp_ne (tgt := 29) (pc := 22) F dX2_isSo_22 rfl (by omega) (fun h22 => ?_) (fun h22 => ?_)
      · refine x_iconst (pc := 29) F dX2_isSo_29 ?_
        refine x_goto (tgt := 43) (pc := 30) F dX2_isSo_30 rfl ?_
        refine tq_retz (b := false) (pc := 43) F dX2_isSo_43 ?_ rfl rfl rfl
        exact ⟨by unfold tstS; (repeat' split) <;> first | (exfalso; omega) | (symm; apply decide_eq_true; omega) | (symm; apply decide_eq_false; omega), rfl⟩
      · refine x_iconst (pc := 25) F dX2_isSo_25 ?_
        refine x_goto (tgt := 43) (pc := 26) F dX2_isSo_26 rfl ?_
        refine tq_retz (b := true) (pc := 43) F dX2_isSo_43 ?_ rfl rfl rfl
        exact ⟨by unfold tstS; (repeat' split) <;> first | (exfalso; omega) | (symm; apply decide_eq_true; omega) | (symm; apply decide_eq_false; omega), rfl⟩
  · refine x_iload_n (i := 0) (pc := 4) F dX2_isSo_4 rfl rfl ?_
    refine x_iload_n (i := 2) (pc := 5) F dX2_isSo_5 rfl rfl ?_
    refine x_icmp_ge (tgt := 13) (pc := 6) F dX2_isSo_6 rfl (by omega) (fun h6 => ?_) (fun h6 => ?_)
    · refine x_iconst (pc := 13) F dX2_isSo_13 ?_
      refine tq_retz (b := false) (pc := 14) F dX2_isSo_14 ?_ rfl rfl rfl
      exact ⟨by unfold tstS; (repeat' split) <;> first | (exfalso; omega) | (symm; apply decide_eq_true; omega) | (symm; apply decide_eq_false; omega), rfl⟩
    · refine x_iconst (pc := 9) F dX2_isSo_9 ?_
      refine x_goto (tgt := 14) (pc := 10) F dX2_isSo_10 rfl ?_
      refine tq_retz (b := true) (pc := 14) F dX2_isSo_14 ?_ rfl rfl rfl
      exact ⟨by unfold tstS; (repeat' split) <;> first | (exfalso; omega) | (symm; apply decide_eq_true; omega) | (symm; apply decide_eq_false; omega), rfl⟩
set_option maxRecDepth 20000 in
theorem c_X2_bonus (g d : Int) (hg : 0 ≤ h ∧ h < nh ∨ h = 6) (hh : HouseOK μ h) (hp : 0 ≤ t ∧ t < 3 ∧ 0 ≤ p ∧ p < 6 ∨ t = 3 ∧ p = 0) (hv : (-2147483648 ≤ μ (4, t, p) 0 ∧ μ (4, t, p) 0 < 2147483648) ∧ (-2147483648 ≤ μ (4, t, p) 1 ∧ μ (4, t, p) 1 < 2147483648) ∧ (-2147483648 ≤ μ (4, t, p) 2 ∧ μ (4, t, p) 2 < 2147483648) ∧ (-2147483648 ≤ μ (4, t, p) 5 ∧ μ (4, t, p) 5 < 2147483648) ∧ (-2147483648 ≤ g ∧ g < 2147483648)) (hd : 0 ≤ d ∧ d ≤ 20000) (l : Launch) (E : Ev) (A : Nat → Prop) : Con l E 2 m_X2_bonus A (VC nh) ad μ [.ref (ad (12, h, 0)), .ref (ad (4, t, p)), .int (I g), .int (I d)] (pi fun z μ' => z = bonH μ h (valS (μ (4, t, p) 0) (μ (4, t, p) 1) (μ (4, t, p) 2) g (μ (4, t, p) 5) d) ∧ μ = μ') := by
  obtain ⟨h1, h2, h3, h4, -⟩ := hh
  have hz := hsz_rg h
  refine con (own := RX2) (by decide +kernel) rfl rfl rfl (fun Γ F => ?_)
  generalize hvals : valS (μ (4, t, p) 0) (μ (4, t, p) 1) (μ (4, t, p) 2) g (μ (4, t, p) 5) d = vals
  have hvr : ∀ a, 0 ≤ a → a ≤ 5 → -2147483648 ≤ vals a ∧ vals a < 2147483648 := by
    intro a _ _
    rw [← hvals]
    unfold valS
    repeat' split
    all_goals omega
  have loop : ∀ (N : Nat) (n : Nat), μ (12, h, 0) 2 - n < N → n ≤ μ (12, h, 0) 2 → XX Γ 10 (VC nh) ad (vl ad μ) 0 0 9 [(0, .ref (ad (12, h, 0))), (1, .ref (ad (4, t, p))), (2, .int (I g)), (3, .int (I d)), (4, .int (I (runH (μ (13, h, 0)) (μ (14, h, 0)) vals n).1)), (5, .int (I (bitsL (runH (μ (13, h, 0)) (μ (14, h, 0)) vals n).2))), (6, .int (I (n : Int)))] [] := by
    intro N
    induction N with
    | zero => intro n a1 a2; omega
    | succ N ih =>
      intro n a1 a2
      have hrun : runH (μ (13, h, 0)) (μ (14, h, 0)) vals (n + 1) = stepH (μ (13, h, 0) n) (μ (14, h, 0) n) vals (runH (μ (13, h, 0)) (μ (14, h, 0)) vals n) := rfl
      have hsr := runH_rg (ops := μ (13, h, 0)) (nums := μ (14, h, 0)) (vals := vals) (μ (12, h, 0) 2).toNat (fun i a b => ⟨(h3 i a (by omega)).2.2.1, (h3 i a (by omega)).2.2.2⟩) n (by omega)
      have hbr := bitsL_rg (h4 vals n (by omega))
      have hbt := bitsL_t (runH (μ (13, h, 0)) (μ (14, h, 0)) vals n).2
      have hbt2 := bitsL_t (runH (μ (13, h, 0)) (μ (14, h, 0)) vals n).2.tail
      generalize hs : runH (μ (13, h, 0)) (μ (14, h, 0)) vals n = s at hrun hsr hbr hbt hbt2 ⊢
      refine x_iload (i := 6) (pc := 9) F dX2_bonus_9 rfl ?_
      refine x_aload_n (i := 0) (pc := 11) F dX2_bonus_11 rfl rfl ?_
      refine gf_X2_22 (pc := 12) F dX2_bonus_12 (v_12 (by omega)) ?_
      refine x_icmp_ge (tgt := 195) (pc := 15) F dX2_bonus_15 rfl (by omega) (fun h15 => ?_) (fun h15 => ?_)
      · refine x_iload (i := 4) (pc := 195) F dX2_bonus_195 rfl ?_
        refine tq_reti (pc := 197) F dX2_bonus_197 ?_ rfl rfl rfl
        exact ⟨by rw [hvals]; unfold bonH; rw [show (μ (12, h, 0) 2).toNat = n by omega, hs], rfl⟩
      · have h5 := h3 n (by omega) (by omega)
        refine x_aload_n (i := 0) (pc := 18) F dX2_bonus_18 rfl rfl ?_
        refine gf_X2_9 (pc := 19) F dX2_bonus_19 (v_12 (by omega)) ?_
        refine x_iload (i := 6) (pc := 22) F dX2_bonus_22 rfl ?_
        refine tq_ia (pc := 24) F dX2_bonus_24 (v_13 (by omega)) sh_13 (fun _ => rfl) (by omega) ?_
        refine x_istore (i := 7) (pc := 25) F dX2_bonus_25 rfl ?_
        refine x_iload (i := 5) (pc := 27) F dX2_bonus_27 rfl ?_
        refine x_iconst (pc := 29) F dX2_bonus_29 ?_
        refine r_iand (pc := 30) F dX2_bonus_30 (and1_I (by omega)) ?_
        refine x_istore (i := 8) (pc := 31) F dX2_bonus_31 rfl ?_
        refine x_iload (i := 7) (pc := 33) F dX2_bonus_33 rfl ?_
        refine x_bipush (pc := 35) F dX2_bonus_35 (by decide) ?_
        refine x_icmp_ge (tgt := 86) (pc := 37) F dX2_bonus_37 rfl (by omega) (fun h37 => ?_) (fun h37 => ?_)
        · refine x_iload (i := 7) (pc := 86) F dX2_bonus_86 rfl ?_
          refine x_bipush (pc := 88) F dX2_bonus_88 (by decide) ?_
          refine x_icmp_ne (tgt := 102) (pc := 90) F dX2_bonus_90 rfl (by omega) (fun h90 => ?_) (fun h90 => ?_)
          · refine x_iload (i := 7) (pc := 102) F dX2_bonus_102 rfl ?_
            refine x_bipush (pc := 104) F dX2_bonus_104 (by decide) ?_
            refine x_icmp_ne (tgt := 131) (pc := 106) F dX2_bonus_106 rfl (by omega) (fun h106 => ?_) (fun h106 => ?_)
            · refine x_iload (i := 7) (pc := 131) F dX2_bonus_131 rfl ?_
              refine x_bipush (pc := 133) F dX2_bonus_133 (by decide) ?_
              refine x_icmp_ne (tgt := 150) (pc := 135) F dX2_bonus_135 rfl (by omega) (fun h135 => ?_) (fun h135 => ?_)
              · refine x_iload (i := 8) (pc := 150) F dX2_bonus_150 rfl ?_
                refine x_iconst (pc := 152) F dX2_bonus_152 ?_
                refine x_icmp_ne (tgt := 186) (pc := 153) F dX2_bonus_153 rfl (by omega) (fun h153 => ?_) (fun h153 => ?_)
                · refine x_iconst (pc := 186) F dX2_bonus_186 ?_
                  refine x_istore (i := 5) (pc := 187) F dX2_bonus_187 rfl ?_
                  refine x_iinc (pc := 189) F dX2_bonus_189 rfl rfl ?_
                  refine x_goto (tgt := 9) (pc := 192) F dX2_bonus_192 rfl ?_
                  refine x_sub (L' := [(0, .ref (ad (12, h, 0))), (1, .ref (ad (4, t, p))), (2, .int (I g)), (3, .int (I d)), (4, .int (I (runH (μ (13, h, 0)) (μ (14, h, 0)) vals (n + 1)).1)), (5, .int (I (bitsL (runH (μ (13, h, 0)) (μ (14, h, 0)) vals (n + 1)).2))), (6, .int (I ((n + 1 : Nat) : Int)))]) ⟨rfl, rfl, rfl, rfl, lk_i rfl ?_, lk_i rfl ?_, rfl, trivial⟩ (ih (n + 1) (by omega) (by omega))
                  · rw [hrun]; unfold stepH; revert hbt hbt2; generalize hdB s.2 = b1; generalize hdB s.2.tail = b2; intro hbt hbt2; repeat' split
                    all_goals first | rfl | (exfalso; cases b1 <;> cases b2 <;> simp only [bI_t, bI_f, reduceCtorEq, not_true, not_false_iff] at * <;> omega) | (cases b1 <;> cases b2 <;> simp only [bI_t, bI_f] at * <;> omega)
                  · rw [hrun]; unfold stepH; revert hbt hbt2; generalize hdB s.2 = b1; generalize hdB s.2.tail = b2; intro hbt hbt2
                    have hz0 := bitsL_0 s.2.tail.tail
                    repeat' split
                    all_goals simp only [bitsL]
                    all_goals first | (cases b1 <;> cases b2 <;> simp only [bI_t, bI_f, Bool.not_true, Bool.not_false, Bool.and_true, Bool.and_false, Bool.or_true, Bool.or_false, Bool.true_and, Bool.false_and, orb] at * <;> omega) | (simp only [h72, bI_t, bI_f]; omega) | skip
                · refine x_iload (i := 4) (pc := 156) F dX2_bonus_156 rfl ?_
                  refine x_iload (i := 7) (pc := 158) F dX2_bonus_158 rfl ?_
                  refine x_bipush (pc := 160) F dX2_bonus_160 (by decide) ?_
                  refine x_icmp_ne (tgt := 175) (pc := 162) F dX2_bonus_162 rfl (by omega) (fun h162 => ?_) (fun h162 => ?_)
                  · refine x_aload_n (i := 0) (pc := 175) F dX2_bonus_175 rfl rfl ?_
                    refine gf_X2_15 (pc := 176) F dX2_bonus_176 (v_12 (by omega)) ?_
                    refine x_iload (i := 6) (pc := 179) F dX2_bonus_179 rfl ?_
                    refine tq_ia (pc := 181) F dX2_bonus_181 (v_14 (by omega)) sh_14 (fun _ => rfl) (by omega) ?_
                    refine x_ineg (pc := 182) F dX2_bonus_182 ?_
                    refine x_iadd (pc := 183) F dX2_bonus_183 ?_
                    refine x_istore (i := 4) (pc := 184) F dX2_bonus_184 rfl ?_
                    refine x_iconst (pc := 186) F dX2_bonus_186 ?_
                    refine x_istore (i := 5) (pc := 187) F dX2_bonus_187 rfl ?_
                    refine x_iinc (pc := 189) F dX2_bonus_189 rfl rfl ?_
                    refine x_goto (tgt := 9) (pc := 192) F dX2_bonus_192 rfl ?_
                    refine x_sub (L' := [(0, .ref (ad (12, h, 0))), (1, .ref (ad (4, t, p))), (2, .int (I g)), (3, .int (I d)), (4, .int (I (runH (μ (13, h, 0)) (μ (14, h, 0)) vals (n + 1)).1)), (5, .int (I (bitsL (runH (μ (13, h, 0)) (μ (14, h, 0)) vals (n + 1)).2))), (6, .int (I ((n + 1 : Nat) : Int)))]) ⟨rfl, rfl, rfl, rfl, lk_i rfl ?_, lk_i rfl ?_, rfl, trivial⟩ (ih (n + 1) (by omega) (by omega))
                    · rw [hrun]; unfold stepH; revert hbt hbt2; generalize hdB s.2 = b1; generalize hdB s.2.tail = b2; intro hbt hbt2; repeat' split
                      all_goals first | rfl | (exfalso; cases b1 <;> cases b2 <;> simp only [bI_t, bI_f, reduceCtorEq, not_true, not_false_iff] at * <;> omega) | (cases b1 <;> cases b2 <;> simp only [bI_t, bI_f] at * <;> omega)
                    · rw [hrun]; unfold stepH; revert hbt hbt2; generalize hdB s.2 = b1; generalize hdB s.2.tail = b2; intro hbt hbt2
                      have hz0 := bitsL_0 s.2.tail.tail
                      repeat' split
                      all_goals simp only [bitsL]
                      all_goals first | (cases b1 <;> cases b2 <;> simp only [bI_t, bI_f, Bool.not_true, Bool.not_false, Bool.and_true, Bool.and_false, Bool.or_true, Bool.or_false, Bool.true_and, Bool.false_and, orb] at * <;> omega) | (simp only [h72, bI_t, bI_f]; omega) | skip
                  · refine x_aload_n (i := 0) (pc := 165) F dX2_bonus_165 rfl rfl ?_
                    refine gf_X2_15 (pc := 166) F dX2_bonus_166 (v_12 (by omega)) ?_
                    refine x_iload (i := 6) (pc := 169) F dX2_bonus_169 rfl ?_
                    refine tq_ia (pc := 171) F dX2_bonus_171 (v_14 (by omega)) sh_14 (fun _ => rfl) (by omega) ?_
                    refine x_goto (tgt := 183) (pc := 172) F dX2_bonus_172 rfl ?_
                    refine x_iadd (pc := 183) F dX2_bonus_183 ?_
                    refine x_istore (i := 4) (pc := 184) F dX2_bonus_184 rfl ?_
                    refine x_iconst (pc := 186) F dX2_bonus_186 ?_
                    refine x_istore (i := 5) (pc := 187) F dX2_bonus_187 rfl ?_
                    refine x_iinc (pc := 189) F dX2_bonus_189 rfl rfl ?_
                    refine x_goto (tgt := 9) (pc := 192) F dX2_bonus_192 rfl ?_
                    refine x_sub (L' := [(0, .ref (ad (12, h, 0))), (1, .ref (ad (4, t, p))), (2, .int (I g)), (3, .int (I d)), (4, .int (I (runH (μ (13, h, 0)) (μ (14, h, 0)) vals (n + 1)).1)), (5, .int (I (bitsL (runH (μ (13, h, 0)) (μ (14, h, 0)) vals (n + 1)).2))), (6, .int (I ((n + 1 : Nat) : Int)))]) ⟨rfl, rfl, rfl, rfl, lk_i rfl ?_, lk_i rfl ?_, rfl, trivial⟩ (ih (n + 1) (by omega) (by omega))
                    · rw [hrun]; unfold stepH; revert hbt hbt2; generalize hdB s.2 = b1; generalize hdB s.2.tail = b2; intro hbt hbt2; repeat' split
                      all_goals first | rfl | (exfalso; cases b1 <;> cases b2 <;> simp only [bI_t, bI_f, reduceCtorEq, not_true, not_false_iff] at * <;> omega) | (cases b1 <;> cases b2 <;> simp only [bI_t, bI_f] at * <;> omega)
                    · rw [hrun]; unfold stepH; revert hbt hbt2; generalize hdB s.2 = b1; generalize hdB s.2.tail = b2; intro hbt hbt2
                      have hz0 := bitsL_0 s.2.tail.tail
                      repeat' split
                      all_goals simp only [bitsL]
                      all_goals first | (cases b1 <;> cases b2 <;> simp only [bI_t, bI_f, Bool.not_true, Bool.not_false, Bool.and_true, Bool.and_false, Bool.or_true, Bool.or_false, Bool.true_and, Bool.false_and, orb] at * <;> omega) | (simp only [h72, bI_t, bI_f]; omega) | skip
              · refine x_iload (i := 5) (pc := 138) F dX2_bonus_138 rfl ?_
                refine x_iconst (pc := 140) F dX2_bonus_140 ?_
                refine r_ishr (pc := 141) F dX2_bonus_141 (shr1_I (by omega)) ?_
                refine x_iload (i := 8) (pc := 142) F dX2_bonus_142 rfl ?_
                refine r_ior (pc := 144) F dX2_bonus_144 (orb_I (by omega) (by omega)) ?_
                refine x_istore (i := 5) (pc := 145) F dX2_bonus_145 rfl ?_
                refine x_goto (tgt := 189) (pc := 147) F dX2_bonus_147 rfl ?_
                refine x_iinc (pc := 189) F dX2_bonus_189 rfl rfl ?_
                refine x_goto (tgt := 9) (pc := 192) F dX2_bonus_192 rfl ?_
                refine x_sub (L' := [(0, .ref (ad (12, h, 0))), (1, .ref (ad (4, t, p))), (2, .int (I g)), (3, .int (I d)), (4, .int (I (runH (μ (13, h, 0)) (μ (14, h, 0)) vals (n + 1)).1)), (5, .int (I (bitsL (runH (μ (13, h, 0)) (μ (14, h, 0)) vals (n + 1)).2))), (6, .int (I ((n + 1 : Nat) : Int)))]) ⟨rfl, rfl, rfl, rfl, lk_i rfl ?_, lk_i rfl ?_, rfl, trivial⟩ (ih (n + 1) (by omega) (by omega))
                · rw [hrun]; unfold stepH; revert hbt hbt2; generalize hdB s.2 = b1; generalize hdB s.2.tail = b2; intro hbt hbt2; repeat' split
                  all_goals first | rfl | (exfalso; cases b1 <;> cases b2 <;> simp only [bI_t, bI_f, reduceCtorEq, not_true, not_false_iff] at * <;> omega) | (cases b1 <;> cases b2 <;> simp only [bI_t, bI_f] at * <;> omega)
                · rw [hrun]; unfold stepH; revert hbt hbt2; generalize hdB s.2 = b1; generalize hdB s.2.tail = b2; intro hbt hbt2
                  have hz0 := bitsL_0 s.2.tail.tail
                  repeat' split
                  all_goals simp only [bitsL]
                  all_goals first | (cases b1 <;> cases b2 <;> simp only [bI_t, bI_f, Bool.not_true, Bool.not_false, Bool.and_true, Bool.and_false, Bool.or_true, Bool.or_false, Bool.true_and, Bool.false_and, orb] at * <;> omega) | (simp only [h72, bI_t, bI_f]; omega) | skip
            · refine x_iload (i := 5) (pc := 109) F dX2_bonus_109 rfl ?_
              refine x_iconst (pc := 111) F dX2_bonus_111 ?_
              refine r_ishr (pc := 112) F dX2_bonus_112 (shr1_I (by omega)) ?_
              refine x_iload (i := 8) (pc := 113) F dX2_bonus_113 rfl ?_
              refine x_iconst (pc := 115) F dX2_bonus_115 ?_
              refine x_icmp_ne (tgt := 123) (pc := 116) F dX2_bonus_116 rfl (by omega) (fun h116 => ?_) (fun h116 => ?_)
              · refine x_bipush (pc := 123) F dX2_bonus_123 (by decide) ?_
                refine r_iand (pc := 125) F dX2_bonus_125 (andm2_I (by omega)) ?_
                refine x_istore (i := 5) (pc := 126) F dX2_bonus_126 rfl ?_
                refine x_goto (tgt := 189) (pc := 128) F dX2_bonus_128 rfl ?_
                refine x_iinc (pc := 189) F dX2_bonus_189 rfl rfl ?_
                refine x_goto (tgt := 9) (pc := 192) F dX2_bonus_192 rfl ?_
                refine x_sub (L' := [(0, .ref (ad (12, h, 0))), (1, .ref (ad (4, t, p))), (2, .int (I g)), (3, .int (I d)), (4, .int (I (runH (μ (13, h, 0)) (μ (14, h, 0)) vals (n + 1)).1)), (5, .int (I (bitsL (runH (μ (13, h, 0)) (μ (14, h, 0)) vals (n + 1)).2))), (6, .int (I ((n + 1 : Nat) : Int)))]) ⟨rfl, rfl, rfl, rfl, lk_i rfl ?_, lk_i rfl ?_, rfl, trivial⟩ (ih (n + 1) (by omega) (by omega))
                · rw [hrun]; unfold stepH; revert hbt hbt2; generalize hdB s.2 = b1; generalize hdB s.2.tail = b2; intro hbt hbt2; repeat' split
                  all_goals first | rfl | (exfalso; cases b1 <;> cases b2 <;> simp only [bI_t, bI_f, reduceCtorEq, not_true, not_false_iff] at * <;> omega) | (cases b1 <;> cases b2 <;> simp only [bI_t, bI_f] at * <;> omega)
                · rw [hrun]; unfold stepH; revert hbt hbt2; generalize hdB s.2 = b1; generalize hdB s.2.tail = b2; intro hbt hbt2
                  have hz0 := bitsL_0 s.2.tail.tail
                  repeat' split
                  all_goals simp only [bitsL]
                  all_goals first | (cases b1 <;> cases b2 <;> simp only [bI_t, bI_f, Bool.not_true, Bool.not_false, Bool.and_true, Bool.and_false, Bool.or_true, Bool.or_false, Bool.true_and, Bool.false_and, orb] at * <;> omega) | (simp only [h72, bI_t, bI_f]; omega) | skip
              · refine x_iconst (pc := 119) F dX2_bonus_119 ?_
                refine x_goto (tgt := 125) (pc := 120) F dX2_bonus_120 rfl ?_
                refine r_iand (pc := 125) F dX2_bonus_125 andm1_I ?_
                refine x_istore (i := 5) (pc := 126) F dX2_bonus_126 rfl ?_
                refine x_goto (tgt := 189) (pc := 128) F dX2_bonus_128 rfl ?_
                refine x_iinc (pc := 189) F dX2_bonus_189 rfl rfl ?_
                refine x_goto (tgt := 9) (pc := 192) F dX2_bonus_192 rfl ?_
                refine x_sub (L' := [(0, .ref (ad (12, h, 0))), (1, .ref (ad (4, t, p))), (2, .int (I g)), (3, .int (I d)), (4, .int (I (runH (μ (13, h, 0)) (μ (14, h, 0)) vals (n + 1)).1)), (5, .int (I (bitsL (runH (μ (13, h, 0)) (μ (14, h, 0)) vals (n + 1)).2))), (6, .int (I ((n + 1 : Nat) : Int)))]) ⟨rfl, rfl, rfl, rfl, lk_i rfl ?_, lk_i rfl ?_, rfl, trivial⟩ (ih (n + 1) (by omega) (by omega))
                · rw [hrun]; unfold stepH; revert hbt hbt2; generalize hdB s.2 = b1; generalize hdB s.2.tail = b2; intro hbt hbt2; repeat' split
                  all_goals first | rfl | (exfalso; cases b1 <;> cases b2 <;> simp only [bI_t, bI_f, reduceCtorEq, not_true, not_false_iff] at * <;> omega) | (cases b1 <;> cases b2 <;> simp only [bI_t, bI_f] at * <;> omega)
                · rw [hrun]; unfold stepH; revert hbt hbt2; generalize hdB s.2 = b1; generalize hdB s.2.tail = b2; intro hbt hbt2
                  have hz0 := bitsL_0 s.2.tail.tail
                  repeat' split
                  all_goals simp only [bitsL]
                  all_goals first | (cases b1 <;> cases b2 <;> simp only [bI_t, bI_f, Bool.not_true, Bool.not_false, Bool.and_true, Bool.and_false, Bool.or_true, Bool.or_false, Bool.true_and, Bool.false_and, orb] at * <;> omega) | (simp only [h72, bI_t, bI_f]; omega) | skip
          · refine x_iload (i := 5) (pc := 93) F dX2_bonus_93 rfl ?_
            refine x_iconst (pc := 95) F dX2_bonus_95 ?_
            refine r_ixor (pc := 96) F dX2_bonus_96 (xor1_I (by omega)) ?_
            refine x_istore (i := 5) (pc := 97) F dX2_bonus_97 rfl ?_
            refine x_goto (tgt := 189) (pc := 99) F dX2_bonus_99 rfl ?_
            refine x_iinc (pc := 189) F dX2_bonus_189 rfl rfl ?_
            refine x_goto (tgt := 9) (pc := 192) F dX2_bonus_192 rfl ?_
            refine x_sub (L' := [(0, .ref (ad (12, h, 0))), (1, .ref (ad (4, t, p))), (2, .int (I g)), (3, .int (I d)), (4, .int (I (runH (μ (13, h, 0)) (μ (14, h, 0)) vals (n + 1)).1)), (5, .int (I (bitsL (runH (μ (13, h, 0)) (μ (14, h, 0)) vals (n + 1)).2))), (6, .int (I ((n + 1 : Nat) : Int)))]) ⟨rfl, rfl, rfl, rfl, lk_i rfl ?_, lk_i rfl ?_, rfl, trivial⟩ (ih (n + 1) (by omega) (by omega))
            · rw [hrun]; unfold stepH; revert hbt hbt2; generalize hdB s.2 = b1; generalize hdB s.2.tail = b2; intro hbt hbt2; repeat' split
              all_goals first | rfl | (exfalso; cases b1 <;> cases b2 <;> simp only [bI_t, bI_f, reduceCtorEq, not_true, not_false_iff] at * <;> omega) | (cases b1 <;> cases b2 <;> simp only [bI_t, bI_f] at * <;> omega)
            · rw [hrun]; unfold stepH; revert hbt hbt2; generalize hdB s.2 = b1; generalize hdB s.2.tail = b2; intro hbt hbt2
              have hz0 := bitsL_0 s.2.tail.tail
              repeat' split
              all_goals simp only [bitsL]
              all_goals first | (cases b1 <;> cases b2 <;> simp only [bI_t, bI_f, Bool.not_true, Bool.not_false, Bool.and_true, Bool.and_false, Bool.or_true, Bool.or_false, Bool.true_and, Bool.false_and, orb] at * <;> omega) | (simp only [h72, bI_t, bI_f]; omega) | skip
        · refine x_iload (i := 7) (pc := 40) F dX2_bonus_40 rfl ?_
          refine x_iconst (pc := 42) F dX2_bonus_42 ?_
          refine tq_idiv (pc := 43) F dX2_bonus_43 (by omega) ?_
          refine x_aload_n (i := 1) (pc := 44) F dX2_bonus_44 rfl rfl ?_
          refine x_iload_n (i := 2) (pc := 45) F dX2_bonus_45 rfl rfl ?_
          refine x_iload_n (i := 3) (pc := 46) F dX2_bonus_46 rfl rfl ?_
          refine x_S4i (pc := 47) F dX2_bonus_47 lk_X2_28 rfl (c_X2_valueOf _ _ _ (by omega) (by omega) (by omega)) rfl rfl rfl ?_
          rintro _ _ ⟨rfl, rfl⟩
          rw [hvals]
          refine x_iload (i := 7) (pc := 50) F dX2_bonus_50 rfl ?_
          refine x_iconst (pc := 52) F dX2_bonus_52 ?_
          refine tq_irem (pc := 53) F dX2_bonus_53 (by omega) ?_
          refine x_aload_n (i := 0) (pc := 54) F dX2_bonus_54 rfl rfl ?_
          refine gf_X2_15 (pc := 55) F dX2_bonus_55 (v_12 (by omega)) ?_
          refine x_iload (i := 6) (pc := 58) F dX2_bonus_58 rfl ?_
          refine tq_ia (pc := 60) F dX2_bonus_60 (v_14 (by omega)) sh_14 (fun _ => rfl) (by omega) ?_
          have h6 := hvr (μ (13, h, 0) n / 3) (by omega) (by omega)
          refine x_S3z (pc := 61) F dX2_bonus_61 lk_X2_32 rfl (c_X2_isSo _ _ _ (by omega) (by omega) (by omega)) rfl rfl rfl ?_
          rintro _ _ ⟨rfl, rfl⟩
          refine x_istore (i := 9) (pc := 64) F dX2_bonus_64 rfl ?_
          refine x_iload (i := 5) (pc := 66) F dX2_bonus_66 rfl ?_
          refine x_iconst (pc := 68) F dX2_bonus_68 ?_
          refine r_ishl (pc := 69) F dX2_bonus_69 shl1_I ?_
          refine x_iload (i := 9) (pc := 70) F dX2_bonus_70 rfl ?_
          refine x_if_eqB (tgt := 79) (pc := 72) F dX2_bonus_72 rfl (fun h72 => ?_) (fun h72 => ?_)
          · try simp only [decide_eq_true_eq, decide_eq_false_iff_not, Bool.and_eq_true, Bool.or_eq_true, Bool.not_eq_true', Bool.not_eq_false', Bool.and_eq_false_iff, Bool.or_eq_false_iff] at h72
            refine x_iconst (pc := 79) F dX2_bonus_79 ?_
            refine r_ior (pc := 80) F dX2_bonus_80 (or0_I (by omega)) ?_
            refine x_istore (i := 5) (pc := 81) F dX2_bonus_81 rfl ?_
            refine x_goto (tgt := 189) (pc := 83) F dX2_bonus_83 rfl ?_
            refine x_iinc (pc := 189) F dX2_bonus_189 rfl rfl ?_
            refine x_goto (tgt := 9) (pc := 192) F dX2_bonus_192 rfl ?_
            refine x_sub (L' := [(0, .ref (ad (12, h, 0))), (1, .ref (ad (4, t, p))), (2, .int (I g)), (3, .int (I d)), (4, .int (I (runH (μ (13, h, 0)) (μ (14, h, 0)) vals (n + 1)).1)), (5, .int (I (bitsL (runH (μ (13, h, 0)) (μ (14, h, 0)) vals (n + 1)).2))), (6, .int (I ((n + 1 : Nat) : Int)))]) ⟨rfl, rfl, rfl, rfl, lk_i rfl ?_, lk_i rfl ?_, rfl, trivial⟩ (ih (n + 1) (by omega) (by omega))
            · rw [hrun]; unfold stepH; revert hbt hbt2; generalize hdB s.2 = b1; generalize hdB s.2.tail = b2; intro hbt hbt2; repeat' split
              all_goals first | rfl | (exfalso; cases b1 <;> cases b2 <;> simp only [bI_t, bI_f, reduceCtorEq, not_true, not_false_iff] at * <;> omega) | (cases b1 <;> cases b2 <;> simp only [bI_t, bI_f] at * <;> omega)
            · rw [hrun]; unfold stepH; revert hbt hbt2; generalize hdB s.2 = b1; generalize hdB s.2.tail = b2; intro hbt hbt2
              have hz0 := bitsL_0 s.2.tail.tail
              repeat' split
              all_goals simp only [bitsL]
              all_goals first | (cases b1 <;> cases b2 <;> simp only [bI_t, bI_f, Bool.not_true, Bool.not_false, Bool.and_true, Bool.and_false, Bool.or_true, Bool.or_false, Bool.true_and, Bool.false_and, orb] at * <;> omega) | (simp only [h72, bI_t, bI_f]; omega) | skip
          · try simp only [decide_eq_true_eq, decide_eq_false_iff_not, Bool.and_eq_true, Bool.or_eq_true, Bool.not_eq_true', Bool.not_eq_false', Bool.and_eq_false_iff, Bool.or_eq_false_iff] at h72
            refine x_iconst (pc := 75) F dX2_bonus_75 ?_
            refine x_goto (tgt := 80) (pc := 76) F dX2_bonus_76 rfl ?_
            refine r_ior (pc := 80) F dX2_bonus_80 (or1_I (by omega)) ?_
            refine x_istore (i := 5) (pc := 81) F dX2_bonus_81 rfl ?_
            refine x_goto (tgt := 189) (pc := 83) F dX2_bonus_83 rfl ?_
            refine x_iinc (pc := 189) F dX2_bonus_189 rfl rfl ?_
            refine x_goto (tgt := 9) (pc := 192) F dX2_bonus_192 rfl ?_
            refine x_sub (L' := [(0, .ref (ad (12, h, 0))), (1, .ref (ad (4, t, p))), (2, .int (I g)), (3, .int (I d)), (4, .int (I (runH (μ (13, h, 0)) (μ (14, h, 0)) vals (n + 1)).1)), (5, .int (I (bitsL (runH (μ (13, h, 0)) (μ (14, h, 0)) vals (n + 1)).2))), (6, .int (I ((n + 1 : Nat) : Int)))]) ⟨rfl, rfl, rfl, rfl, lk_i rfl ?_, lk_i rfl ?_, rfl, trivial⟩ (ih (n + 1) (by omega) (by omega))
            · rw [hrun]; unfold stepH; revert hbt hbt2; generalize hdB s.2 = b1; generalize hdB s.2.tail = b2; intro hbt hbt2; repeat' split
              all_goals first | rfl | (exfalso; cases b1 <;> cases b2 <;> simp only [bI_t, bI_f, reduceCtorEq, not_true, not_false_iff] at * <;> omega) | (cases b1 <;> cases b2 <;> simp only [bI_t, bI_f] at * <;> omega)
            · rw [hrun]; unfold stepH; revert hbt hbt2; generalize hdB s.2 = b1; generalize hdB s.2.tail = b2; intro hbt hbt2
              have hz0 := bitsL_0 s.2.tail.tail
              repeat' split
              all_goals simp only [bitsL]
              all_goals first | (cases b1 <;> cases b2 <;> simp only [bI_t, bI_f, Bool.not_true, Bool.not_false, Bool.and_true, Bool.and_false, Bool.or_true, Bool.or_false, Bool.true_and, Bool.false_and, orb] at * <;> omega) | (simp only [h72, bI_t, bI_f]; omega) | skip
  refine x_iconst (pc := 0) F dX2_bonus_0 ?_
  refine x_istore (i := 4) (pc := 1) F dX2_bonus_1 rfl ?_
  refine x_iconst (pc := 3) F dX2_bonus_3 ?_
  refine x_istore (i := 5) (pc := 4) F dX2_bonus_4 rfl ?_
  refine x_iconst (pc := 6) F dX2_bonus_6 ?_
  refine x_istore (i := 6) (pc := 7) F dX2_bonus_7 rfl ?_
  exact x_sub (L' := [(0, .ref (ad (12, h, 0))), (1, .ref (ad (4, t, p))), (2, .int (I g)), (3, .int (I d)), (4, .int (I (runH (μ (13, h, 0)) (μ (14, h, 0)) vals 0).1)), (5, .int (I (bitsL (runH (μ (13, h, 0)) (μ (14, h, 0)) vals 0).2))), (6, .int (I ((0 : Nat) : Int)))]) ⟨rfl, rfl, rfl, rfl, rfl, rfl, rfl, trivial⟩ (loop ((μ (12, h, 0) 2).toNat + 1) 0 (by omega) (by omega))
end HOUSE
