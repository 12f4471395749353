/-! ===== arrays of the typed memory ===== -/
section ARR
variable {Γ : Ct} {cc : ByteArray} {own : String} {nL : Nat} {ret : Option FieldType} {P : Pq} {d mc ms : Nat} {V : Ob → Prop} {ad : Ob → Nat} {μ : Me} {cs sl pc n : Nat} {L : List (Nat × Value)} {st : List Value} {o : Ob} {j z : Int}
theorem toNat_c {j : Int} (h : 0 ≤ j) : ((j.toNat : Nat) : Int) = j := Int.toNat_of_nonneg h
/-- a load from an int array -/
theorem tq_ia (F : Fx Γ cc own nL ret P d mc ms) (dd : decode cc pc = .ok (.iaload, 1)) (ho : V o) (hs : shp o = .inr (0, n)) (hk : ∀ k, sk ad o k = .inl 0) (hj : 0 ≤ j ∧ j < n ∧ n ≤ 2147483647) (kk : XX Γ nL V ad (vl ad μ) cs sl (pc + 1) L (.int (I (μ o j)) :: st)) : XX Γ nL V ad (vl ad μ) cs sl pc L (.int (I j) :: .ref (ad o) :: st) :=
  x_iald F dd ho hs hj (by rw [vl_i (hk _), toNat_c hj.1]) kk
theorem tq_ca (F : Fx Γ cc own nL ret P d mc ms) (dd : decode cc pc = .ok (.caload, 1)) (ho : V o) (hs : shp o = .inr (3, n)) (hk : ∀ k, sk ad o k = .inl 0) (hj : 0 ≤ j ∧ j < n ∧ n ≤ 2147483647) (kk : XX Γ nL V ad (vl ad μ) cs sl (pc + 1) L (.int (I (μ o j)) :: st)) : XX Γ nL V ad (vl ad μ) cs sl pc L (.int (I j) :: .ref (ad o) :: st) :=
  x_cald F dd ho hs hj (by rw [vl_i (hk _), toNat_c hj.1]) kk
theorem tq_ba (F : Fx Γ cc own nL ret P d mc ms) (dd : decode cc pc = .ok (.baload, 1)) (ho : V o) (hs : shp o = .inr (2, n)) (hk : ∀ k, sk ad o k = .inl 0) (hj : 0 ≤ j ∧ j < n ∧ n ≤ 2147483647) (kk : XX Γ nL V ad (vl ad μ) cs sl (pc + 1) L (.int (I (μ o j)) :: st)) : XX Γ nL V ad (vl ad μ) cs sl pc L (.int (I j) :: .ref (ad o) :: st) :=
  x_bald F dd ho hs hj (by rw [vl_i (hk _), toNat_c hj.1]) kk
theorem tq_la (F : Fx Γ cc own nL ret P d mc ms) (dd : decode cc pc = .ok (.laload, 1)) (ho : V o) (hs : shp o = .inr (1, n)) (hk : ∀ k, sk ad o k = .inl 1) (hj : 0 ≤ j ∧ j < n ∧ n ≤ 2147483647) (kk : XX Γ nL V ad (vl ad μ) cs sl (pc + 1) L (.long (J (μ o j)) :: st)) : XX Γ nL V ad (vl ad μ) cs sl pc L (.int (I j) :: .ref (ad o) :: st) :=
  x_lald F dd ho hs hj (by rw [vl_l (hk _), toNat_c hj.1]) kk
/-- a load of an object from its row: rows 10 (Gates), 11 (Comers), 19 (Tapes), 17 (Houses) -/
theorem tq_ga {t : Int} (F : Fx Γ cc own nL ret P d mc ms) (dd : decode cc pc = .ok (.aaload, 1)) (ho : V (10, t, 0)) (hj : 0 ≤ j ∧ j < 4) (kk : XX Γ nL V ad (vl ad μ) cs sl (pc + 1) L (.ref (ad (2, t, j)) :: st)) : XX Γ nL V ad (vl ad μ) cs sl pc L (.int (I j) :: .ref (ad (10, t, 0)) :: st) :=
  x_aald (n := 4) F dd ho rfl rfl rfl (by omega) (by rw [vl_st (v := .ref (ad (2, t, (j.toNat : Int)))) rfl, toNat_c hj.1]) kk
theorem tq_pa {t : Int} (F : Fx Γ cc own nL ret P d mc ms) (dd : decode cc pc = .ok (.aaload, 1)) (ho : V (11, t, 0)) (hj : 0 ≤ j ∧ j < 6) (kk : XX Γ nL V ad (vl ad μ) cs sl (pc + 1) L (.ref (ad (4, t, j)) :: st)) : XX Γ nL V ad (vl ad μ) cs sl pc L (.int (I j) :: .ref (ad (11, t, 0)) :: st) :=
  x_aald (n := 6) F dd ho rfl rfl rfl (by omega) (by rw [vl_st (v := .ref (ad (4, t, (j.toNat : Int)))) rfl, toNat_c hj.1]) kk
theorem tq_ta (F : Fx Γ cc own nL ret P d mc ms) (dd : decode cc pc = .ok (.aaload, 1)) (ho : V (19, 0, 0)) (hj : 0 ≤ j ∧ j < 6) (kk : XX Γ nL V ad (vl ad μ) cs sl (pc + 1) L (.ref (ad (20, j, 0)) :: st)) : XX Γ nL V ad (vl ad μ) cs sl pc L (.int (I j) :: .ref (ad (19, 0, 0)) :: st) :=
  x_aald (n := 6) F dd ho rfl rfl rfl (by omega) (by rw [vl_st (v := .ref (ad (20, (j.toNat : Int), 0))) rfl, toNat_c hj.1]) kk
theorem tq_ha (F : Fx Γ cc own nL ret P d mc ms) (dd : decode cc pc = .ok (.aaload, 1)) (ho : V (17, 0, 0)) (hj : 0 ≤ j ∧ j < 6) (kk : XX Γ nL V ad (vl ad μ) cs sl (pc + 1) L (hvl ad (μ (17, 0, 0) j) :: st)) : XX Γ nL V ad (vl ad μ) cs sl pc L (.int (I j) :: .ref (ad (17, 0, 0)) :: st) :=
  x_aald (n := 6) F dd ho rfl rfl rfl (by omega) (by rw [vl_h rfl, toNat_c hj.1]) kk
/-- stores -/
theorem tq_ias (F : Fx Γ cc own nL ret P d mc ms) (dd : decode cc pc = .ok (.iastore, 1)) (ho : V o) (hs : shp o = .inr (0, n)) (hk : ∀ k, sk ad o k = .inl 0) (hj : 0 ≤ j ∧ j < n ∧ n ≤ 2147483647) (kk : XX Γ nL V ad (vl ad (upM μ o j z)) cs sl (pc + 1) L st) : XX Γ nL V ad (vl ad μ) cs sl pc L (.int (I z) :: .int (I j) :: .ref (ad o) :: st) := by
  refine x_iast F dd ho hs hj ?_
  rw [upV_vl (z := z) (by rw [hk]; rfl), toNat_c hj.1]
  exact kk
theorem tq_las (F : Fx Γ cc own nL ret P d mc ms) (dd : decode cc pc = .ok (.lastore, 1)) (ho : V o) (hs : shp o = .inr (1, n)) (hk : ∀ k, sk ad o k = .inl 1) (hj : 0 ≤ j ∧ j < n ∧ n ≤ 2147483647) (kk : XX Γ nL V ad (vl ad (upM μ o j z)) cs sl (pc + 1) L st) : XX Γ nL V ad (vl ad μ) cs sl pc L (.long (J z) :: .int (I j) :: .ref (ad o) :: st) := by
  refine x_last F dd ho hs hj ?_
  rw [upV_vl (z := z) (by rw [hk]; rfl), toNat_c hj.1]
  exact kk
theorem nar_byte {z : Int} (h : -128 ≤ z ∧ z < 128) : narrow .byte (.int (I z)) = .int (I z) := by
  have e : (I z).toInt8.toInt32 = I z := by
    apply Int32.toInt_inj.mp
    rw [Int8.toInt_toInt32, Int32.toInt_toInt8, I_toInt (by omega)]
    exact Int.bmod_eq_of_le (by omega) (by omega)
  show Value.int _ = _
  rw [e]
theorem tq_bas (F : Fx Γ cc own nL ret P d mc ms) (dd : decode cc pc = .ok (.bastore, 1)) (ho : V o) (hs : shp o = .inr (2, n)) (hk : ∀ k, sk ad o k = .inl 0) (hj : 0 ≤ j ∧ j < n ∧ n ≤ 2147483647) (hz : -128 ≤ z ∧ z < 128) (kk : XX Γ nL V ad (vl ad (upM μ o j z)) cs sl (pc + 1) L st) : XX Γ nL V ad (vl ad μ) cs sl pc L (.int (I z) :: .int (I j) :: .ref (ad o) :: st) := by
  refine x_bast F dd ho hs hj ?_
  rw [nar_byte hz, upV_vl (z := z) (by rw [hk]; rfl), toNat_c hj.1]
  exact kk
/-- what a copy leaves in the typed memory -/
def cpM (μ : Me) (o1 o2 : Ob) (sp dp n : Int) : Me := fun o k => if o = o2 ∧ dp ≤ k ∧ k < dp + n then μ o1 (sp + (k - dp)) else μ o k
theorem tq_copy {ti n1 n2 idx : Nat} {sp dp n : Int} {o1 o2 : Ob} {tk : Nat} (F : Fx Γ cc own nL ret P d mc ms) (dd : decode cc pc = .ok (.invokestatic idx, 3)) (hlk : Cond.methodLink own idx arraycopyName ∈ wA) (hw2 : Cond.native arraycopyName ∈ wA) (hw3 : Cond.static arraycopyName ∈ wA) (hw4 : Cond.initialized "java/lang/System" ∈ wA) (hd : Nat.ble 1 d = true) (h1 : V o1) (h2 : V o2) (hs1 : shp o1 = .inr (ti, n1)) (hs2 : shp o2 = .inr (ti, n2)) (hti : ti = 0 ∧ tk = 0 ∨ ti = 1 ∧ tk = 1) (hk1 : ∀ k, sk ad o1 k = .inl tk) (hk2 : ∀ k, sk ad o2 k = .inl tk)
    (hj : 0 ≤ sp ∧ 0 ≤ dp ∧ 0 ≤ n ∧ sp + n ≤ n1 ∧ dp + n ≤ n2 ∧ n1 ≤ 2147483647 ∧ n2 ≤ 2147483647) (hcat : Nat.ble ((st.map fun v => v.category).sum) 4 = true)
    (kk : XX Γ nL V ad (vl ad (cpM μ o1 o2 sp dp n)) cs sl (pc + 3) L st) : XX Γ nL V ad (vl ad μ) cs sl pc L (.int (I n) :: .int (I dp) :: .ref (ad o2) :: .int (I sp) :: .ref (ad o1) :: st) := by
  refine x_copy F dd hlk hw2 hw3 hw4 (Nat.le_of_ble_eq_true hd) h1 h2 hs1 hs2 (by rcases hti with ⟨rfl, -⟩ | ⟨rfl, -⟩ <;> rfl) hj (fun i hi => ?_) hcat ?_
  · rcases hti with ⟨rfl, rfl⟩ | ⟨rfl, rfl⟩
    · rw [vl_i (hk1 _)]
      rfl
    · rw [vl_l (hk1 _)]
      rfl
  · have e : cpV (vl ad μ) o1 o2 sp.toNat dp.toNat n.toNat = vl ad (cpM μ o1 o2 sp dp n) := by
      funext o k
      unfold cpV vl cpM
      by_cases hq : o = o2 ∧ dp.toNat ≤ k ∧ k < dp.toNat + n.toNat
      · have hq2 : o = o2 ∧ dp ≤ (k : Int) ∧ (k : Int) < dp + n := ⟨hq.1, by omega, by omega⟩
        rw [if_pos hq, if_pos hq2, hq.1, hk1, hk2]
        congr 2
        omega
      · have hq2 : ¬ (o = o2 ∧ dp ≤ (k : Int) ∧ (k : Int) < dp + n) := fun z => hq ⟨z.1, by omega, by omega⟩
        rw [if_neg hq, if_neg hq2]
    rw [e]
    exact kk
end ARR
