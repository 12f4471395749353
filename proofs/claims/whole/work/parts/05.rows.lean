/-! ===== rows of the judgement: locals, stack, numbers, branches ===== -/
theorem I_add (a b : Int) : I a + I b = I (a + b) := (Int32.ofInt_add a b).symm
theorem I_sub (a b : Int) : I a - I b = I (a - b) := (Int32.ofInt_sub a b).symm
theorem I_mul (a b : Int) : I a * I b = I (a * b) := (Int32.ofInt_mul a b).symm
theorem I_neg (a : Int) : - I a = I (-a) := (Int32.ofInt_neg a).symm
theorem I_of (x : Int32) : I x.toInt = x := Int32.ofInt_toInt x
theorem I_toInt {a : Int} (h : -2147483648 ≤ a ∧ a < 2147483648) : (I a).toInt = a := Int32.toInt_ofInt_of_le (by omega) (by omega)
theorem I_lt {a b : Int} (h : -2147483648 ≤ a ∧ a < 2147483648 ∧ -2147483648 ≤ b ∧ b < 2147483648) : I a < I b ↔ a < b := by rw [Int32.lt_iff_toInt_lt, I_toInt (by omega), I_toInt (by omega)]
theorem I_le {a b : Int} (h : -2147483648 ≤ a ∧ a < 2147483648 ∧ -2147483648 ≤ b ∧ b < 2147483648) : I a ≤ I b ↔ a ≤ b := by rw [Int32.le_iff_toInt_le, I_toInt (by omega), I_toInt (by omega)]
theorem I_eq {a b : Int} (h : -2147483648 ≤ a ∧ a < 2147483648 ∧ -2147483648 ≤ b ∧ b < 2147483648) : I a = I b ↔ a = b := by
  constructor
  · intro e
    rw [← I_toInt (a := a) (by omega), ← I_toInt (a := b) (by omega), e]
  · intro e
    rw [e]
theorem I_0 : (0 : Int32) = I 0 := rfl
theorem I_clamp {a : Int} (h : 0 ≤ a ∧ a < 2147483648) : (I a).toNatClampNeg = a.toNat := by
  show (I a).toInt.toNat = a.toNat
  rw [I_toInt (by omega)]
theorem I_nI (n : Nat) : nI n = I n := Int32.ofInt_eq_ofNat.symm
theorem bI_0 (b : Bool) : I (bI b) = 0 ↔ b = false := by cases b <;> decide
theorem bI_rg (b : Bool) : 0 ≤ bI b ∧ bI b ≤ 1 := by cases b <;> decide
theorem bI_t : bI true = 1 := rfl
theorem bI_f : bI false = 0 := rfl
section ROWS
variable {Γ : Ct} {cc : ByteArray} {own : String} {nL : Nat} {ret : Option FieldType} {P : Pq} {d mc ms : Nat} {V : Ob → Prop} {ad : Ob → Nat} {ν : Mv} {cs sl pc : Nat} {L : List (Nat × Value)} {st : List Value}
theorem x_sub {L' : List (Nat × Value)} (h : SubL L L') (k : XX Γ nL V ad ν cs sl pc L' st) : XX Γ nL V ad ν cs sl pc L st := by
  obtain ⟨p, l, e, R, s, m, args, below, meth, c, A, Q, E⟩ := Γ
  intro H locs ls hW hV hS hl
  exact k H locs ls hW hV hS (subL_ok hl L' h)
theorem x_st {st' : List Value} (h : st = st') (k : XX Γ nL V ad ν cs sl pc L st') : XX Γ nL V ad ν cs sl pc L st := h ▸ k
theorem x_wid {cs' sl' : Nat} (h1 : cs ≤ cs') (h2 : sl ≤ sl') (k : XX Γ nL V ad ν cs' sl' pc L st) : XX Γ nL V ad ν cs sl pc L st := by
  obtain ⟨p, l, e, R, s, m, args, below, meth, c, A, Q, E⟩ := Γ
  intro H locs ls hW hV hS hl
  exact W.widen h1 h2 (k H locs ls hW hV hS hl)
theorem x_iconst {n : Int} (F : Fx Γ cc own nL ret P d mc ms) (dd : decode cc pc = .ok (.iconst n, 1)) (k : XX Γ nL V ad ν cs sl (pc + 1) L (.int (I n) :: st)) : XX Γ nL V ad ν cs sl pc L st := by
  obtain ⟨p, l, e, R, s, m, args, below, meth, c, A, Q, E⟩ := Γ
  obtain ⟨hx, hb, hml, hown, hts, hlk, hr, hK, hA0, hR, hQ, hzz⟩ := F
  intro H locs ls hW hV hS hl
  exact lv_iconst hx hb dd rfl (k H locs ls hW hV hS hl)
theorem x_bipush {n : Int} (F : Fx Γ cc own nL ret P d mc ms) (dd : decode cc pc = .ok (.bipush n, 2)) (hn : (Int8.ofInt n).toInt32 = I n) (k : XX Γ nL V ad ν cs sl (pc + 2) L (.int (I n) :: st)) : XX Γ nL V ad ν cs sl pc L st := by
  obtain ⟨p, l, e, R, s, m, args, below, meth, c, A, Q, E⟩ := Γ
  obtain ⟨hx, hb, hml, hown, hts, hlk, hr, hK, hA0, hR, hQ, hzz⟩ := F
  intro H locs ls hW hV hS hl
  exact lv_bipush hx hb dd hn (k H locs ls hW hV hS hl)
theorem x_sipush {n : Int} (F : Fx Γ cc own nL ret P d mc ms) (dd : decode cc pc = .ok (.sipush n, 3)) (hn : (Int16.ofInt n).toInt32 = I n) (k : XX Γ nL V ad ν cs sl (pc + 3) L (.int (I n) :: st)) : XX Γ nL V ad ν cs sl pc L st := by
  obtain ⟨p, l, e, R, s, m, args, below, meth, c, A, Q, E⟩ := Γ
  obtain ⟨hx, hb, hml, hown, hts, hlk, hr, hK, hA0, hR, hQ, hzz⟩ := F
  intro H locs ls hW hV hS hl
  exact lv_sipush hx hb dd hn (k H locs ls hW hV hS hl)
theorem x_lconst {n : Fin 2} {z : Int} (F : Fx Γ cc own nL ret P d mc ms) (dd : decode cc pc = .ok (.lconst n, 1)) (hn : Int64.ofNat (n : Nat) = J z) (k : XX Γ nL V ad ν cs sl (pc + 1) L (.long (J z) :: st)) : XX Γ nL V ad ν cs sl pc L st := by
  obtain ⟨p, l, e, R, s, m, args, below, meth, c, A, Q, E⟩ := Γ
  obtain ⟨hx, hb, hml, hown, hts, hlk, hr, hK, hA0, hR, hQ, hzz⟩ := F
  intro H locs ls hW hV hS hl
  exact lv_lconst hx hb dd hn (k H locs ls hW hV hS hl)
theorem x_ldc {i : Nat} {v : Int32} {z : Int} (F : Fx Γ cc own nL ret P d mc ms) (dd : decode cc pc = .ok (.ldc i, 2)) (hw : Cond.constant own i v ∈ wA) (hv : v = I z) (k : XX Γ nL V ad ν cs sl (pc + 2) L (.int (I z) :: st)) : XX Γ nL V ad ν cs sl pc L st := by
  obtain ⟨p, l, e, R, s, m, args, below, meth, c, A, Q, E⟩ := Γ
  obtain ⟨hx, hb, hml, hown, hts, hlk, hr, hK, hA0, hR, hQ, hzz⟩ := F
  intro H locs ls hW hV hS hl
  subst hv
  exact lv_ldc hx hb hown (hts _ hw) dd (k H locs ls hW hV hS hl)
theorem x_ldcw {i : Nat} {v : Int32} {z : Int} (F : Fx Γ cc own nL ret P d mc ms) (dd : decode cc pc = .ok (.ldc_w i, 3)) (hw : Cond.constant own i v ∈ wA) (hv : v = I z) (k : XX Γ nL V ad ν cs sl (pc + 3) L (.int (I z) :: st)) : XX Γ nL V ad ν cs sl pc L st := by
  obtain ⟨p, l, e, R, s, m, args, below, meth, c, A, Q, E⟩ := Γ
  obtain ⟨hx, hb, hml, hown, hts, hlk, hr, hK, hA0, hR, hQ, hzz⟩ := F
  intro H locs ls hW hV hS hl
  subst hv
  exact lv_ldcw hx hb hown (hts _ hw) dd (k H locs ls hW hV hS hl)
theorem r_ldcw {i : Nat} {v : Int32} (F : Fx Γ cc own nL ret P d mc ms) (dd : decode cc pc = .ok (.ldc_w i, 3)) (hw : Cond.constant own i v ∈ wA) (k : XX Γ nL V ad ν cs sl (pc + 3) L (.int v :: st)) : XX Γ nL V ad ν cs sl pc L st := by
  obtain ⟨p, l, e, R, s, m, args, below, meth, c, A, Q, E⟩ := Γ
  obtain ⟨hx, hb, hml, hown, hts, hlk, hr, hK, hA0, hR, hQ, hzz⟩ := F
  intro H locs ls hW hV hS hl
  exact lv_ldcw hx hb hown (hts _ hw) dd (k H locs ls hW hV hS hl)
theorem x_ldc2 {i : Nat} {v : Int64} {z : Int} (F : Fx Γ cc own nL ret P d mc ms) (dd : decode cc pc = .ok (.ldc2_w i, 3)) (hw : Cond.constantLong own i v ∈ wA) (hv : v = J z) (k : XX Γ nL V ad ν cs sl (pc + 3) L (.long (J z) :: st)) : XX Γ nL V ad ν cs sl pc L st := by
  obtain ⟨p, l, e, R, s, m, args, below, meth, c, A, Q, E⟩ := Γ
  obtain ⟨hx, hb, hml, hown, hts, hlk, hr, hK, hA0, hR, hQ, hzz⟩ := F
  intro H locs ls hW hV hS hl
  subst hv
  exact lv_ldc2 hx hb hown (hts _ hw) dd (k H locs ls hW hV hS hl)
theorem x_iload_n {k0 : Fin 4} {i : Nat} {x : Int32} (F : Fx Γ cc own nL ret P d mc ms) (dd : decode cc pc = .ok (.iload_n k0, 1)) (hi : (k0 : Nat) = i) (hk : lkp L i = some (.int x)) (k : XX Γ nL V ad ν cs sl (pc + 1) L (.int x :: st)) : XX Γ nL V ad ν cs sl pc L st := by
  obtain ⟨p, l, e, R, s, m, args, below, meth, c, A, Q, E⟩ := Γ
  obtain ⟨hx, hb, hml, hown, hts, hlk, hr, hK, hA0, hR, hQ, hzz⟩ := F
  intro H locs ls hW hV hS hl
  exact lv_iload_n hx hb dd hi (lkp_ok hl hk) (k H locs ls hW hV hS hl)
theorem x_iload {i : Nat} {x : Int32} (F : Fx Γ cc own nL ret P d mc ms) (dd : decode cc pc = .ok (.iload i, 2)) (hk : lkp L i = some (.int x)) (k : XX Γ nL V ad ν cs sl (pc + 2) L (.int x :: st)) : XX Γ nL V ad ν cs sl pc L st := by
  obtain ⟨p, l, e, R, s, m, args, below, meth, c, A, Q, E⟩ := Γ
  obtain ⟨hx, hb, hml, hown, hts, hlk, hr, hK, hA0, hR, hQ, hzz⟩ := F
  intro H locs ls hW hV hS hl
  exact lv_iload hx hb dd (lkp_ok hl hk) (k H locs ls hW hV hS hl)
theorem x_aload_n {k0 : Fin 4} {i : Nat} {x : Nat} (F : Fx Γ cc own nL ret P d mc ms) (dd : decode cc pc = .ok (.aload_n k0, 1)) (hi : (k0 : Nat) = i) (hk : lkp L i = some (.ref x)) (k : XX Γ nL V ad ν cs sl (pc + 1) L (.ref x :: st)) : XX Γ nL V ad ν cs sl pc L st := by
  obtain ⟨p, l, e, R, s, m, args, below, meth, c, A, Q, E⟩ := Γ
  obtain ⟨hx, hb, hml, hown, hts, hlk, hr, hK, hA0, hR, hQ, hzz⟩ := F
  intro H locs ls hW hV hS hl
  exact lv_aload_n hx hb dd hi (lkp_ok hl hk) (k H locs ls hW hV hS hl)
theorem x_aload {i : Nat} {x : Nat} (F : Fx Γ cc own nL ret P d mc ms) (dd : decode cc pc = .ok (.aload i, 2)) (hk : lkp L i = some (.ref x)) (k : XX Γ nL V ad ν cs sl (pc + 2) L (.ref x :: st)) : XX Γ nL V ad ν cs sl pc L st := by
  obtain ⟨p, l, e, R, s, m, args, below, meth, c, A, Q, E⟩ := Γ
  obtain ⟨hx, hb, hml, hown, hts, hlk, hr, hK, hA0, hR, hQ, hzz⟩ := F
  intro H locs ls hW hV hS hl
  exact lv_aload hx hb dd (lkp_ok hl hk) (k H locs ls hW hV hS hl)
theorem x_lload_n {k0 : Fin 4} {i : Nat} {x : Int64} (F : Fx Γ cc own nL ret P d mc ms) (dd : decode cc pc = .ok (.lload_n k0, 1)) (hi : (k0 : Nat) = i) (hk : lkp L i = some (.long x)) (k : XX Γ nL V ad ν cs sl (pc + 1) L (.long x :: st)) : XX Γ nL V ad ν cs sl pc L st := by
  obtain ⟨p, l, e, R, s, m, args, below, meth, c, A, Q, E⟩ := Γ
  obtain ⟨hx, hb, hml, hown, hts, hlk, hr, hK, hA0, hR, hQ, hzz⟩ := F
  intro H locs ls hW hV hS hl
  exact lv_lload_n hx hb dd hi (lkp_ok hl hk) (k H locs ls hW hV hS hl)
theorem x_lload {i : Nat} {x : Int64} (F : Fx Γ cc own nL ret P d mc ms) (dd : decode cc pc = .ok (.lload i, 2)) (hk : lkp L i = some (.long x)) (k : XX Γ nL V ad ν cs sl (pc + 2) L (.long x :: st)) : XX Γ nL V ad ν cs sl pc L st := by
  obtain ⟨p, l, e, R, s, m, args, below, meth, c, A, Q, E⟩ := Γ
  obtain ⟨hx, hb, hml, hown, hts, hlk, hr, hK, hA0, hR, hQ, hzz⟩ := F
  intro H locs ls hW hV hS hl
  exact lv_lload hx hb dd (lkp_ok hl hk) (k H locs ls hW hV hS hl)
theorem x_istore_n {k0 : Fin 4} {i : Nat} {x : Int32} (F : Fx Γ cc own nL ret P d mc ms) (dd : decode cc pc = .ok (.istore_n k0, 1)) (hi : (k0 : Nat) = i) (hn : Nat.ble (i + 1) nL = true) (k : XX Γ nL V ad ν cs sl (pc + 1) ((i, Value.int x) :: er1 i L) st) : XX Γ nL V ad ν cs sl pc L (.int x :: st) := by
  obtain ⟨p, l, e, R, s, m, args, below, meth, c, A, Q, E⟩ := Γ
  obtain ⟨hx, hb, hml, hown, hts, hlk, hr, hK, hA0, hR, hQ, hzz⟩ := F
  intro H locs ls hW hV hS hl
  exact lv_istore_n hx hb dd hi hl (Nat.le_of_ble_eq_true hn) (by rw [er1_eq]) (fun ls hl => k H locs ls hW hV hS hl)
theorem x_istore {i : Nat} {x : Int32} (F : Fx Γ cc own nL ret P d mc ms) (dd : decode cc pc = .ok (.istore i, 2)) (hn : Nat.ble (i + 1) nL = true) (k : XX Γ nL V ad ν cs sl (pc + 2) ((i, Value.int x) :: er1 i L) st) : XX Γ nL V ad ν cs sl pc L (.int x :: st) := by
  obtain ⟨p, l, e, R, s, m, args, below, meth, c, A, Q, E⟩ := Γ
  obtain ⟨hx, hb, hml, hown, hts, hlk, hr, hK, hA0, hR, hQ, hzz⟩ := F
  intro H locs ls hW hV hS hl
  exact lv_istore hx hb dd hl (Nat.le_of_ble_eq_true hn) (by rw [er1_eq]) (fun ls hl => k H locs ls hW hV hS hl)
theorem x_astore_n {k0 : Fin 4} {i : Nat} {x : Nat} (F : Fx Γ cc own nL ret P d mc ms) (dd : decode cc pc = .ok (.astore_n k0, 1)) (hi : (k0 : Nat) = i) (hn : Nat.ble (i + 1) nL = true) (k : XX Γ nL V ad ν cs sl (pc + 1) ((i, Value.ref x) :: er1 i L) st) : XX Γ nL V ad ν cs sl pc L (.ref x :: st) := by
  obtain ⟨p, l, e, R, s, m, args, below, meth, c, A, Q, E⟩ := Γ
  obtain ⟨hx, hb, hml, hown, hts, hlk, hr, hK, hA0, hR, hQ, hzz⟩ := F
  intro H locs ls hW hV hS hl
  exact lv_astore_n hx hb dd hi hl (Nat.le_of_ble_eq_true hn) (by rw [er1_eq]) (fun ls hl => k H locs ls hW hV hS hl)
theorem x_astore {i : Nat} {x : Nat} (F : Fx Γ cc own nL ret P d mc ms) (dd : decode cc pc = .ok (.astore i, 2)) (hn : Nat.ble (i + 1) nL = true) (k : XX Γ nL V ad ν cs sl (pc + 2) ((i, Value.ref x) :: er1 i L) st) : XX Γ nL V ad ν cs sl pc L (.ref x :: st) := by
  obtain ⟨p, l, e, R, s, m, args, below, meth, c, A, Q, E⟩ := Γ
  obtain ⟨hx, hb, hml, hown, hts, hlk, hr, hK, hA0, hR, hQ, hzz⟩ := F
  intro H locs ls hW hV hS hl
  exact lv_astore hx hb dd hl (Nat.le_of_ble_eq_true hn) (by rw [er1_eq]) (fun ls hl => k H locs ls hW hV hS hl)
theorem x_lstore {i : Nat} {x : Int64} (F : Fx Γ cc own nL ret P d mc ms) (dd : decode cc pc = .ok (.lstore i, 2)) (hn : Nat.ble (i + 2) nL = true) (k : XX Γ nL V ad ν cs sl (pc + 2) ((i, Value.long x) :: er2 i L) st) : XX Γ nL V ad ν cs sl pc L (.long x :: st) := by
  obtain ⟨p, l, e, R, s, m, args, below, meth, c, A, Q, E⟩ := Γ
  obtain ⟨hx, hb, hml, hown, hts, hlk, hr, hK, hA0, hR, hQ, hzz⟩ := F
  intro H locs ls hW hV hS hl
  exact lv_lstore hx hb dd hl (Nat.le_of_ble_eq_true hn) (by rw [er2_eq]) (fun ls hl => k H locs ls hW hV hS hl)
theorem x_iinc {i : Nat} {n a : Int} (F : Fx Γ cc own nL ret P d mc ms) (dd : decode cc pc = .ok (.iinc i n, 3)) (hk : lkp L i = some (.int (I a))) (hn : Nat.ble (i + 1) nL = true) (k : XX Γ nL V ad ν cs sl (pc + 3) ((i, Value.int (I (a + n))) :: er1 i L) st) : XX Γ nL V ad ν cs sl pc L st := by
  obtain ⟨p, l, e, R, s, m, args, below, meth, c, A, Q, E⟩ := Γ
  obtain ⟨hx, hb, hml, hown, hts, hlk, hr, hK, hA0, hR, hQ, hzz⟩ := F
  intro H locs ls hW hV hS hl
  have hl2 : lv_has ls nL [(i, .int (I a))] := subL_ok hl _ ⟨hk, trivial⟩
  have hj : lv_has ls nL ((i, Value.int (I a)) :: L) := ⟨hl.1, hl.2.1, fun q hq => by
    rcases List.mem_cons.mp hq with rfl | hq
    · exact hl2.2.2 _ List.mem_cons_self
    · exact hl.2.2 q hq⟩
  refine lv_iinc (k := 0) (v := I (a + n)) hx hb dd hj rfl (I_add a n) (Nat.le_of_ble_eq_true hn) rfl (fun ls hl => ?_)
  refine k H locs ls hW hV hS ?_
  rw [← er1_eq]
  refine ⟨hl.1, hl.2.1, fun q hq => hl.2.2 q ?_⟩
  rcases List.mem_cons.mp hq with rfl | hq
  · exact List.mem_cons_self
  · refine List.mem_cons_of_mem _ ?_
    rw [List.mem_filter] at hq ⊢
    exact ⟨List.mem_cons_of_mem _ hq.1, hq.2⟩
theorem x_iadd {a b : Int} (F : Fx Γ cc own nL ret P d mc ms) (dd : decode cc pc = .ok (.iadd, 1)) (k : XX Γ nL V ad ν cs sl (pc + 1) L (.int (I (a + b)) :: st)) : XX Γ nL V ad ν cs sl pc L (.int (I b) :: .int (I a) :: st) := by
  obtain ⟨p, l, e, R, s, m, args, below, meth, c, A, Q, E⟩ := Γ
  obtain ⟨hx, hb, hml, hown, hts, hlk, hr, hK, hA0, hR, hQ, hzz⟩ := F
  intro H locs ls hW hV hS hl
  refine lv_iadd hx hb dd  ?_
  rw [I_add]
  exact k H locs ls hW hV hS hl
theorem x_isub {a b : Int} (F : Fx Γ cc own nL ret P d mc ms) (dd : decode cc pc = .ok (.isub, 1)) (k : XX Γ nL V ad ν cs sl (pc + 1) L (.int (I (a - b)) :: st)) : XX Γ nL V ad ν cs sl pc L (.int (I b) :: .int (I a) :: st) := by
  obtain ⟨p, l, e, R, s, m, args, below, meth, c, A, Q, E⟩ := Γ
  obtain ⟨hx, hb, hml, hown, hts, hlk, hr, hK, hA0, hR, hQ, hzz⟩ := F
  intro H locs ls hW hV hS hl
  refine lv_isub hx hb dd  ?_
  rw [I_sub]
  exact k H locs ls hW hV hS hl
theorem x_imul {a b : Int} (F : Fx Γ cc own nL ret P d mc ms) (dd : decode cc pc = .ok (.imul, 1)) (k : XX Γ nL V ad ν cs sl (pc + 1) L (.int (I (a * b)) :: st)) : XX Γ nL V ad ν cs sl pc L (.int (I b) :: .int (I a) :: st) := by
  obtain ⟨p, l, e, R, s, m, args, below, meth, c, A, Q, E⟩ := Γ
  obtain ⟨hx, hb, hml, hown, hts, hlk, hr, hK, hA0, hR, hQ, hzz⟩ := F
  intro H locs ls hW hV hS hl
  refine lv_imul hx hb dd  ?_
  rw [I_mul]
  exact k H locs ls hW hV hS hl
theorem x_ineg {a : Int} (F : Fx Γ cc own nL ret P d mc ms) (dd : decode cc pc = .ok (.ineg, 1)) (k : XX Γ nL V ad ν cs sl (pc + 1) L (.int (I (-a)) :: st)) : XX Γ nL V ad ν cs sl pc L (.int (I a) :: st) := by
  obtain ⟨p, l, e, R, s, m, args, below, meth, c, A, Q, E⟩ := Γ
  obtain ⟨hx, hb, hml, hown, hts, hlk, hr, hK, hA0, hR, hQ, hzz⟩ := F
  intro H locs ls hW hV hS hl
  refine lv_ineg hx hb dd  ?_
  rw [I_neg]
  exact k H locs ls hW hV hS hl
theorem r_iadd {x y z : Int32} (F : Fx Γ cc own nL ret P d mc ms) (dd : decode cc pc = .ok (.iadd, 1)) (hz : x + y = z) (k : XX Γ nL V ad ν cs sl (pc + 1) L (.int z :: st)) : XX Γ nL V ad ν cs sl pc L (.int y :: .int x :: st) := by
  obtain ⟨p, l, e, R, s, m, args, below, meth, c, A, Q, E⟩ := Γ
  obtain ⟨hx, hb, hml, hown, hts, hlk, hr, hK, hA0, hR, hQ, hzz⟩ := F
  intro H locs ls hW hV hS hl
  refine lv_iadd hx hb dd  ?_
  rw [hz]
  exact k H locs ls hW hV hS hl
theorem r_isub {x y z : Int32} (F : Fx Γ cc own nL ret P d mc ms) (dd : decode cc pc = .ok (.isub, 1)) (hz : x - y = z) (k : XX Γ nL V ad ν cs sl (pc + 1) L (.int z :: st)) : XX Γ nL V ad ν cs sl pc L (.int y :: .int x :: st) := by
  obtain ⟨p, l, e, R, s, m, args, below, meth, c, A, Q, E⟩ := Γ
  obtain ⟨hx, hb, hml, hown, hts, hlk, hr, hK, hA0, hR, hQ, hzz⟩ := F
  intro H locs ls hW hV hS hl
  refine lv_isub hx hb dd  ?_
  rw [hz]
  exact k H locs ls hW hV hS hl
theorem r_ixor {x y z : Int32} (F : Fx Γ cc own nL ret P d mc ms) (dd : decode cc pc = .ok (.ixor, 1)) (hz : x ^^^ y = z) (k : XX Γ nL V ad ν cs sl (pc + 1) L (.int z :: st)) : XX Γ nL V ad ν cs sl pc L (.int y :: .int x :: st) := by
  obtain ⟨p, l, e, R, s, m, args, below, meth, c, A, Q, E⟩ := Γ
  obtain ⟨hx, hb, hml, hown, hts, hlk, hr, hK, hA0, hR, hQ, hzz⟩ := F
  intro H locs ls hW hV hS hl
  refine lv_ixor hx hb dd  ?_
  rw [hz]
  exact k H locs ls hW hV hS hl
theorem r_iand {x y z : Int32} (F : Fx Γ cc own nL ret P d mc ms) (dd : decode cc pc = .ok (.iand, 1)) (hz : x &&& y = z) (k : XX Γ nL V ad ν cs sl (pc + 1) L (.int z :: st)) : XX Γ nL V ad ν cs sl pc L (.int y :: .int x :: st) := by
  obtain ⟨p, l, e, R, s, m, args, below, meth, c, A, Q, E⟩ := Γ
  obtain ⟨hx, hb, hml, hown, hts, hlk, hr, hK, hA0, hR, hQ, hzz⟩ := F
  intro H locs ls hW hV hS hl
  refine lv_iand hx hb dd  ?_
  rw [hz]
  exact k H locs ls hW hV hS hl
theorem r_ior {x y z : Int32} (F : Fx Γ cc own nL ret P d mc ms) (dd : decode cc pc = .ok (.ior, 1)) (hz : x ||| y = z) (k : XX Γ nL V ad ν cs sl (pc + 1) L (.int z :: st)) : XX Γ nL V ad ν cs sl pc L (.int y :: .int x :: st) := by
  obtain ⟨p, l, e, R, s, m, args, below, meth, c, A, Q, E⟩ := Γ
  obtain ⟨hx, hb, hml, hown, hts, hlk, hr, hK, hA0, hR, hQ, hzz⟩ := F
  intro H locs ls hW hV hS hl
  refine lv_ior hx hb dd  ?_
  rw [hz]
  exact k H locs ls hW hV hS hl
theorem r_ishl {x y z : Int32} (F : Fx Γ cc own nL ret P d mc ms) (dd : decode cc pc = .ok (.ishl, 1)) (hz : x <<< (y &&& 31) = z) (k : XX Γ nL V ad ν cs sl (pc + 1) L (.int z :: st)) : XX Γ nL V ad ν cs sl pc L (.int y :: .int x :: st) := by
  obtain ⟨p, l, e, R, s, m, args, below, meth, c, A, Q, E⟩ := Γ
  obtain ⟨hx, hb, hml, hown, hts, hlk, hr, hK, hA0, hR, hQ, hzz⟩ := F
  intro H locs ls hW hV hS hl
  refine lv_ishl hx hb dd  ?_
  rw [hz]
  exact k H locs ls hW hV hS hl
theorem r_ishr {x y z : Int32} (F : Fx Γ cc own nL ret P d mc ms) (dd : decode cc pc = .ok (.ishr, 1)) (hz : x >>> (y &&& 31) = z) (k : XX Γ nL V ad ν cs sl (pc + 1) L (.int z :: st)) : XX Γ nL V ad ν cs sl pc L (.int y :: .int x :: st) := by
  obtain ⟨p, l, e, R, s, m, args, below, meth, c, A, Q, E⟩ := Γ
  obtain ⟨hx, hb, hml, hown, hts, hlk, hr, hK, hA0, hR, hQ, hzz⟩ := F
  intro H locs ls hW hV hS hl
  refine lv_ishr hx hb dd  ?_
  rw [hz]
  exact k H locs ls hW hV hS hl
theorem r_iushr {x y z : Int32} (F : Fx Γ cc own nL ret P d mc ms) (dd : decode cc pc = .ok (.iushr, 1)) (hv : (x.toUInt32 >>> (y.toUInt32 &&& Int32.toUInt32 31)).toInt32 = z) (k : XX Γ nL V ad ν cs sl (pc + 1) L (.int z :: st)) : XX Γ nL V ad ν cs sl pc L (.int y :: .int x :: st) := by
  obtain ⟨p, l, e, R, s, m, args, below, meth, c, A, Q, E⟩ := Γ
  obtain ⟨hx, hb, hml, hown, hts, hlk, hr, hK, hA0, hR, hQ, hzz⟩ := F
  intro H locs ls hW hV hS hl
  exact lv_iushr hx hb dd hv (k H locs ls hW hV hS hl)
theorem r_idiv {x y z : Int32} (F : Fx Γ cc own nL ret P d mc ms) (dd : decode cc pc = .ok (.idiv, 1)) (hne : ¬ y = 0) (hz : x / y = z) (k : XX Γ nL V ad ν cs sl (pc + 1) L (.int z :: st)) : XX Γ nL V ad ν cs sl pc L (.int y :: .int x :: st) := by
  obtain ⟨p, l, e, R, s, m, args, below, meth, c, A, Q, E⟩ := Γ
  obtain ⟨hx, hb, hml, hown, hts, hlk, hr, hK, hA0, hR, hQ, hzz⟩ := F
  intro H locs ls hW hV hS hl
  subst hz
  exact lv_idiv hx hb dd hne (k H locs ls hW hV hS hl)
theorem r_irem {x y z : Int32} (F : Fx Γ cc own nL ret P d mc ms) (dd : decode cc pc = .ok (.irem, 1)) (hne : ¬ y = 0) (hz : x - x / y * y = z) (k : XX Γ nL V ad ν cs sl (pc + 1) L (.int z :: st)) : XX Γ nL V ad ν cs sl pc L (.int y :: .int x :: st) := by
  obtain ⟨p, l, e, R, s, m, args, below, meth, c, A, Q, E⟩ := Γ
  obtain ⟨hx, hb, hml, hown, hts, hlk, hr, hK, hA0, hR, hQ, hzz⟩ := F
  intro H locs ls hW hV hS hl
  subst hz
  exact lv_irem hx hb dd hne (k H locs ls hW hV hS hl)
theorem r_i2l {x : Int32} {z : Int64} (F : Fx Γ cc own nL ret P d mc ms) (dd : decode cc pc = .ok (.i2l, 1)) (hz : x.toInt64 = z) (k : XX Γ nL V ad ν cs sl (pc + 1) L (.long z :: st)) : XX Γ nL V ad ν cs sl pc L (.int x :: st) := by
  obtain ⟨p, l, e, R, s, m, args, below, meth, c, A, Q, E⟩ := Γ
  obtain ⟨hx, hb, hml, hown, hts, hlk, hr, hK, hA0, hR, hQ, hzz⟩ := F
  intro H locs ls hW hV hS hl
  exact lv_i2l hx hb dd hz (k H locs ls hW hV hS hl)
theorem r_l2i {x : Int64} {z : Int32} (F : Fx Γ cc own nL ret P d mc ms) (dd : decode cc pc = .ok (.l2i, 1)) (hz : x.toInt32 = z) (k : XX Γ nL V ad ν cs sl (pc + 1) L (.int z :: st)) : XX Γ nL V ad ν cs sl pc L (.long x :: st) := by
  obtain ⟨p, l, e, R, s, m, args, below, meth, c, A, Q, E⟩ := Γ
  obtain ⟨hx, hb, hml, hown, hts, hlk, hr, hK, hA0, hR, hQ, hzz⟩ := F
  intro H locs ls hW hV hS hl
  exact lv_l2i hx hb dd hz (k H locs ls hW hV hS hl)
theorem r_i2b {x : Int32} {z : Int32} (F : Fx Γ cc own nL ret P d mc ms) (dd : decode cc pc = .ok (.i2b, 1)) (hz : x.toInt8.toInt32 = z) (k : XX Γ nL V ad ν cs sl (pc + 1) L (.int z :: st)) : XX Γ nL V ad ν cs sl pc L (.int x :: st) := by
  obtain ⟨p, l, e, R, s, m, args, below, meth, c, A, Q, E⟩ := Γ
  obtain ⟨hx, hb, hml, hown, hts, hlk, hr, hK, hA0, hR, hQ, hzz⟩ := F
  intro H locs ls hW hV hS hl
  exact lv_i2b hx hb dd hz (k H locs ls hW hV hS hl)
theorem r_i2s {x : Int32} {z : Int32} (F : Fx Γ cc own nL ret P d mc ms) (dd : decode cc pc = .ok (.i2s, 1)) (hz : x.toInt16.toInt32 = z) (k : XX Γ nL V ad ν cs sl (pc + 1) L (.int z :: st)) : XX Γ nL V ad ν cs sl pc L (.int x :: st) := by
  obtain ⟨p, l, e, R, s, m, args, below, meth, c, A, Q, E⟩ := Γ
  obtain ⟨hx, hb, hml, hown, hts, hlk, hr, hK, hA0, hR, hQ, hzz⟩ := F
  intro H locs ls hW hV hS hl
  exact lv_i2s hx hb dd hz (k H locs ls hW hV hS hl)
theorem r_i2c {x : Int32} {z : Int32} (F : Fx Γ cc own nL ret P d mc ms) (dd : decode cc pc = .ok (.i2c, 1)) (hz : (x.toUInt32 % 65536).toInt32 = z) (k : XX Γ nL V ad ν cs sl (pc + 1) L (.int z :: st)) : XX Γ nL V ad ν cs sl pc L (.int x :: st) := by
  obtain ⟨p, l, e, R, s, m, args, below, meth, c, A, Q, E⟩ := Γ
  obtain ⟨hx, hb, hml, hown, hts, hlk, hr, hK, hA0, hR, hQ, hzz⟩ := F
  intro H locs ls hW hV hS hl
  exact lv_i2c hx hb dd hz (k H locs ls hW hV hS hl)
theorem x_i2l {a : Int} (F : Fx Γ cc own nL ret P d mc ms) (dd : decode cc pc = .ok (.i2l, 1)) (ha : -2147483648 ≤ a ∧ a < 2147483648) (k : XX Γ nL V ad ν cs sl (pc + 1) L (.long (J a) :: st)) : XX Γ nL V ad ν cs sl pc L (.int (I a) :: st) := by
  obtain ⟨p, l, e, R, s, m, args, below, meth, c, A, Q, E⟩ := Γ
  obtain ⟨hx, hb, hml, hown, hts, hlk, hr, hK, hA0, hR, hQ, hzz⟩ := F
  intro H locs ls hW hV hS hl
  refine lv_i2l (v := J a) hx hb dd ?_ (k H locs ls hW hV hS hl)
  rw [← Int64.ofInt_int32ToInt, I_toInt ha]
  rfl
theorem r_ladd {x y z : Int64} (F : Fx Γ cc own nL ret P d mc ms) (dd : decode cc pc = .ok (.ladd, 1)) (hz : x + y = z) (k : XX Γ nL V ad ν cs sl (pc + 1) L (.long z :: st)) : XX Γ nL V ad ν cs sl pc L (.long y :: .long x :: st) := by
  obtain ⟨p, l, e, R, s, m, args, below, meth, c, A, Q, E⟩ := Γ
  obtain ⟨hx, hb, hml, hown, hts, hlk, hr, hK, hA0, hR, hQ, hzz⟩ := F
  intro H locs ls hW hV hS hl
  refine lv_ladd hx hb dd  ?_
  rw [hz]
  exact k H locs ls hW hV hS hl
theorem r_land {x y z : Int64} (F : Fx Γ cc own nL ret P d mc ms) (dd : decode cc pc = .ok (.land, 1)) (hz : x &&& y = z) (k : XX Γ nL V ad ν cs sl (pc + 1) L (.long z :: st)) : XX Γ nL V ad ν cs sl pc L (.long y :: .long x :: st) := by
  obtain ⟨p, l, e, R, s, m, args, below, meth, c, A, Q, E⟩ := Γ
  obtain ⟨hx, hb, hml, hown, hts, hlk, hr, hK, hA0, hR, hQ, hzz⟩ := F
  intro H locs ls hW hV hS hl
  refine lv_land hx hb dd  ?_
  rw [hz]
  exact k H locs ls hW hV hS hl
theorem r_lor {x y z : Int64} (F : Fx Γ cc own nL ret P d mc ms) (dd : decode cc pc = .ok (.lor, 1)) (hz : x ||| y = z) (k : XX Γ nL V ad ν cs sl (pc + 1) L (.long z :: st)) : XX Γ nL V ad ν cs sl pc L (.long y :: .long x :: st) := by
  obtain ⟨p, l, e, R, s, m, args, below, meth, c, A, Q, E⟩ := Γ
  obtain ⟨hx, hb, hml, hown, hts, hlk, hr, hK, hA0, hR, hQ, hzz⟩ := F
  intro H locs ls hW hV hS hl
  refine lv_lor hx hb dd  ?_
  rw [hz]
  exact k H locs ls hW hV hS hl
theorem r_ldiv {x y z : Int64} (F : Fx Γ cc own nL ret P d mc ms) (dd : decode cc pc = .ok (.ldiv, 1)) (hne : ¬ y = 0) (hz : x / y = z) (k : XX Γ nL V ad ν cs sl (pc + 1) L (.long z :: st)) : XX Γ nL V ad ν cs sl pc L (.long y :: .long x :: st) := by
  obtain ⟨p, l, e, R, s, m, args, below, meth, c, A, Q, E⟩ := Γ
  obtain ⟨hx, hb, hml, hown, hts, hlk, hr, hK, hA0, hR, hQ, hzz⟩ := F
  intro H locs ls hW hV hS hl
  subst hz
  exact lv_ldiv hx hb dd hne (k H locs ls hW hV hS hl)
theorem r_lrem {x y z : Int64} (F : Fx Γ cc own nL ret P d mc ms) (dd : decode cc pc = .ok (.lrem, 1)) (hne : ¬ y = 0) (hz : x - x / y * y = z) (k : XX Γ nL V ad ν cs sl (pc + 1) L (.long z :: st)) : XX Γ nL V ad ν cs sl pc L (.long y :: .long x :: st) := by
  obtain ⟨p, l, e, R, s, m, args, below, meth, c, A, Q, E⟩ := Γ
  obtain ⟨hx, hb, hml, hown, hts, hlk, hr, hK, hA0, hR, hQ, hzz⟩ := F
  intro H locs ls hW hV hS hl
  subst hz
  exact lv_lrem hx hb dd hne (k H locs ls hW hV hS hl)
theorem r_lcmp {x y : Int64} (F : Fx Γ cc own nL ret P d mc ms) (dd : decode cc pc = .ok (.lcmp, 1)) (k : XX Γ nL V ad ν cs sl (pc + 1) L (.int (lg_cmp x y) :: st)) : XX Γ nL V ad ν cs sl pc L (.long y :: .long x :: st) := by
  obtain ⟨p, l, e, R, s, m, args, below, meth, c, A, Q, E⟩ := Γ
  obtain ⟨hx, hb, hml, hown, hts, hlk, hr, hK, hA0, hR, hQ, hzz⟩ := F
  intro H locs ls hW hV hS hl
  exact W.lcmp hx hb dd (k H locs ls hW hV hS hl)
theorem x_dup {v : Value} (F : Fx Γ cc own nL ret P d mc ms) (dd : decode cc pc = .ok (.dup, 1)) (hv : v.category = 1) (k : XX Γ nL V ad ν cs sl (pc + 1) L (v :: v :: st)) : XX Γ nL V ad ν cs sl pc L (v :: st) := by
  obtain ⟨p, l, e, R, s, m, args, below, meth, c, A, Q, E⟩ := Γ
  obtain ⟨hx, hb, hml, hown, hts, hlk, hr, hK, hA0, hR, hQ, hzz⟩ := F
  intro H locs ls hW hV hS hl
  exact lv_dup hx hb dd hv (k H locs ls hW hV hS hl)
theorem x_pop {v : Value} (F : Fx Γ cc own nL ret P d mc ms) (dd : decode cc pc = .ok (.pop, 1)) (hv : v.category = 1) (k : XX Γ nL V ad ν cs sl (pc + 1) L st) : XX Γ nL V ad ν cs sl pc L (v :: st) := by
  obtain ⟨p, l, e, R, s, m, args, below, meth, c, A, Q, E⟩ := Γ
  obtain ⟨hx, hb, hml, hown, hts, hlk, hr, hK, hA0, hR, hQ, hzz⟩ := F
  intro H locs ls hW hV hS hl
  exact lv_pop hx hb dd hv (k H locs ls hW hV hS hl)
theorem x_icmp_eq {a b off : Int} {tgt : Nat} (F : Fx Γ cc own nL ret P d mc ms) (dd : decode cc pc = .ok (.if_icmp .eq off, 3)) (ht : (pc : Int) + off = (tgt : Int)) (hg : -2147483648 ≤ a ∧ a < 2147483648 ∧ -2147483648 ≤ b ∧ b < 2147483648) (kt : a = b → XX Γ nL V ad ν cs sl tgt L st) (kf : ¬ a = b → XX Γ nL V ad ν cs sl (pc + 3) L st) : XX Γ nL V ad ν cs sl pc L (.int (I b) :: .int (I a) :: st) := by
  obtain ⟨p, l, e, R, s, m, args, below, meth, c, A, Q, E⟩ := Γ
  obtain ⟨hx, hb, hml, hown, hts, hlk, hr, hK, hA0, hR, hQ, hzz⟩ := F
  intro H locs ls hW hV hS hl
  refine lv_icmp_eq hx hb dd ht (fun hh => kt ?_ H locs ls hW hV hS hl) (fun hh => kf ?_ H locs ls hW hV hS hl)
  · rw [I_eq (by omega)] at hh
    exact hh
  · rw [I_eq (by omega)] at hh
    exact hh
theorem x_if_eq {a off : Int} {tgt : Nat} (F : Fx Γ cc own nL ret P d mc ms) (dd : decode cc pc = .ok (.ifCond .eq off, 3)) (ht : (pc : Int) + off = (tgt : Int)) (hg : -2147483648 ≤ a ∧ a < 2147483648) (kt : a = 0 → XX Γ nL V ad ν cs sl tgt L st) (kf : ¬ a = 0 → XX Γ nL V ad ν cs sl (pc + 3) L st) : XX Γ nL V ad ν cs sl pc L (.int (I a) :: st) := by
  obtain ⟨p, l, e, R, s, m, args, below, meth, c, A, Q, E⟩ := Γ
  obtain ⟨hx, hb, hml, hown, hts, hlk, hr, hK, hA0, hR, hQ, hzz⟩ := F
  intro H locs ls hW hV hS hl
  refine lv_if_eq hx hb dd ht (fun hh => kt ?_ H locs ls hW hV hS hl) (fun hh => kf ?_ H locs ls hW hV hS hl)
  · rw [I_0, I_eq (by omega)] at hh
    exact hh
  · rw [I_0, I_eq (by omega)] at hh
    exact hh
theorem x_icmp_ne {a b off : Int} {tgt : Nat} (F : Fx Γ cc own nL ret P d mc ms) (dd : decode cc pc = .ok (.if_icmp .ne off, 3)) (ht : (pc : Int) + off = (tgt : Int)) (hg : -2147483648 ≤ a ∧ a < 2147483648 ∧ -2147483648 ≤ b ∧ b < 2147483648) (kt : ¬ a = b → XX Γ nL V ad ν cs sl tgt L st) (kf : a = b → XX Γ nL V ad ν cs sl (pc + 3) L st) : XX Γ nL V ad ν cs sl pc L (.int (I b) :: .int (I a) :: st) := by
  obtain ⟨p, l, e, R, s, m, args, below, meth, c, A, Q, E⟩ := Γ
  obtain ⟨hx, hb, hml, hown, hts, hlk, hr, hK, hA0, hR, hQ, hzz⟩ := F
  intro H locs ls hW hV hS hl
  refine lv_icmp_ne hx hb dd ht (fun hh => kt ?_ H locs ls hW hV hS hl) (fun hh => kf ?_ H locs ls hW hV hS hl)
  · rw [I_eq (by omega)] at hh
    exact hh
  · rw [I_eq (by omega)] at hh
    exact hh
theorem x_if_ne {a off : Int} {tgt : Nat} (F : Fx Γ cc own nL ret P d mc ms) (dd : decode cc pc = .ok (.ifCond .ne off, 3)) (ht : (pc : Int) + off = (tgt : Int)) (hg : -2147483648 ≤ a ∧ a < 2147483648) (kt : ¬ a = 0 → XX Γ nL V ad ν cs sl tgt L st) (kf : a = 0 → XX Γ nL V ad ν cs sl (pc + 3) L st) : XX Γ nL V ad ν cs sl pc L (.int (I a) :: st) := by
  obtain ⟨p, l, e, R, s, m, args, below, meth, c, A, Q, E⟩ := Γ
  obtain ⟨hx, hb, hml, hown, hts, hlk, hr, hK, hA0, hR, hQ, hzz⟩ := F
  intro H locs ls hW hV hS hl
  refine lv_if_ne hx hb dd ht (fun hh => kt ?_ H locs ls hW hV hS hl) (fun hh => kf ?_ H locs ls hW hV hS hl)
  · rw [I_0, I_eq (by omega)] at hh
    exact hh
  · rw [I_0, I_eq (by omega)] at hh
    exact hh
theorem x_icmp_lt {a b off : Int} {tgt : Nat} (F : Fx Γ cc own nL ret P d mc ms) (dd : decode cc pc = .ok (.if_icmp .lt off, 3)) (ht : (pc : Int) + off = (tgt : Int)) (hg : -2147483648 ≤ a ∧ a < 2147483648 ∧ -2147483648 ≤ b ∧ b < 2147483648) (kt : a < b → XX Γ nL V ad ν cs sl tgt L st) (kf : ¬ a < b → XX Γ nL V ad ν cs sl (pc + 3) L st) : XX Γ nL V ad ν cs sl pc L (.int (I b) :: .int (I a) :: st) := by
  obtain ⟨p, l, e, R, s, m, args, below, meth, c, A, Q, E⟩ := Γ
  obtain ⟨hx, hb, hml, hown, hts, hlk, hr, hK, hA0, hR, hQ, hzz⟩ := F
  intro H locs ls hW hV hS hl
  refine lv_icmp_lt hx hb dd ht (fun hh => kt ?_ H locs ls hW hV hS hl) (fun hh => kf ?_ H locs ls hW hV hS hl)
  · rw [I_lt (by omega)] at hh
    exact hh
  · rw [I_lt (by omega)] at hh
    exact hh
theorem x_if_lt {a off : Int} {tgt : Nat} (F : Fx Γ cc own nL ret P d mc ms) (dd : decode cc pc = .ok (.ifCond .lt off, 3)) (ht : (pc : Int) + off = (tgt : Int)) (hg : -2147483648 ≤ a ∧ a < 2147483648) (kt : a < 0 → XX Γ nL V ad ν cs sl tgt L st) (kf : ¬ a < 0 → XX Γ nL V ad ν cs sl (pc + 3) L st) : XX Γ nL V ad ν cs sl pc L (.int (I a) :: st) := by
  obtain ⟨p, l, e, R, s, m, args, below, meth, c, A, Q, E⟩ := Γ
  obtain ⟨hx, hb, hml, hown, hts, hlk, hr, hK, hA0, hR, hQ, hzz⟩ := F
  intro H locs ls hW hV hS hl
  refine lv_if_lt hx hb dd ht (fun hh => kt ?_ H locs ls hW hV hS hl) (fun hh => kf ?_ H locs ls hW hV hS hl)
  · rw [I_0, I_lt (by omega)] at hh
    exact hh
  · rw [I_0, I_lt (by omega)] at hh
    exact hh
theorem x_icmp_ge {a b off : Int} {tgt : Nat} (F : Fx Γ cc own nL ret P d mc ms) (dd : decode cc pc = .ok (.if_icmp .ge off, 3)) (ht : (pc : Int) + off = (tgt : Int)) (hg : -2147483648 ≤ a ∧ a < 2147483648 ∧ -2147483648 ≤ b ∧ b < 2147483648) (kt : b ≤ a → XX Γ nL V ad ν cs sl tgt L st) (kf : ¬ b ≤ a → XX Γ nL V ad ν cs sl (pc + 3) L st) : XX Γ nL V ad ν cs sl pc L (.int (I b) :: .int (I a) :: st) := by
  obtain ⟨p, l, e, R, s, m, args, below, meth, c, A, Q, E⟩ := Γ
  obtain ⟨hx, hb, hml, hown, hts, hlk, hr, hK, hA0, hR, hQ, hzz⟩ := F
  intro H locs ls hW hV hS hl
  refine lv_icmp_ge hx hb dd ht (fun hh => kt ?_ H locs ls hW hV hS hl) (fun hh => kf ?_ H locs ls hW hV hS hl)
  · rw [I_le (by omega)] at hh
    exact hh
  · rw [I_le (by omega)] at hh
    exact hh
theorem x_if_ge {a off : Int} {tgt : Nat} (F : Fx Γ cc own nL ret P d mc ms) (dd : decode cc pc = .ok (.ifCond .ge off, 3)) (ht : (pc : Int) + off = (tgt : Int)) (hg : -2147483648 ≤ a ∧ a < 2147483648) (kt : 0 ≤ a → XX Γ nL V ad ν cs sl tgt L st) (kf : ¬ 0 ≤ a → XX Γ nL V ad ν cs sl (pc + 3) L st) : XX Γ nL V ad ν cs sl pc L (.int (I a) :: st) := by
  obtain ⟨p, l, e, R, s, m, args, below, meth, c, A, Q, E⟩ := Γ
  obtain ⟨hx, hb, hml, hown, hts, hlk, hr, hK, hA0, hR, hQ, hzz⟩ := F
  intro H locs ls hW hV hS hl
  refine lv_if_ge hx hb dd ht (fun hh => kt ?_ H locs ls hW hV hS hl) (fun hh => kf ?_ H locs ls hW hV hS hl)
  · rw [I_0, I_le (by omega)] at hh
    exact hh
  · rw [I_0, I_le (by omega)] at hh
    exact hh
theorem x_icmp_gt {a b off : Int} {tgt : Nat} (F : Fx Γ cc own nL ret P d mc ms) (dd : decode cc pc = .ok (.if_icmp .gt off, 3)) (ht : (pc : Int) + off = (tgt : Int)) (hg : -2147483648 ≤ a ∧ a < 2147483648 ∧ -2147483648 ≤ b ∧ b < 2147483648) (kt : b < a → XX Γ nL V ad ν cs sl tgt L st) (kf : ¬ b < a → XX Γ nL V ad ν cs sl (pc + 3) L st) : XX Γ nL V ad ν cs sl pc L (.int (I b) :: .int (I a) :: st) := by
  obtain ⟨p, l, e, R, s, m, args, below, meth, c, A, Q, E⟩ := Γ
  obtain ⟨hx, hb, hml, hown, hts, hlk, hr, hK, hA0, hR, hQ, hzz⟩ := F
  intro H locs ls hW hV hS hl
  refine lv_icmp_gt hx hb dd ht (fun hh => kt ?_ H locs ls hW hV hS hl) (fun hh => kf ?_ H locs ls hW hV hS hl)
  · rw [I_lt (by omega)] at hh
    exact hh
  · rw [I_lt (by omega)] at hh
    exact hh
theorem x_if_gt {a off : Int} {tgt : Nat} (F : Fx Γ cc own nL ret P d mc ms) (dd : decode cc pc = .ok (.ifCond .gt off, 3)) (ht : (pc : Int) + off = (tgt : Int)) (hg : -2147483648 ≤ a ∧ a < 2147483648) (kt : 0 < a → XX Γ nL V ad ν cs sl tgt L st) (kf : ¬ 0 < a → XX Γ nL V ad ν cs sl (pc + 3) L st) : XX Γ nL V ad ν cs sl pc L (.int (I a) :: st) := by
  obtain ⟨p, l, e, R, s, m, args, below, meth, c, A, Q, E⟩ := Γ
  obtain ⟨hx, hb, hml, hown, hts, hlk, hr, hK, hA0, hR, hQ, hzz⟩ := F
  intro H locs ls hW hV hS hl
  refine lv_if_gt hx hb dd ht (fun hh => kt ?_ H locs ls hW hV hS hl) (fun hh => kf ?_ H locs ls hW hV hS hl)
  · rw [I_0, I_lt (by omega)] at hh
    exact hh
  · rw [I_0, I_lt (by omega)] at hh
    exact hh
theorem x_icmp_le {a b off : Int} {tgt : Nat} (F : Fx Γ cc own nL ret P d mc ms) (dd : decode cc pc = .ok (.if_icmp .le off, 3)) (ht : (pc : Int) + off = (tgt : Int)) (hg : -2147483648 ≤ a ∧ a < 2147483648 ∧ -2147483648 ≤ b ∧ b < 2147483648) (kt : a ≤ b → XX Γ nL V ad ν cs sl tgt L st) (kf : ¬ a ≤ b → XX Γ nL V ad ν cs sl (pc + 3) L st) : XX Γ nL V ad ν cs sl pc L (.int (I b) :: .int (I a) :: st) := by
  obtain ⟨p, l, e, R, s, m, args, below, meth, c, A, Q, E⟩ := Γ
  obtain ⟨hx, hb, hml, hown, hts, hlk, hr, hK, hA0, hR, hQ, hzz⟩ := F
  intro H locs ls hW hV hS hl
  refine lv_icmp_le hx hb dd ht (fun hh => kt ?_ H locs ls hW hV hS hl) (fun hh => kf ?_ H locs ls hW hV hS hl)
  · rw [I_le (by omega)] at hh
    exact hh
  · rw [I_le (by omega)] at hh
    exact hh
theorem x_if_le {a off : Int} {tgt : Nat} (F : Fx Γ cc own nL ret P d mc ms) (dd : decode cc pc = .ok (.ifCond .le off, 3)) (ht : (pc : Int) + off = (tgt : Int)) (hg : -2147483648 ≤ a ∧ a < 2147483648) (kt : a ≤ 0 → XX Γ nL V ad ν cs sl tgt L st) (kf : ¬ a ≤ 0 → XX Γ nL V ad ν cs sl (pc + 3) L st) : XX Γ nL V ad ν cs sl pc L (.int (I a) :: st) := by
  obtain ⟨p, l, e, R, s, m, args, below, meth, c, A, Q, E⟩ := Γ
  obtain ⟨hx, hb, hml, hown, hts, hlk, hr, hK, hA0, hR, hQ, hzz⟩ := F
  intro H locs ls hW hV hS hl
  refine lv_if_le hx hb dd ht (fun hh => kt ?_ H locs ls hW hV hS hl) (fun hh => kf ?_ H locs ls hW hV hS hl)
  · rw [I_0, I_le (by omega)] at hh
    exact hh
  · rw [I_0, I_le (by omega)] at hh
    exact hh
theorem x_if_eqB {a : Bool} {off : Int} {tgt : Nat} (F : Fx Γ cc own nL ret P d mc ms) (dd : decode cc pc = .ok (.ifCond .eq off, 3)) (ht : (pc : Int) + off = (tgt : Int)) (kt : a = false → XX Γ nL V ad ν cs sl tgt L st) (kf : a = true → XX Γ nL V ad ν cs sl (pc + 3) L st) : XX Γ nL V ad ν cs sl pc L (.int (I (bI a)) :: st) := by
  obtain ⟨p, l, e, R, s, m, args, below, meth, c, A, Q, E⟩ := Γ
  obtain ⟨hx, hb, hml, hown, hts, hlk, hr, hK, hA0, hR, hQ, hzz⟩ := F
  intro H locs ls hW hV hS hl
  refine lv_if_eq hx hb dd ht (fun hh => kt ?_ H locs ls hW hV hS hl) (fun hh => kf ?_ H locs ls hW hV hS hl)
  · rw [bI_0] at hh
    simpa using hh
  · rw [bI_0] at hh
    simpa using hh
theorem x_if_neB {a : Bool} {off : Int} {tgt : Nat} (F : Fx Γ cc own nL ret P d mc ms) (dd : decode cc pc = .ok (.ifCond .ne off, 3)) (ht : (pc : Int) + off = (tgt : Int)) (kt : a = true → XX Γ nL V ad ν cs sl tgt L st) (kf : a = false → XX Γ nL V ad ν cs sl (pc + 3) L st) : XX Γ nL V ad ν cs sl pc L (.int (I (bI a)) :: st) := by
  obtain ⟨p, l, e, R, s, m, args, below, meth, c, A, Q, E⟩ := Γ
  obtain ⟨hx, hb, hml, hown, hts, hlk, hr, hK, hA0, hR, hQ, hzz⟩ := F
  intro H locs ls hW hV hS hl
  refine lv_if_ne hx hb dd ht (fun hh => kt ?_ H locs ls hW hV hS hl) (fun hh => kf ?_ H locs ls hW hV hS hl)
  · rw [bI_0] at hh
    simpa using hh
  · rw [bI_0] at hh
    simpa using hh
theorem x_goto {off : Int} {tgt : Nat} (F : Fx Γ cc own nL ret P d mc ms) (dd : decode cc pc = .ok (.goto off, 3)) (ht : (pc : Int) + off = (tgt : Int)) (k : XX Γ nL V ad ν cs sl tgt L st) : XX Γ nL V ad ν cs sl pc L st := by
  obtain ⟨p, l, e, R, s, m, args, below, meth, c, A, Q, E⟩ := Γ
  obtain ⟨hx, hb, hml, hown, hts, hlk, hr, hK, hA0, hR, hQ, hzz⟩ := F
  intro H locs ls hW hV hS hl
  exact lv_goto hx hb dd ht (k H locs ls hW hV hS hl)
theorem x_tabIn {dflt lo hi off : Int} {offs : Array Int} {len tgt : Nat} {a : Int} (F : Fx Γ cc own nL ret P d mc ms) (dd : decode cc pc = .ok (.tableswitch dflt lo hi offs, len)) (h1 : lo ≤ a) (h2 : a ≤ hi) (hg : -2147483648 ≤ a ∧ a < 2147483648) (ho : offs[(a - lo).toNat]? = some off) (ht : (pc : Int) + off = (tgt : Int)) (k : XX Γ nL V ad ν cs sl tgt L st) : XX Γ nL V ad ν cs sl pc L (.int (I a) :: st) := by
  obtain ⟨p, l, e, R, s, m, args, below, meth, c, A, Q, E⟩ := Γ
  obtain ⟨hx, hb, hml, hown, hts, hlk, hr, hK, hA0, hR, hQ, hzz⟩ := F
  intro H locs ls hW hV hS hl
  refine lv_tableIn (off := off) hx hb dd ?_ ?_ ?_ ht (k H locs ls hW hV hS hl) <;> rw [I_toInt hg]
  · omega
  · omega
  · exact ho
theorem x_tabOut {dflt lo hi : Int} {offs : Array Int} {len tgt : Nat} {a : Int} (F : Fx Γ cc own nL ret P d mc ms) (dd : decode cc pc = .ok (.tableswitch dflt lo hi offs, len)) (h : a < lo ∨ hi < a) (hg : -2147483648 ≤ a ∧ a < 2147483648) (ht : (pc : Int) + dflt = (tgt : Int)) (k : XX Γ nL V ad ν cs sl tgt L st) : XX Γ nL V ad ν cs sl pc L (.int (I a) :: st) := by
  obtain ⟨p, l, e, R, s, m, args, below, meth, c, A, Q, E⟩ := Γ
  obtain ⟨hx, hb, hml, hown, hts, hlk, hr, hK, hA0, hR, hQ, hzz⟩ := F
  intro H locs ls hW hV hS hl
  refine lv_tableOut hx hb dd ?_ ht (k H locs ls hW hV hS hl)
  rw [I_toInt hg]
  exact h
theorem x_lookup {dflt off : Int} {ps : Array (Int × Int)} {len tgt : Nat} {a : Int} (F : Fx Γ cc own nL ret P d mc ms) (dd : decode cc pc = .ok (.lookupswitch dflt ps, len)) (hg : -2147483648 ≤ a ∧ a < 2147483648) (hp : (ps.toList.zip (ps.toList.drop 1)).all (fun (a, next) => a.1 < next.1) = true) (ho : Op.lookupswitch.offset ps.toList dflt a = off) (ht : (pc : Int) + off = (tgt : Int)) (k : XX Γ nL V ad ν cs sl tgt L st) : XX Γ nL V ad ν cs sl pc L (.int (I a) :: st) := by
  obtain ⟨p, l, e, R, s, m, args, below, meth, c, A, Q, E⟩ := Γ
  obtain ⟨hx, hb, hml, hown, hts, hlk, hr, hK, hA0, hR, hQ, hzz⟩ := F
  intro H locs ls hW hV hS hl
  refine lv_lookup hx hb dd hp ?_ ht (k H locs ls hW hV hS hl)
  rw [I_toInt hg]
  exact ho
theorem x_iret {x : Int32} (F : Fx Γ cc own nL ret P d mc ms) (dd : decode cc pc = .ok (.ireturn, 1)) (hq : P (some (.int x)) V ad ν) (hret : ret = some .int) (hc : cs = mc) (hs : sl = ms) : XX Γ nL V ad ν cs sl pc L [.int x] := by
  obtain ⟨p, l, e, R, s, m, args, below, meth, c, A, Q, E⟩ := Γ
  obtain ⟨hx, hb, hml, hown, hts, hlk, hr, hK, hA0, hR, hQ, hzz⟩ := F
  intro H locs ls hW hV hS hl
  subst hQ; subst hR; subst hc; subst hs
  exact W.iret hx hb (hr.trans hret) (fun t ht hw => ⟨⟨_, V, ad, ν, rfl, hq, by rw [ht]; exact hW, hV⟩, hS.F ht⟩) hS.2.2 dd hlk
theorem x_zret {b : Bool} (F : Fx Γ cc own nL ret P d mc ms) (dd : decode cc pc = .ok (.ireturn, 1)) (hq : P (some (.int (I (bI b)))) V ad ν) (hret : ret = some .boolean) (hc : cs = mc) (hs : sl = ms) : XX Γ nL V ad ν cs sl pc L [.int (I (bI b))] := by
  obtain ⟨p, l, e, R, s, m, args, below, meth, c, A, Q, E⟩ := Γ
  obtain ⟨hx, hb, hml, hown, hts, hlk, hr, hK, hA0, hR, hQ, hzz⟩ := F
  intro H locs ls hW hV hS hl
  subst hQ; subst hR; subst hc; subst hs
  exact W.zret hx hb (hr.trans hret) (by cases b <;> decide) (fun t ht hw => ⟨⟨_, V, ad, ν, rfl, hq, by rw [ht]; exact hW, hV⟩, hS.F ht⟩) hS.2.2 dd hlk
theorem x_nret {x : Int32} {ty : FieldType} (F : Fx Γ cc own nL ret P d mc ms) (dd : decode cc pc = .ok (.ireturn, 1)) (hq : P (some (.int x)) V ad ν) (hret : ret = some ty) (hn : narrow ty (.int x) = .int x) (hc : cs = mc) (hs : sl = ms) : XX Γ nL V ad ν cs sl pc L [.int x] := by
  obtain ⟨p, l, e, R, s, m, args, below, meth, c, A, Q, E⟩ := Γ
  obtain ⟨hx, hb, hml, hown, hts, hlk, hr, hK, hA0, hR, hQ, hzz⟩ := F
  intro H locs ls hW hV hS hl
  subst hQ; subst hR; subst hc; subst hs
  exact W.zret hx hb (hr.trans hret) hn (fun t ht hw => ⟨⟨_, V, ad, ν, rfl, hq, by rw [ht]; exact hW, hV⟩, hS.F ht⟩) hS.2.2 dd hlk
theorem x_vret (F : Fx Γ cc own nL ret P d mc ms) (dd : decode cc pc = .ok (.return_, 1)) (hq : P none V ad ν) (hret : ret = none) (hc : cs = mc) (hs : sl = ms) : XX Γ nL V ad ν cs sl pc L [] := by
  obtain ⟨p, l, e, R, s, m, args, below, meth, c, A, Q, E⟩ := Γ
  obtain ⟨hx, hb, hml, hown, hts, hlk, hr, hK, hA0, hR, hQ, hzz⟩ := F
  intro H locs ls hW hV hS hl
  subst hQ; subst hR; subst hc; subst hs
  exact W.vret hx hb (hr.trans hret) (fun t ht hw => ⟨⟨_, V, ad, ν, rfl, hq, by rw [ht]; exact hW, hV⟩, hS.F ht⟩) hS.2.2 dd hlk
theorem x_lret {x : Int64} (F : Fx Γ cc own nL ret P d mc ms) (dd : decode cc pc = .ok (.lreturn, 1)) (hq : P (some (.long x)) V ad ν) (hret : ret = some .long) (hc : cs = mc) (hs : sl = ms) : XX Γ nL V ad ν cs sl pc L [.long x] := by
  obtain ⟨p, l, e, R, s, m, args, below, meth, c, A, Q, E⟩ := Γ
  obtain ⟨hx, hb, hml, hown, hts, hlk, hr, hK, hA0, hR, hQ, hzz⟩ := F
  intro H locs ls hW hV hS hl
  subst hQ; subst hR; subst hc; subst hs
  exact W.lret hx hb (hr.trans hret) (fun t ht hw => ⟨⟨_, V, ad, ν, rfl, hq, by rw [ht]; exact hW, hV⟩, hS.F ht⟩) hS.2.2 dd hlk
theorem x_aret {x : Nat} {nm : String} (F : Fx Γ cc own nL ret P d mc ms) (dd : decode cc pc = .ok (.areturn, 1)) (hq : P (some (.ref x)) V ad ν) (hret : ret = some (.object nm)) (hc : cs = mc) (hs : sl = ms) : XX Γ nL V ad ν cs sl pc L [.ref x] := by
  obtain ⟨p, l, e, R, s, m, args, below, meth, c, A, Q, E⟩ := Γ
  obtain ⟨hx, hb, hml, hown, hts, hlk, hr, hK, hA0, hR, hQ, hzz⟩ := F
  intro H locs ls hW hV hS hl
  subst hQ; subst hR; subst hc; subst hs
  exact W.aret hx hb (hr.trans hret) (Or.inl ⟨nm, rfl⟩) (Or.inr ⟨x, rfl⟩) (fun t ht hw => ⟨⟨_, V, ad, ν, rfl, hq, by rw [ht]; exact hW, hV⟩, hS.F ht⟩) hS.2.2 dd hlk
end ROWS
