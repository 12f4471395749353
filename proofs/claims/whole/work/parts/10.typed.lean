/-! ===== typed returns, numbers, switches; which objects there are ===== -/
/-- the class's objects, with nh Houses (and the one without CLAUSES, 6) -/
def VC (nh : Int) (o : Ob) : Prop := match o.1 with
  | 0 => o.2.1 = 0 ∧ o.2.2 = 0
  | 1 => 0 ≤ o.2.1 ∧ o.2.1 < 3 ∧ o.2.2 = 0
  | 2 => 0 ≤ o.2.1 ∧ o.2.1 < 3 ∧ 0 ≤ o.2.2 ∧ o.2.2 < 4 ∨ o.2.1 = 3 ∧ o.2.2 = 0
  | 3 => 0 ≤ o.2.1 ∧ o.2.1 < 3 ∧ 0 ≤ o.2.2 ∧ o.2.2 < 4 ∨ o.2.1 = 3 ∧ o.2.2 = 0
  | 4 => 0 ≤ o.2.1 ∧ o.2.1 < 3 ∧ 0 ≤ o.2.2 ∧ o.2.2 < 6 ∨ o.2.1 = 3 ∧ o.2.2 = 0
  | 5 => 0 ≤ o.2.1 ∧ o.2.1 < 3 ∧ 0 ≤ o.2.2 ∧ o.2.2 < 6 ∨ o.2.1 = 3 ∧ o.2.2 = 0
  | 6 => 0 ≤ o.2.1 ∧ o.2.1 < 3 ∧ 0 ≤ o.2.2 ∧ o.2.2 < 3
  | 7 => 0 ≤ o.2.1 ∧ o.2.1 < 3 ∧ 0 ≤ o.2.2 ∧ o.2.2 < 3
  | 8 => 0 ≤ o.2.1 ∧ o.2.1 < 3 ∧ 0 ≤ o.2.2 ∧ o.2.2 < 3
  | 9 => 0 ≤ o.2.1 ∧ o.2.1 < 3 ∧ 0 ≤ o.2.2 ∧ o.2.2 < 3
  | 10 => 0 ≤ o.2.1 ∧ o.2.1 < 3 ∧ o.2.2 = 0
  | 11 => 0 ≤ o.2.1 ∧ o.2.1 < 3 ∧ o.2.2 = 0
  | 12 => (0 ≤ o.2.1 ∧ o.2.1 < nh ∨ o.2.1 = 6) ∧ o.2.2 = 0
  | 13 => (0 ≤ o.2.1 ∧ o.2.1 < nh ∨ o.2.1 = 6) ∧ o.2.2 = 0
  | 14 => (0 ≤ o.2.1 ∧ o.2.1 < nh ∨ o.2.1 = 6) ∧ o.2.2 = 0
  | 15 => o.2.1 = 0 ∧ o.2.2 = 0
  | 16 => o.2.1 = 0 ∧ o.2.2 = 0
  | 17 => o.2.1 = 0 ∧ o.2.2 = 0
  | 18 => o.2.1 = 0 ∧ o.2.2 = 0
  | 19 => o.2.1 = 0 ∧ o.2.2 = 0
  | 20 => 0 ≤ o.2.1 ∧ o.2.1 < 6 ∧ o.2.2 = 0
  | 21 => 0 ≤ o.2.1 ∧ o.2.1 < 6 ∧ o.2.2 = 0
  | 22 => o.2.1 = 0 ∧ o.2.2 = 0
  | 23 => o.2.1 = 0 ∧ o.2.2 = 0
  | _ => False
/-- the reference's objects -/
def VM (o : Ob) : Prop := 30 ≤ o.1 ∧ o.1 ≤ 50 ∧ o.2.1 = 0 ∧ o.2.2 = 0
theorem vm_ok {k : Nat} (h : (Nat.ble 30 k && Nat.ble k 50) = true) : VM (k, 0, 0) := by
  rw [Bool.and_eq_true] at h
  exact ⟨Nat.le_of_ble_eq_true h.1, Nat.le_of_ble_eq_true h.2, rfl, rfl⟩
theorem v_0 {nh t j : Int} (h : t = 0 ∧ j = 0) : VC nh (0, t, j) := h
theorem v_15 {nh t j : Int} (h : t = 0 ∧ j = 0) : VC nh (15, t, j) := h
theorem v_16 {nh t j : Int} (h : t = 0 ∧ j = 0) : VC nh (16, t, j) := h
theorem v_17 {nh t j : Int} (h : t = 0 ∧ j = 0) : VC nh (17, t, j) := h
theorem v_18 {nh t j : Int} (h : t = 0 ∧ j = 0) : VC nh (18, t, j) := h
theorem v_19 {nh t j : Int} (h : t = 0 ∧ j = 0) : VC nh (19, t, j) := h
theorem v_22 {nh t j : Int} (h : t = 0 ∧ j = 0) : VC nh (22, t, j) := h
theorem v_23 {nh t j : Int} (h : t = 0 ∧ j = 0) : VC nh (23, t, j) := h
theorem v_1 {nh t j : Int} (h : 0 ≤ t ∧ t < 3 ∧ j = 0) : VC nh (1, t, j) := h
theorem v_10 {nh t j : Int} (h : 0 ≤ t ∧ t < 3 ∧ j = 0) : VC nh (10, t, j) := h
theorem v_11 {nh t j : Int} (h : 0 ≤ t ∧ t < 3 ∧ j = 0) : VC nh (11, t, j) := h
theorem v_2 {nh t j : Int} (h : 0 ≤ t ∧ t < 3 ∧ 0 ≤ j ∧ j < 4 ∨ t = 3 ∧ j = 0) : VC nh (2, t, j) := h
theorem v_3 {nh t j : Int} (h : 0 ≤ t ∧ t < 3 ∧ 0 ≤ j ∧ j < 4 ∨ t = 3 ∧ j = 0) : VC nh (3, t, j) := h
theorem v_4 {nh t j : Int} (h : 0 ≤ t ∧ t < 3 ∧ 0 ≤ j ∧ j < 6 ∨ t = 3 ∧ j = 0) : VC nh (4, t, j) := h
theorem v_5 {nh t j : Int} (h : 0 ≤ t ∧ t < 3 ∧ 0 ≤ j ∧ j < 6 ∨ t = 3 ∧ j = 0) : VC nh (5, t, j) := h
theorem v_6 {nh t j : Int} (h : 0 ≤ t ∧ t < 3 ∧ 0 ≤ j ∧ j < 3) : VC nh (6, t, j) := h
theorem v_7 {nh t j : Int} (h : 0 ≤ t ∧ t < 3 ∧ 0 ≤ j ∧ j < 3) : VC nh (7, t, j) := h
theorem v_8 {nh t j : Int} (h : 0 ≤ t ∧ t < 3 ∧ 0 ≤ j ∧ j < 3) : VC nh (8, t, j) := h
theorem v_9 {nh t j : Int} (h : 0 ≤ t ∧ t < 3 ∧ 0 ≤ j ∧ j < 3) : VC nh (9, t, j) := h
theorem v_12 {nh t j : Int} (h : (0 ≤ t ∧ t < nh ∨ t = 6) ∧ j = 0) : VC nh (12, t, j) := h
theorem v_13 {nh t j : Int} (h : (0 ≤ t ∧ t < nh ∨ t = 6) ∧ j = 0) : VC nh (13, t, j) := h
theorem v_14 {nh t j : Int} (h : (0 ≤ t ∧ t < nh ∨ t = 6) ∧ j = 0) : VC nh (14, t, j) := h
theorem v_20 {nh t j : Int} (h : 0 ≤ t ∧ t < 6 ∧ j = 0) : VC nh (20, t, j) := h
theorem v_21 {nh t j : Int} (h : 0 ≤ t ∧ t < 6 ∧ j = 0) : VC nh (21, t, j) := h
theorem sh_7 {t j : Int} : shp (7, t, j) = .inr (0, rsz j) := rfl
theorem sh_8 {t j : Int} : shp (8, t, j) = .inr (0, rsz j) := rfl
theorem sh_9 {t j : Int} : shp (9, t, j) = .inr (0, rsz j) := rfl
theorem sh_13 {t j : Int} : shp (13, t, j) = .inr (0, hsz t) := rfl
theorem sh_14 {t j : Int} : shp (14, t, j) = .inr (0, hsz t) := rfl
theorem hvl_r {ad : Ob → Nat} {z : Int} (h : z ≠ 7) : hvl ad z = .ref (ad (12, z, 0)) := by unfold hvl; rw [if_neg h]
/-- bits of whole numbers -/
def wx (a b : Int) : Int := ((a.toNat ^^^ b.toNat : Nat) : Int)
def wa (a b : Int) : Int := ((a.toNat &&& b.toNat : Nat) : Int)
def wo (a b : Int) : Int := ((a.toNat ||| b.toNat : Nat) : Int)
def p2 (k : Int) : Int := ((2 ^ k.toNat : Nat) : Int)
/-- any two numbers, as the machine has them -/
def ix (a b : Int) : Int := (I a ^^^ I b).toInt
theorem I_nat {n : Nat} : I (n : Int) = Int32.ofNat n := Int32.ofInt_eq_ofNat
theorem wx_I {a b : Int} (h : 0 ≤ a ∧ a < 2147483648 ∧ 0 ≤ b ∧ b < 2147483648) : I a ^^^ I b = I (wx a b) := by
  have e1 : a = ((a.toNat : Nat) : Int) := by omega
  have e2 : b = ((b.toNat : Nat) : Int) := by omega
  unfold wx
  rw [e1, e2]
  simp only [Int.toNat_natCast, I_nat]
  rw [← Int32.toBitVec_inj]
  simp [BitVec.ofNat_xor]
theorem wa_I {a b : Int} (h : 0 ≤ a ∧ a < 2147483648 ∧ 0 ≤ b ∧ b < 2147483648) : I a &&& I b = I (wa a b) := by
  have e1 : a = ((a.toNat : Nat) : Int) := by omega
  have e2 : b = ((b.toNat : Nat) : Int) := by omega
  unfold wa
  rw [e1, e2]
  simp only [Int.toNat_natCast, I_nat]
  rw [← Int32.toBitVec_inj]
  simp [BitVec.ofNat_and]
theorem wo_I {a b : Int} (h : 0 ≤ a ∧ a < 2147483648 ∧ 0 ≤ b ∧ b < 2147483648) : I a ||| I b = I (wo a b) := by
  have e1 : a = ((a.toNat : Nat) : Int) := by omega
  have e2 : b = ((b.toNat : Nat) : Int) := by omega
  unfold wo
  rw [e1, e2]
  simp only [Int.toNat_natCast, I_nat]
  rw [← Int32.toBitVec_inj]
  simp [BitVec.ofNat_or]
theorem I_quo {a b : Int} (h : -2147483648 ≤ a ∧ a < 2147483648 ∧ 0 < b ∧ b < 2147483648) : I a / I b = I (a.tdiv b) := by
  apply Int32.toInt_inj.mp
  have hb : -2147483648 ≤ a.tdiv b ∧ a.tdiv b < 2147483648 := by
    have h1 : (a.tdiv b).natAbs ≤ a.natAbs := Int.natAbs_tdiv_le_natAbs a b
    rcases Int.le_total 0 a with h0 | h0
    · have := Int.tdiv_nonneg h0 (by omega : 0 ≤ b)
      omega
    · have h2 : 0 ≤ (-a).tdiv b := Int.tdiv_nonneg (by omega) (by omega)
      rw [Int.neg_tdiv] at h2
      omega
  rw [Int32.toInt_div, I_toInt (by omega), I_toInt (by omega), I_toInt hb]
  exact Int.bmod_eq_of_le (by omega) (by omega)
theorem I_ne0 {b : Int} (h : 0 < b ∧ b < 2147483648) : ¬ I b = 0 := by
  rw [I_0, I_eq (by omega)]
  omega
theorem I_rem {a b : Int} (h : -2147483648 ≤ a ∧ a < 2147483648 ∧ 0 < b ∧ b < 2147483648) : I a - I a / I b * I b = I (a.tmod b) := by
  rw [I_quo h, I_mul, I_sub]
  congr 1
  have := Int.mul_tdiv_add_tmod a b
  rw [Int.mul_comm] at this
  omega
section TYP
variable {Γ : Ct} {cc : ByteArray} {own : String} {nL : Nat} {ret : Option FieldType} {P : Pq} {d mc ms : Nat} {V : Ob → Prop} {ad : Ob → Nat} {ν : Mv} {μ : Me} {cs sl pc : Nat} {L : List (Nat × Value)} {st : List Value} {a b z : Int}
theorem tq_ixor (F : Fx Γ cc own nL ret P d mc ms) (dd : decode cc pc = .ok (.ixor, 1)) (h : 0 ≤ a ∧ a < 2147483648 ∧ 0 ≤ b ∧ b < 2147483648) (k : XX Γ nL V ad ν cs sl (pc + 1) L (.int (I (wx a b)) :: st)) : XX Γ nL V ad ν cs sl pc L (.int (I b) :: .int (I a) :: st) := r_ixor F dd (wx_I h) k
theorem tq_iand (F : Fx Γ cc own nL ret P d mc ms) (dd : decode cc pc = .ok (.iand, 1)) (h : 0 ≤ a ∧ a < 2147483648 ∧ 0 ≤ b ∧ b < 2147483648) (k : XX Γ nL V ad ν cs sl (pc + 1) L (.int (I (wa a b)) :: st)) : XX Γ nL V ad ν cs sl pc L (.int (I b) :: .int (I a) :: st) := r_iand F dd (wa_I h) k
theorem tq_ior (F : Fx Γ cc own nL ret P d mc ms) (dd : decode cc pc = .ok (.ior, 1)) (h : 0 ≤ a ∧ a < 2147483648 ∧ 0 ≤ b ∧ b < 2147483648) (k : XX Γ nL V ad ν cs sl (pc + 1) L (.int (I (wo a b)) :: st)) : XX Γ nL V ad ν cs sl pc L (.int (I b) :: .int (I a) :: st) := r_ior F dd (wo_I h) k
theorem tq_ixorR (F : Fx Γ cc own nL ret P d mc ms) (dd : decode cc pc = .ok (.ixor, 1)) (h : True) (k : XX Γ nL V ad ν cs sl (pc + 1) L (.int (I (ix a b)) :: st)) : XX Γ nL V ad ν cs sl pc L (.int (I b) :: .int (I a) :: st) := r_ixor F dd (I_of _).symm k
theorem tq_idivT (F : Fx Γ cc own nL ret P d mc ms) (dd : decode cc pc = .ok (.idiv, 1)) (h : -2147483648 ≤ a ∧ a < 2147483648 ∧ 0 < b ∧ b < 2147483648) (k : XX Γ nL V ad ν cs sl (pc + 1) L (.int (I (a.tdiv b)) :: st)) : XX Γ nL V ad ν cs sl pc L (.int (I b) :: .int (I a) :: st) := r_idiv F dd (I_ne0 (by omega)) (I_quo h) k
theorem tq_iremT (F : Fx Γ cc own nL ret P d mc ms) (dd : decode cc pc = .ok (.irem, 1)) (h : -2147483648 ≤ a ∧ a < 2147483648 ∧ 0 < b ∧ b < 2147483648) (k : XX Γ nL V ad ν cs sl (pc + 1) L (.int (I (a.tmod b)) :: st)) : XX Γ nL V ad ν cs sl pc L (.int (I b) :: .int (I a) :: st) := r_irem F dd (I_ne0 (by omega)) (I_rem h) k
theorem tq_idiv (F : Fx Γ cc own nL ret P d mc ms) (dd : decode cc pc = .ok (.idiv, 1)) (h : 0 ≤ a ∧ a < 2147483648 ∧ 0 < b ∧ b < 2147483648) (k : XX Γ nL V ad ν cs sl (pc + 1) L (.int (I (a / b)) :: st)) : XX Γ nL V ad ν cs sl pc L (.int (I b) :: .int (I a) :: st) := tq_idivT F dd (by omega) (by rw [Int.tdiv_eq_ediv_of_nonneg h.1]; exact k)
theorem tq_irem (F : Fx Γ cc own nL ret P d mc ms) (dd : decode cc pc = .ok (.irem, 1)) (h : 0 ≤ a ∧ a < 2147483648 ∧ 0 < b ∧ b < 2147483648) (k : XX Γ nL V ad ν cs sl (pc + 1) L (.int (I (a % b)) :: st)) : XX Γ nL V ad ν cs sl pc L (.int (I b) :: .int (I a) :: st) := tq_iremT F dd (by omega) (by rw [Int.tmod_eq_emod_of_nonneg h.1]; exact k)
theorem sh_one : ∀ k : Nat, k < 31 → (1 : Int32) <<< (nI k &&& 31) = nI (2 ^ k) := by decide +kernel
theorem p2_I {k : Int} (h : 0 ≤ k ∧ k < 31) : I 1 <<< (I k &&& 31) = I (p2 k) := by
  have e := sh_one k.toNat (by omega)
  rw [I_nI, I_nI] at e
  have e2 : ((k.toNat : Nat) : Int) = k := by omega
  rw [e2] at e
  exact e
/-- 1 << k -/
theorem tq_ishl (F : Fx Γ cc own nL ret P d mc ms) (dd : decode cc pc = .ok (.ishl, 1)) (h : 0 ≤ b ∧ b < 31) (k : XX Γ nL V ad ν cs sl (pc + 1) L (.int (I (p2 b)) :: st)) : XX Γ nL V ad ν cs sl pc L (.int (I b) :: .int (I 1) :: st) := r_ishl F dd (p2_I h) k
theorem tq_reti {Q1 : Int → Me → Prop} (F : Fx Γ cc own nL ret (nP V ad (pi Q1)) d mc ms) (dd : decode cc pc = .ok (.ireturn, 1)) (hq : Q1 z μ) (hret : ret = some .int) (hc : cs = mc) (hs : sl = ms) : XX Γ nL V ad (vl ad μ) cs sl pc L [.int (I z)] := x_iret F dd ⟨rfl, rfl, μ, rfl, z, rfl, hq⟩ hret hc hs
theorem tq_retz {b : Bool} {Q1 : Bool → Me → Prop} (F : Fx Γ cc own nL ret (nP V ad (pz Q1)) d mc ms) (dd : decode cc pc = .ok (.ireturn, 1)) (hq : Q1 b μ) (hret : ret = some .boolean) (hc : cs = mc) (hs : sl = ms) : XX Γ nL V ad (vl ad μ) cs sl pc L [.int (I (bI b))] := x_zret F dd ⟨rfl, rfl, μ, rfl, b, rfl, hq⟩ hret hc hs
theorem tq_retl {Q1 : Int → Me → Prop} (F : Fx Γ cc own nL ret (nP V ad (pl Q1)) d mc ms) (dd : decode cc pc = .ok (.lreturn, 1)) (hq : Q1 z μ) (hret : ret = some .long) (hc : cs = mc) (hs : sl = ms) : XX Γ nL V ad (vl ad μ) cs sl pc L [.long (J z)] := x_lret F dd ⟨rfl, rfl, μ, rfl, z, rfl, hq⟩ hret hc hs
theorem tq_retv {Q1 : Me → Prop} (F : Fx Γ cc own nL ret (nP V ad (pv Q1)) d mc ms) (dd : decode cc pc = .ok (.return_, 1)) (hq : Q1 μ) (hret : ret = none) (hc : cs = mc) (hs : sl = ms) : XX Γ nL V ad (vl ad μ) cs sl pc L [] := x_vret F dd ⟨rfl, rfl, μ, rfl, rfl, hq⟩ hret hc hs
theorem tq_retr {x : Nat} {nm : String} {Q1 : Nat → Me → Prop} (F : Fx Γ cc own nL ret (nP V ad (pr Q1)) d mc ms) (dd : decode cc pc = .ok (.areturn, 1)) (hq : Q1 x μ) (hret : ret = some (.object nm)) (hc : cs = mc) (hs : sl = ms) : XX Γ nL V ad (vl ad μ) cs sl pc L [.ref x] := x_aret F dd ⟨rfl, rfl, μ, rfl, x, rfl, hq⟩ hret hc hs
/-- a switch's cases -/
def tabC (Z : Nat → Prop) (a : Int) : Int → List Nat → Prop
  | _, [] => True
  | lo, t :: r => (a = lo → Z t) ∧ tabC Z a (lo + 1) r
theorem tabC_at {Z : Nat → Prop} {a : Int} : ∀ (ts : List Nat) (lo : Int), tabC Z a lo ts → ∀ k : Nat, a = lo + k → ∀ t, ts[k]? = some t → Z t
  | [], _, _, k, _, t, ht => by simp at ht
  | t0 :: r, lo, h, 0, hk, t, ht => by
    cases ht
    exact h.1 (by omega)
  | t0 :: r, lo, h, k + 1, hk, t, ht => tabC_at r (lo + 1) h.2 k (by omega) t (by simpa using ht)
/-- offsets to targets -/
def tgts (pc : Nat) (offs : List Int) : List Nat := offs.map fun x => ((pc : Int) + x).toNat
theorem x_tab {dflt lo hi : Int} {offs : Array Int} {len dt : Nat} {ts : List Nat} (F : Fx Γ cc own nL ret P d mc ms) (dd : decode cc pc = .ok (.tableswitch dflt lo hi offs, len)) (hok : (decide (offs.toList.map (fun x => (pc : Int) + x) = ts.map (fun t : Nat => (t : Int))) && decide (hi - lo + 1 = (ts.length : Int))) = true) (hdt : (pc : Int) + dflt = (dt : Int)) (hg : -2147483648 ≤ a ∧ a < 2147483648)
    (hk : tabC (fun t => XX Γ nL V ad ν cs sl t L st) a lo ts) (hd : a < lo ∨ hi < a → XX Γ nL V ad ν cs sl dt L st) : XX Γ nL V ad ν cs sl pc L (.int (I a) :: st) := by
  simp only [Bool.and_eq_true, decide_eq_true_eq] at hok
  by_cases h : a < lo ∨ hi < a
  · exact x_tabOut F dd h hg hdt (hd h)
  · have hlen : offs.toList.length = ts.length := by
      have := congrArg List.length hok.1
      simpa using this
    have hlt : (a - lo).toNat < ts.length := by omega
    have ht : ts[(a - lo).toNat]? = some ts[(a - lo).toNat] := List.getElem?_eq_getElem hlt
    have ho : offs.toList[(a - lo).toNat]? = some (offs.toList[(a - lo).toNat]'(by omega)) := List.getElem?_eq_getElem _
    have e : (pc : Int) + (offs.toList[(a - lo).toNat]'(by omega)) = ((ts[(a - lo).toNat] : Nat) : Int) := by
      have h1 := congrArg (fun l => l[(a - lo).toNat]?) hok.1
      simp only [List.getElem?_map, ho, ht, Option.map_some] at h1
      exact Option.some.inj h1
    exact x_tabIn F dd (by omega) (by omega) hg (by rw [← Array.getElem?_toList]; exact ho) e (tabC_at ts lo hk _ (by omega) _ ht)
end TYP
