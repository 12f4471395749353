/-! ===== THE FRAME: objects by names (tag, i, j), a memory of values, the judgement XX (W over every heap that holds the memory) ===== -/
abbrev Ob : Type := Nat × Int × Int
abbrev Me : Type := Ob → Int → Int
abbrev Mv : Type := Ob → Nat → Value
/-- the classes' numbers and slots; the array classes; where our cells begin; the String constants and their bytes -/
abbrev Ev : Type := va_G × (Nat → ClassId) × Nat × (Nat → Nat) × (Nat → Nat)
/-- an int, a long by a whole number (wrapping) -/
def I (z : Int) : Int32 := Int32.ofInt z
def J (z : Int) : Int64 := Int64.ofInt z
/-- 0 or 1 -/
def bI (b : Bool) : Int := cond b 1 0
def rsz (w : Int) : Nat := if w = 0 then 5 else if w = 1 then 10 else 8
def hsz (h : Int) : Nat := if h = 6 then 0 else 100
theorem rsz_rg (w : Int) : 5 ≤ rsz w ∧ rsz w ≤ 10 := by
  unfold rsz
  split
  · omega
  · split <;> omega
theorem hsz_rg (w : Int) : hsz w ≤ 100 := by
  unfold hsz
  split <;> omega
/-- the shape of an object: a class by its place in vwCl, or an array (0 int, 1 long, 2 byte, 3 char, 4 Gate, 5 Comer, 6 House, 7 Tape) and its length -/
def shp (o : Ob) : Nat ⊕ (Nat × Nat) := match o.1 with
  | 0 => .inl 7
  | 1 => .inl 6
  | 2 => .inl 1
  | 3 => .inr (0, 3)
  | 4 => .inl 0
  | 5 => .inr (0, 4)
  | 6 => .inl 4
  | 7 => .inr (0, rsz o.2.2)
  | 8 => .inr (0, rsz o.2.2)
  | 9 => .inr (0, rsz o.2.2)
  | 10 => .inr (4, 4)
  | 11 => .inr (5, 6)
  | 12 => .inl 2
  | 13 => .inr (0, hsz o.2.1)
  | 14 => .inr (0, hsz o.2.1)
  | 15 => .inl 3
  | 16 => .inr (2, 100)
  | 17 => .inr (6, 6)
  | 18 => .inr (0, 20)
  | 19 => .inr (7, 6)
  | 20 => .inl 5
  | 21 => .inr (1, 60)
  | 22 => .inr (0, 6)
  | 23 => .inr (0, 4)
  | 30 => .inl 8
  | 31 => .inr (0, 133)
  | 32 => .inr (0, 532)
  | 33 => .inr (0, 133)
  | 34 => .inr (0, 100)
  | 35 => .inr (0, 600)
  | 36 => .inr (0, 6)
  | 37 => .inr (0, 100)
  | 38 => .inr (0, 6)
  | 39 => .inr (3, 6)
  | 40 => .inr (3, 24)
  | 41 => .inr (0, 3)
  | 42 => .inr (0, 3)
  | 43 => .inr (0, 6)
  | 44 => .inr (0, 7)
  | 45 => .inr (0, 21)
  | 46 => .inr (0, 20)
  | 47 => .inr (0, 6)
  | 48 => .inr (0, 6)
  | 49 => .inr (1, 360)
  | _ => .inr (1, 60)
/-- what a slot is: inl 0 an int, inl 1 a long, inl 2 a House by its number (7: null), inr v: always v -/
def sk (ad : Ob → Nat) (o : Ob) (k : Nat) : Nat ⊕ Value := match o.1 with
  | 0 => match k with
    | 0 => .inr (.ref (ad (1, 0, 0)))
    | 1 => .inr (.ref (ad (1, 1, 0)))
    | 2 => .inr (.ref (ad (1, 2, 0)))
    | 4 => .inr (.ref (ad (15, 0, 0)))
    | 5 => .inr (.ref (ad (17, 0, 0)))
    | 7 => .inr (.ref (ad (18, 0, 0)))
    | 9 => .inr (.ref (ad (19, 0, 0)))
    | 10 => .inr (.ref (ad (2, 3, 0)))
    | 11 => .inr (.ref (ad (4, 3, 0)))
    | 12 => .inr (.ref (ad (22, 0, 0)))
    | 13 => .inr (.ref (ad (23, 0, 0)))
    | _ => .inl 0
  | 1 => match k with
    | 0 => .inr (.ref (ad (10, o.2.1, 0)))
    | 1 => .inr (.ref (ad (11, o.2.1, 0)))
    | 2 => .inr (.ref (ad (6, o.2.1, 0)))
    | 3 => .inr (.ref (ad (6, o.2.1, 1)))
    | 4 => .inr (.ref (ad (6, o.2.1, 2)))
    | 7 => .inl 2
    | _ => .inl 0
  | 2 => match k with
    | 0 => .inr (.ref (ad (3, o.2.1, o.2.2)))
    | _ => .inl 0
  | 4 => match k with
    | 7 => .inr (.ref (ad (5, o.2.1, o.2.2)))
    | _ => .inl 0
  | 6 => match k with
    | 0 => .inr (.ref (ad (7, o.2.1, o.2.2)))
    | 1 => .inr (.ref (ad (8, o.2.1, o.2.2)))
    | 2 => .inr (.ref (ad (9, o.2.1, o.2.2)))
    | _ => .inl 0
  | 10 => .inr (.ref (ad (2, o.2.1, k)))
  | 11 => .inr (.ref (ad (4, o.2.1, k)))
  | 12 => match k with
    | 0 => .inr (.ref (ad (13, o.2.1, 0)))
    | 1 => .inr (.ref (ad (14, o.2.1, 0)))
    | _ => .inl 0
  | 15 => match k with
    | 0 => .inr (.ref (ad (16, 0, 0)))
    | 3 => .inl 2
    | _ => .inl 0
  | 17 => .inl 2
  | 19 => .inr (.ref (ad (20, k, 0)))
  | 20 => match k with
    | 0 => .inr (.ref (ad (21, o.2.1, 0)))
    | _ => .inl 0
  | 21 => .inl 1
  | 30 => match k with
    | 0 => .inr (.ref (ad (31, 0, 0)))
    | 1 => .inr (.ref (ad (32, 0, 0)))
    | 2 => .inr (.ref (ad (33, 0, 0)))
    | 4 => .inr (.ref (ad (34, 0, 0)))
    | 6 => .inr (.ref (ad (35, 0, 0)))
    | 7 => .inr (.ref (ad (36, 0, 0)))
    | 9 => .inr (.ref (ad (37, 0, 0)))
    | 17 => .inr (.ref (ad (38, 0, 0)))
    | 18 => .inr (.ref (ad (39, 0, 0)))
    | 19 => .inr (.ref (ad (40, 0, 0)))
    | 20 => .inr (.ref (ad (41, 0, 0)))
    | 21 => .inr (.ref (ad (42, 0, 0)))
    | 23 => .inr (.ref (ad (43, 0, 0)))
    | 24 => .inr (.ref (ad (44, 0, 0)))
    | 25 => .inr (.ref (ad (45, 0, 0)))
    | 26 => .inr (.ref (ad (46, 0, 0)))
    | 28 => .inr (.ref (ad (47, 0, 0)))
    | 29 => .inr (.ref (ad (48, 0, 0)))
    | 30 => .inr (.ref (ad (49, 0, 0)))
    | 31 => .inr (.ref (ad (50, 0, 0)))
    | _ => .inl 0
  | 49 => .inl 1
  | 50 => .inl 1
  | _ => .inl 0
/-- a House by its number -/
def hvl (ad : Ob → Nat) (z : Int) : Value := if z = 7 then .null else .ref (ad (12, z, 0))
def vof (ad : Ob → Nat) (q : Nat ⊕ Value) (z : Int) : Value := match q with
  | .inl 0 => .int (I z)
  | .inl 1 => .long (J z)
  | .inl _ => hvl ad z
  | .inr v => v
/-- the memory's values -/
def vl (ad : Ob → Nat) (μ : Me) : Mv := fun o k => vof ad (sk ad o k) (μ o k)
def upM (μ : Me) (o : Ob) (k : Int) (z : Int) : Me := fun o' k' => if o' = o ∧ k' = k then z else μ o' k'
def upV (ν : Mv) (o : Ob) (k : Nat) (v : Value) : Mv := fun o' k' => if o' = o ∧ k' = k then v else ν o' k'
theorem upV_vl {ad : Ob → Nat} {μ : Me} {o : Ob} {k : Nat} {z : Int} {v : Value} (h : vof ad (sk ad o k) z = v) : upV (vl ad μ) o k v = vl ad (upM μ o k z) := by
  funext o' k'
  by_cases hq : o' = o ∧ k' = k
  · obtain ⟨rfl, rfl⟩ := hq
    simp [upV, vl, upM, h]
  · have hq2 : ¬ (o' = o ∧ (k' : Int) = (k : Int)) := fun z => hq ⟨z.1, by omega⟩
    simp only [upV, vl, upM, if_neg hq, if_neg hq2]
theorem vl_st {ad : Ob → Nat} {μ : Me} {o : Ob} {k : Nat} {v : Value} (h : sk ad o k = .inr v) : vl ad μ o k = v := by simp only [vl, h, vof]
theorem vl_i {ad : Ob → Nat} {μ : Me} {o : Ob} {k : Nat} (h : sk ad o k = .inl 0) : vl ad μ o k = .int (I (μ o k)) := by simp only [vl, h, vof]
theorem vl_l {ad : Ob → Nat} {μ : Me} {o : Ob} {k : Nat} (h : sk ad o k = .inl 1) : vl ad μ o k = .long (J (μ o k)) := by simp only [vl, h, vof]
theorem vl_h {ad : Ob → Nat} {μ : Me} {o : Ob} {k : Nat} (h : sk ad o k = .inl 2) : vl ad μ o k = hvl ad (μ o k) := by simp only [vl, h, vof]
/-- an object's cell -/
def cOK (E : Ev) (ad : Ob → Nat) (f : Nat → Value) (o : Ob) (H : Heap) : Prop := match shp o with
  | .inl ci => ∃ r : vw_C, vwCl[ci]? = some r ∧ t_OB (ad o) (E.1.1 ci) r.2.2 (E.1.2 ci) H f
  | .inr (ti, n) => H[ad o]? = some (arrV (E.2.1 ti) n f)
def Wd (E : Ev) (V : Ob → Prop) (ad : Ob → Nat) (ν : Mv) (H : Heap) : Prop :=
  (∀ o, V o → cOK E ad (ν o) o H) ∧ (∀ o o', V o → V o' → ad o = ad o' → o = o') ∧ ∀ o, V o → E.2.2.1 ≤ ad o
def tyA (k : Nat) : FieldType := match k with
  | 0 => .int
  | 1 => .long
  | 2 => .byte
  | 3 => .char
  | 4 => .object "GatesBent$Gate"
  | 5 => .object "GatesBent$Comer"
  | 6 => .object "GatesBent$House"
  | _ => .object "GatesBent$Tape"
def tysE (E : Ev) : List (ClassId × FieldType) := [(E.2.1 0, tyA 0), (E.2.1 1, tyA 1), (E.2.1 2, tyA 2), (E.2.1 3, tyA 3), (E.2.1 4, tyA 4), (E.2.1 5, tyA 5), (E.2.1 6, tyA 6), (E.2.1 7, tyA 7)]
/-- our part of the heap -/
def A0 (E : Ev) : Nat → Prop := fun q => E.2.2.1 ≤ q
def nestW : List Cond := [Cond.methodLinkNest "GatesBent" 11 yX3_init "GatesBent", Cond.methodLinkNest "GatesBent" 36 yX1_init "GatesBent", Cond.methodLinkNest "GatesBent$Town" 42 yX1_init "GatesBent", Cond.methodLinkNest "GatesBent" 72 yX5_init "GatesBent", Cond.methodLinkNest "GatesBent$Gate" 29 yX7_alike "GatesBent", Cond.methodLinkNest "GatesBent$Town" 64 yX7_alike "GatesBent", Cond.arrayOver (.object "GatesBent$House"), Cond.arrayOver (.object "GatesBent$Tape"), Cond.arrayOver (.object "GatesBent$Gate"), Cond.arrayOver (.object "GatesBent$Comer")]
def strW : List (Nat × String) := [(77, "help"), (79, "hinder"), (81, "need"), (82, "age"), (96, "pkvgtd"), (101, "<=>")]
def strLen : List Nat := [4, 6, 4, 3, 6, 3]
def strByt : List (List Int32) := [[104, 101, 108, 112], [104, 105, 110, 100, 101, 114], [110, 101, 101, 100], [97, 103, 101], [112, 107, 118, 103, 116, 100], [60, 61, 62]]
/-- the Strings and the JDK's statics that stand below -/
def Sx (E : Ev) (U : State) : Prop :=
  (∀ i q, strW[i]? = some q → vk_R "GatesBent$Reader" q.1 q.2 (E.2.2.2.1 i) U) ∧ vk_S 6 strLen strByt E.2.2.2.1 E.2.2.2.2 (A0 E) U U.heap ∧
  va_Z "java/lang/String" "COMPACT_STRINGS" "Z" (.int 1) (A0 E) U U.heap ∧ va_Zq "jdk/internal/util/Preconditions" "SIOOBE_FORMATTER" "Ljava/util/function/BiFunction;" (A0 E) U U.heap
def Kn (E : Ev) (U : State) : Prop := va_K E.1 vwCl (tysE E) U ∧ (∀ w ∈ nestW, va_Nw w U) ∧ Sx E U

theorem Kn.next {E : Ev} {s U : State} {H : Heap} {locs : List Loc} {A : Nat → Prop} (h : Kn E s) (hA : ∀ q, A q → A0 E q) (hS : va_S A s.heap H locs) (hU : U.heap = H) (hW : s.WarmedH U.vm) : Kn E U := by
  obtain ⟨h1, h2, h3, h4, h5, h6⟩ := h
  have hq : ∀ a : Nat, a < s.heap.size → ¬ A0 E a → U.heap[a]? = s.heap[a]? := fun a ha hn => by rw [hU]; exact hS.2.1 a ha (fun z => hn (hA a z))
  refine ⟨h1.moved hW.alike, fun w hw => ?_, fun i q hi => (h3 i q hi).warm hW, (h4.moved hW.alike).kept hq, (h5.moved hW.alike).kept hq, (h6.moved hW.alike).kept hq⟩
  have hz := h2 w hw
  simp only [nestW, List.mem_cons, List.not_mem_nil, or_false] at hw
  rcases hw with rfl | rfl | rfl | rfl | rfl | rfl | rfl | rfl | rfl | rfl <;> first | exact hz.warmM hW | exact va_AO.moved hW.alike hz
theorem Kn.blind {E : Ev} {U : State} (g : JFrame) (mk : MethodId) (a : Array Value) (h : Kn E U) : Kn E (U.calling g mk a) := by
  obtain ⟨h1, h2, h3, h4, h5, h6⟩ := h
  refine ⟨h1.moved (u := U) (U := U.calling g mk a) (Vm.Alike.refl U.vm), fun w hw => ?_, fun i q hi => (h3 i q hi).same (u := U) rfl, h4.moved (u := U) (U := U.calling g mk a) (Vm.Alike.refl U.vm), h5.moved (u := U) (U := U.calling g mk a) (Vm.Alike.refl U.vm), h6.moved (u := U) (U := U.calling g mk a) (Vm.Alike.refl U.vm)⟩
  have hz := h2 w hw
  simp only [nestW, List.mem_cons, List.not_mem_nil, or_false] at hw
  rcases hw with rfl | rfl | rfl | rfl | rfl | rfl | rfl | rfl | rfl | rfl <;> first | exact hz.same rfl (u := U) rfl | exact va_AO.moved (u := U) (U := U.calling g mk a) (Vm.Alike.refl U.vm) hz
/-! the judgement -/
abbrev Ct : Type := Program × Launch × Env × Room × State × MethodId × Array Value × List Frame × Method × Code × (Nat → Prop) × (State → Prop) × Ev
abbrev Pq : Type := Option Value → (Ob → Prop) → (Ob → Nat) → Mv → Prop
def rmD (d mc ms : Nat) : Room := { frames := d, cells := mc, slots := ms, locals := 40 * d }
def QG (E : Ev) (P : Pq) (A : Nat → Prop) : Array Value → State → Outcome → State → Prop := fun _ st oc t => (∃ (v : Option Value) (V : Ob → Prop) (ad : Ob → Nat) (ν : Mv), oc = .returned v ∧ P v V ad ν ∧ Wd E V ad ν t.heap ∧ ∀ o, V o → A (ad o)) ∧ va_F A st t
def XX (Γ : Ct) (nL : Nat) (V : Ob → Prop) (ad : Ob → Nat) (ν : Mv) (cs sl : Nat) (pc : Nat) (L : List (Nat × Value)) (st : List Value) : Prop := match Γ with
  | (p, l, e, R, s, m, args, below, meth, c, A, Q, E) => ∀ (H : Heap) (locs : List Loc) (ls : Array Slot), Wd E V ad ν H → (∀ o, V o → A (ad o)) → va_S A s.heap H locs → lv_has ls nL L → W p l e R s m args below meth c H locs cs sl Q (F0 m pc ls st)
/-- what stands fast in a method: the machine, its code, its class, the words, its post, its room; the words of its cells -/
def Fx (Γ : Ct) (cc : ByteArray) (own : String) (nL : Nat) (ret : Option FieldType) (P : Pq) (d mc ms : Nat) : Prop := match Γ with
  | (p, _, _, R, s, m, args, below, meth, c, A, Q, E) => p.tables.exec = Jvm.exec ∧ c.code = cc ∧ c.maxLocals = nL ∧ s.vm.findClass own = some m.cls ∧ (∀ w ∈ wA, w.before args s = true) ∧ meth.locks = false ∧ meth.sig.returnType = ret ∧
    Kn E s ∧ (∀ q, A q → A0 E q) ∧ R = rmD d mc ms ∧ Q = MQ below (QG E P A) args s mc ms A ∧ (0 < mc → ∀ q, s.heap.size ≤ q → A q)
/-- a method's contract, from the world V, ad, ν and the arguments av -/
def ConG (l : Launch) (E : Ev) (d : Nat) (y : MethodName) (cc : ByteArray) (maxL : Nat) (ret : Option FieldType) (A : Nat → Prop) (V : Ob → Prop) (ad : Ob → Nat) (ν : Mv) (mc ms : Nat) (av : List Value) (P : Pq) : Prop :=
  (∀ o, V o → A (ad o)) → (∀ q, A q → A0 E q) → Met l y (Cond.code y cc maxL ret :: wA) (rmD d mc ms) (fun args U => args = av.toArray ∧ Wd E V ad ν U.heap ∧ Kn E U ∧ (0 < mc → ∀ q, U.heap.size ≤ q → A q)) (QG E P A) mc ms A
theorem conG {l : Launch} {E : Ev} {d : Nat} {y : MethodName} {cc : ByteArray} {maxL : Nat} {ret : Option FieldType} {A : Nat → Prop} {V : Ob → Prop} {ad : Ob → Nat} {ν : Mv} {mc ms : Nat} {av : List Value} {P : Pq} {own : String}
    (hy : plainName y.cls = true) (ho : y.cls = own) (hn : (lg_sl av).length ≤ maxL) {L : List (Nat × Value)} (hL : lv_args 0 av = L)
    (body : ∀ Γ : Ct, Fx Γ cc own maxL ret P d mc ms → Γ.2.1 = l → Γ.2.2.2.2.2.2.2.2.2.2.2.2 = E → XX Γ maxL V ad ν 0 0 0 L []) : ConG l E d y cc maxL ret A V ad ν mc ms av P := by
  intro hA hA0
  refine Met.ofW (cc := cc) (maxL := maxL) (ret := ret) hy rfl ?_
  intro p e s m args below meth c s₁ B hml hv
  obtain ⟨rfl, hW, hK, hz⟩ := hv
  have hts := atoms_spec (ws := Cond.code y cc maxL ret :: wA) B.pre
  have hown : s.vm.findClass own = some m.cls := by rw [← ho]; exact findClass_of_methodNamed B.named
  have h := body (p, l, e, rmD d mc ms, s, m, av.toArray, below, meth, c, A, MQ below (QG E P A) av.toArray s mc ms A, E) ⟨B.exec, B.bytes, hml, hown, fun w hw => hts w (List.mem_cons_of_mem _ hw), B.notSynchronized, B.returns, hK, hA0, rfl, rfl, hz⟩ rfl rfl
  have hl := lv_entry av (n := maxL) hn
  rw [lg_entry_eq]
  subst hL
  exact h s.heap [] _ hW hA va_S.rf hl
/-- locals: the value at a place -/
def lkp : List (Nat × Value) → Nat → Option Value
  | [], _ => none
  | q :: r, i => cond (Nat.beq q.1 i) (some q.2) (lkp r i)
theorem lkp_ok {ls : Array Slot} {n : Nat} {L : List (Nat × Value)} {i : Nat} {v : Value} (h : lv_has ls n L) (hk : lkp L i = some v) : ls[i]? = some (.val v) := by
  obtain ⟨-, -, h⟩ := h
  induction L with
  | nil => cases hk
  | cons q r ih =>
    simp only [lkp] at hk
    cases hb : Nat.beq q.1 i with
    | true =>
      rw [hb] at hk
      cases hk
      have := h q List.mem_cons_self
      rwa [Nat.eq_of_beq_eq_true hb] at this
    | false =>
      rw [hb] at hk
      exact ih hk (fun q hq => h q (List.mem_cons_of_mem _ hq))
def v2 : Value → Bool
  | .long _ => true
  | .double _ => true
  | _ => false
/-- what a store of one slot, or two, at i leaves of the listed locals -/
def er1 (i : Nat) : List (Nat × Value) → List (Nat × Value)
  | [] => []
  | q :: r => cond (Nat.beq q.1 i || (Nat.beq (q.1 + 1) i && v2 q.2)) (er1 i r) (q :: er1 i r)
def er2 (i : Nat) : List (Nat × Value) → List (Nat × Value)
  | [] => []
  | q :: r => cond (Nat.beq q.1 i || Nat.beq q.1 (i + 1) || (Nat.beq (q.1 + 1) i && v2 q.2)) (er2 i r) (q :: er2 i r)
theorem v2_cat (v : Value) : (v.category == 2) = v2 v := by cases v <;> rfl
theorem beq_n (a b : Nat) : (a == b) = Nat.beq a b := by
  cases h : Nat.beq a b with
  | true => rw [Nat.eq_of_beq_eq_true h]; simp
  | false => simpa using Nat.ne_of_beq_eq_false h
theorem er1_eq (i : Nat) (L : List (Nat × Value)) : L.filter (fun q => !(q.1 == i) && !(q.1 + 1 == i && q.2.category == 2)) = er1 i L := by
  induction L with
  | nil => rfl
  | cons q r ih =>
    rw [List.filter_cons, ih]
    simp only [er1, v2_cat]
    simp only [beq_n]
    cases Nat.beq q.1 i <;> cases Nat.beq (q.1 + 1) i <;> cases v2 q.2 <;> rfl
theorem er2_eq (i : Nat) (L : List (Nat × Value)) : L.filter (fun q => !(q.1 == i) && (!(q.1 == i + 1) && !(q.1 + 1 == i && q.2.category == 2))) = er2 i L := by
  induction L with
  | nil => rfl
  | cons q r ih =>
    rw [List.filter_cons, ih]
    simp only [er2, v2_cat]
    simp only [beq_n]
    cases Nat.beq q.1 i <;> cases Nat.beq q.1 (i + 1) <;> cases Nat.beq (q.1 + 1) i <;> cases v2 q.2 <;> rfl
/-- each listed local of L' stands in L -/
def SubL (L : List (Nat × Value)) : List (Nat × Value) → Prop
  | [] => True
  | q :: r => lkp L q.1 = some q.2 ∧ SubL L r
theorem subL_ok {ls : Array Slot} {n : Nat} {L : List (Nat × Value)} (h : lv_has ls n L) : ∀ L' : List (Nat × Value), SubL L L' → lv_has ls n L'
  | [], _ => ⟨h.1, h.2.1, fun q hq => by cases hq⟩
  | q :: r, ⟨h1, h2⟩ => ⟨h.1, h.2.1, fun x hx => by
      rcases List.mem_cons.mp hx with rfl | hx
      · exact lkp_ok h h1
      · exact (subL_ok h r h2).2.2 x hx⟩
