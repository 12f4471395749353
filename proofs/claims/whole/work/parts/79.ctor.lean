/-! ===== constructors: what they make ===== -/
/-- slots by names: inl as in sk, inr the object -/
def skn (o : Ob) (k : Nat) : Nat ⊕ Ob := match o.1 with
  | 0 => match k with
    | 0 => .inr (1, 0, 0)
    | 1 => .inr (1, 1, 0)
    | 2 => .inr (1, 2, 0)
    | 4 => .inr (15, 0, 0)
    | 5 => .inr (17, 0, 0)
    | 7 => .inr (18, 0, 0)
    | 9 => .inr (19, 0, 0)
    | 10 => .inr (2, 3, 0)
    | 11 => .inr (4, 3, 0)
    | 12 => .inr (22, 0, 0)
    | 13 => .inr (23, 0, 0)
    | _ => .inl 0
  | 1 => match k with
    | 0 => .inr (10, o.2.1, 0)
    | 1 => .inr (11, o.2.1, 0)
    | 2 => .inr (6, o.2.1, 0)
    | 3 => .inr (6, o.2.1, 1)
    | 4 => .inr (6, o.2.1, 2)
    | 7 => .inl 2
    | _ => .inl 0
  | 2 => match k with
    | 0 => .inr (3, o.2.1, o.2.2)
    | _ => .inl 0
  | 4 => match k with
    | 7 => .inr (5, o.2.1, o.2.2)
    | _ => .inl 0
  | 6 => match k with
    | 0 => .inr (7, o.2.1, o.2.2)
    | 1 => .inr (8, o.2.1, o.2.2)
    | 2 => .inr (9, o.2.1, o.2.2)
    | _ => .inl 0
  | 10 => .inr (2, o.2.1, k)
  | 11 => .inr (4, o.2.1, k)
  | 12 => match k with
    | 0 => .inr (13, o.2.1, 0)
    | 1 => .inr (14, o.2.1, 0)
    | _ => .inl 0
  | 15 => match k with
    | 0 => .inr (16, 0, 0)
    | 3 => .inl 2
    | _ => .inl 0
  | 17 => .inl 2
  | 19 => .inr (20, k, 0)
  | 20 => match k with
    | 0 => .inr (21, o.2.1, 0)
    | _ => .inl 0
  | 21 => .inl 1
  | 30 => match k with
    | 0 => .inr (31, 0, 0)
    | 1 => .inr (32, 0, 0)
    | 2 => .inr (33, 0, 0)
    | 4 => .inr (34, 0, 0)
    | 6 => .inr (35, 0, 0)
    | 7 => .inr (36, 0, 0)
    | 9 => .inr (37, 0, 0)
    | 17 => .inr (38, 0, 0)
    | 18 => .inr (39, 0, 0)
    | 19 => .inr (40, 0, 0)
    | 20 => .inr (41, 0, 0)
    | 21 => .inr (42, 0, 0)
    | 23 => .inr (43, 0, 0)
    | 24 => .inr (44, 0, 0)
    | 25 => .inr (45, 0, 0)
    | 26 => .inr (46, 0, 0)
    | 28 => .inr (47, 0, 0)
    | 29 => .inr (48, 0, 0)
    | 30 => .inr (49, 0, 0)
    | 31 => .inr (50, 0, 0)
    | _ => .inl 0
  | 49 => .inl 1
  | 50 => .inl 1
  | _ => .inl 0
def mpn (ad : Ob → Nat) (q : Nat ⊕ Ob) : Nat ⊕ Value := match q with
  | .inl t => .inl t
  | .inr o' => .inr (.ref (ad o'))
theorem sk_n0 (ad : Ob → Nat) (i j : Int) : ∀ k : Nat, sk ad (0, i, j) k = mpn ad (skn (0, i, j) k)
  | 0 => rfl
  | 1 => rfl
  | 2 => rfl
  | 3 => rfl
  | 4 => rfl
  | 5 => rfl
  | 6 => rfl
  | 7 => rfl
  | 8 => rfl
  | 9 => rfl
  | 10 => rfl
  | 11 => rfl
  | 12 => rfl
  | 13 => rfl
  | _ + 14 => rfl
theorem sk_n1 (ad : Ob → Nat) (i j : Int) : ∀ k : Nat, sk ad (1, i, j) k = mpn ad (skn (1, i, j) k)
  | 0 => rfl
  | 1 => rfl
  | 2 => rfl
  | 3 => rfl
  | 4 => rfl
  | 5 => rfl
  | 6 => rfl
  | 7 => rfl
  | _ + 8 => rfl
theorem sk_n2 (ad : Ob → Nat) (i j : Int) : ∀ k : Nat, sk ad (2, i, j) k = mpn ad (skn (2, i, j) k)
  | 0 => rfl
  | _ + 1 => rfl
theorem sk_n4 (ad : Ob → Nat) (i j : Int) : ∀ k : Nat, sk ad (4, i, j) k = mpn ad (skn (4, i, j) k)
  | 0 => rfl
  | 1 => rfl
  | 2 => rfl
  | 3 => rfl
  | 4 => rfl
  | 5 => rfl
  | 6 => rfl
  | 7 => rfl
  | _ + 8 => rfl
theorem sk_n6 (ad : Ob → Nat) (i j : Int) : ∀ k : Nat, sk ad (6, i, j) k = mpn ad (skn (6, i, j) k)
  | 0 => rfl
  | 1 => rfl
  | 2 => rfl
  | _ + 3 => rfl
theorem sk_n12 (ad : Ob → Nat) (i j : Int) : ∀ k : Nat, sk ad (12, i, j) k = mpn ad (skn (12, i, j) k)
  | 0 => rfl
  | 1 => rfl
  | _ + 2 => rfl
theorem sk_n15 (ad : Ob → Nat) (i j : Int) : ∀ k : Nat, sk ad (15, i, j) k = mpn ad (skn (15, i, j) k)
  | 0 => rfl
  | 1 => rfl
  | 2 => rfl
  | 3 => rfl
  | _ + 4 => rfl
theorem sk_n20 (ad : Ob → Nat) (i j : Int) : ∀ k : Nat, sk ad (20, i, j) k = mpn ad (skn (20, i, j) k)
  | 0 => rfl
  | _ + 1 => rfl
theorem sk_n30 (ad : Ob → Nat) (i j : Int) : ∀ k : Nat, sk ad (30, i, j) k = mpn ad (skn (30, i, j) k)
  | 0 => rfl
  | 1 => rfl
  | 2 => rfl
  | 3 => rfl
  | 4 => rfl
  | 5 => rfl
  | 6 => rfl
  | 7 => rfl
  | 8 => rfl
  | 9 => rfl
  | 10 => rfl
  | 11 => rfl
  | 12 => rfl
  | 13 => rfl
  | 14 => rfl
  | 15 => rfl
  | 16 => rfl
  | 17 => rfl
  | 18 => rfl
  | 19 => rfl
  | 20 => rfl
  | 21 => rfl
  | 22 => rfl
  | 23 => rfl
  | 24 => rfl
  | 25 => rfl
  | 26 => rfl
  | 27 => rfl
  | 28 => rfl
  | 29 => rfl
  | 30 => rfl
  | 31 => rfl
  | _ + 32 => rfl
theorem sk_n (ad : Ob → Nat) (o : Ob) (k : Nat) : sk ad o k = mpn ad (skn o k) := by
  obtain ⟨t, i, j⟩ := o
  unfold sk skn
  dsimp only
  split <;> first | rfl | exact sk_n0 ad i j k | exact sk_n1 ad i j k | exact sk_n2 ad i j k | exact sk_n4 ad i j k | exact sk_n6 ad i j k | exact sk_n12 ad i j k | exact sk_n15 ad i j k | exact sk_n20 ad i j k | exact sk_n30 ad i j k | (split <;> first | rfl | (exfalso; simp_all; done))
/-- the typed memory at the start: all 0 but these -/
def mu0 : Me := fun o k => match o.1 with
  | 1 => if k = 7 then 6 else 0
  | 4 => if k = 0 then o.2.2 else 0
  | 12 => if k = 3 then 10 else 0
  | 15 => if k = 3 then 7 else 0
  | 17 => 7
  | 20 => if k = 1 then -1 else 0
  | 39 => ltr k
  | 40 => (wdL (k / 6)).getD (k % 6).toNat 0
  | 44 => abvL.getD k.toNat 0
  | 45 => bodL.getD k.toNat 0
  | 47 => -1
  | _ => 0
def κ0 (o : Ob) (k : Nat) : RV := match skn o k with
  | .inl 0 => rvI (mu0 o k)
  | .inl 1 => rvJ (mu0 o k)
  | .inl _ => if mu0 o k = 7 then rvN else rvO (12, mu0 o k, 0)
  | .inr o' => rvO o'
theorem nv_κ0 (ad : Ob → Nat) : nv ad κ0 = vl ad mu0 := by
  funext o k
  unfold nv vl κ0
  rw [sk_n]
  cases h : skn o k with
  | inl t =>
    rcases (show t = 0 ∨ t = 1 ∨ ∃ n, t = n + 2 by
      rcases t with _ | _ | t
      · exact Or.inl rfl
      · exact Or.inr (Or.inl rfl)
      · exact Or.inr (Or.inr ⟨t, rfl⟩)) with rfl | rfl | ⟨n, rfl⟩
    · rfl
    · rfl
    · show rval ad (if mu0 o k = 7 then rvN else rvO (12, mu0 o k, 0)) = hvl ad (mu0 o k)
      unfold hvl
      split <;> rfl
  | inr o' => rfl
/-- blank -/
def dfl (o : Ob) (k : Nat) : RV := match skn o k with
  | .inl 0 => rvI 0
  | .inl 1 => rvJ 0
  | _ => rvN
theorem dfl_no (o : Ob) (k : Nat) (o' : Ob) : dfl o k ≠ rvO o' := by
  unfold dfl
  split <;> intro h <;> cases h
noncomputable def cit (p : Prop) (a b : RV) : RV := @ite RV p (Classical.propDecidable p) a b
theorem cit_t {p : Prop} {a b : RV} (h : p) : cit p a b = a := by unfold cit; rw [if_pos h]
theorem cit_f {p : Prop} {a b : RV} (h : ¬ p) : cit p a b = b := by unfold cit; rw [if_neg h]
/-- the objects of S are as at the start -/
noncomputable def ovr (S : Ob → Prop) (κ : Ka) : Ka := fun o k => cit (S o) (κ0 o k) (κ o k)
/-- in a constructor of o0: what is in S is made, the fields in T are set -/
noncomputable def kS (S : Ob → Prop) (T : Nat → Prop) (o0 : Ob) (κ : Ka) : Ka := fun o k => cit (S o) (κ0 o k) (cit (o = o0) (cit (T k) (κ0 o k) (dfl o k)) (κ o k))
def kq (V : Ob → Prop) (κ κ2 : Ka) : Prop := ∀ o, V o → ∀ k, k < nsl o → κ o k = κ2 o k
theorem clo.co {V V2 : Ob → Prop} {κ κ2 : Ka} (h : clo V κ) (hV : ∀ o, V2 o ↔ V o) (hk : kq V2 κ κ2) : clo V2 κ2 := fun o ho k hk2 o' he => (hV o').mpr (h o ((hV o).mp ho) k hk2 o' (by rw [hk o ho k hk2]; exact he))
theorem kq.nv {V : Ob → Prop} {κ κ2 : Ka} (h : kq V κ κ2) (ad : Ob → Nat) : ∀ o, V o → ∀ k, k < nsl o → nv ad κ o k = nv ad κ2 o k := fun o ho k hk => by unfold _root_.Jvm.Pilot.CGatesBentLaw_law_r3804_2b00ad.nv; rw [h o ho k hk]
/-- a constructor's end -/
def ctP (V : Ob → Prop) (ad : Ob → Nat) (κ : Ka) (N : Ob → Prop) (o1 : Ob) : Pq := fun v V' ad' ν' => v = none ∧ V' = (fun o => V o ∨ N o) ∧ (∀ o, V o → ad' o = ad o) ∧ clo V' (ovr (fun o => o = o1 ∨ N o) κ) ∧ ν' = nv ad' (ovr (fun o => o = o1 ∨ N o) κ)
def ctor (l : Launch) (E : Ev) (d : Nat) (mi : Mi) (A : Nat → Prop) (V : Ob → Prop) (ad : Ob → Nat) (κ : Ka) (N : Ob → Prop) (o1 : Ob) (av : List Value) (mc ms : Nat) : Prop := ConG l E d mi.1 mi.2.1 mi.2.2.1 mi.2.2.2 A V ad (nv ad κ) mc ms av (ctP V ad κ N o1)
theorem conI {l : Launch} {E : Ev} {d : Nat} {y : MethodName} {cc : ByteArray} {maxL : Nat} {ret : Option FieldType} {A : Nat → Prop} {V : Ob → Prop} {ad : Ob → Nat} {ν : Mv} {mc ms : Nat} {av : List Value} {P : Pq} {own : String}
    (hy : plainName y.cls = true) (ho : y.cls = own) (hnm : y.name = "<init>") (hn : Nat.ble (lg_sl av).length maxL = true) {L : List (Nat × Value)} (hL : lv_args 0 av = L)
    (body : ∀ Γ : Ct, Fx Γ cc own maxL ret P d mc ms → Γ.2.2.2.2.2.2.2.2.1.name = "<init>" → XX Γ maxL V ad ν 0 0 0 L []) : ConG l E d y cc maxL ret A V ad ν mc ms av P := by
  intro hA hA0
  refine Met.ofW (cc := cc) (maxL := maxL) (ret := ret) hy rfl ?_
  intro p e s m args below meth c s₁ B hml hv
  obtain ⟨rfl, hW, hK, hz⟩ := hv
  have hts := atoms_spec (ws := Cond.code y cc maxL ret :: wA) B.pre
  have hown : s.vm.findClass own = some m.cls := by rw [← ho]; exact findClass_of_methodNamed B.named
  have hin : meth.name = "<init>" := by rw [(name_of_methodNamed B.named B.method).1, hnm]
  have h := body (p, l, e, rmD d mc ms, s, m, av.toArray, below, meth, c, A, MQ below (QG E P A) av.toArray s mc ms A, E) ⟨B.exec, B.bytes, hml, hown, fun w hw => hts w (List.mem_cons_of_mem _ hw), B.notSynchronized, B.returns, hK, hA0, rfl, rfl, hz⟩ hin
  have hl := lv_entry av (n := maxL) (Nat.le_of_ble_eq_true hn)
  rw [lg_entry_eq]
  subst hL
  exact h s.heap [] _ hW hA va_S.rf hl
def LkI (own : String) (idx : Nat) (mi : Mi) (n : Nat) : Prop :=
  Cond.methodLink own idx mi.1 ∈ wA ∧ Cond.instanceMethod mi.1 ∈ wA ∧ Cond.initialized mi.1.cls ∈ wA ∧ Cond.code mi.1 mi.2.1 mi.2.2.1 mi.2.2.2 ∈ wA ∧ (mi.1.cls ≠ "java/lang/invoke/MethodHandle" ∧ mi.1.cls ≠ "java/lang/invoke/VarHandle") ∧ (parseMethodDescriptor mi.1.desc).map (fun d => d.parameters.length) = some n ∧ Nat.ble mi.2.2.1 21 = true ∧ mi.1.name = "<init>" ∧ mi.2.2.2 = none
def LkIN (own : String) (idx : Nat) (mi : Mi) (host : String) (n : Nat) : Prop :=
  Cond.methodLinkNest own idx mi.1 host ∈ nestW ∧ Cond.instanceMethod mi.1 ∈ wA ∧ Cond.initialized mi.1.cls ∈ wA ∧ Cond.code mi.1 mi.2.1 mi.2.2.1 mi.2.2.2 ∈ wA ∧ (mi.1.cls ≠ "java/lang/invoke/MethodHandle" ∧ mi.1.cls ≠ "java/lang/invoke/VarHandle") ∧ (parseMethodDescriptor mi.1.desc).map (fun d => d.parameters.length) = some n ∧ Nat.ble mi.2.2.1 21 = true ∧ mi.1.name = "<init>" ∧ mi.2.2.2 = none
section CTR
variable {Γ : Ct} {cc : ByteArray} {own : String} {nL : Nat} {ret : Option FieldType} {P : Pq} {d mc ms : Nat} {V V2 : Ob → Prop} {ad ad2 : Ob → Nat} {ν ν2 : Mv} {κ : Ka} {cs sl pc : Nat} {L : List (Nat × Value)} {st st0 : List Value} {o o0 : Ob} {mi : Mi} {n idx d2 mc2 ms2 : Nat} {As : List Value} {P2 : Pq} {S N1 : Ob → Prop} {T : Nat → Prop}
theorem x_callI (F : Fx Γ cc own nL ret P d mc ms) (dd : decode cc pc = .ok (.invokespecial idx, 3)) (hL : LkI own idx mi n) (hn : As.length = n) (hst : st0 = As.reverse ++ .ref (ad o) :: st) (hcat : Nat.ble ((st.map fun v => v.category).sum) 8 = true) (hd : d2 + 1 ≤ d) (hmc : cs + mc2 ≤ mc) (hms : sl + ms2 ≤ ms) (hzz : 0 < mc ∨ mc2 = 0)
    (hM : ∀ (l : Launch) (E : Ev) (A : Nat → Prop), ConG l E d2 mi.1 mi.2.1 mi.2.2.1 mi.2.2.2 A V ad ν mc2 ms2 (.ref (ad o) :: As) P2) (kk : ∀ (v : Option Value) (V' : Ob → Prop) (ad' : Ob → Nat) (ν' : Mv), P2 v V' ad' ν' → XX Γ nL V' ad' ν' (cs + mc2) (sl + ms2) (pc + 3) L (v.toList ++ st)) : XX Γ nL V ad ν cs sl pc L st0 := by
  obtain ⟨p, l, e, R, s, m, args, below, meth, c, A, Q, E⟩ := Γ
  obtain ⟨hx, hb, hml, hown, hts, hlok, hr, hK, hA0, hR, hQ, hzz⟩ := F
  obtain ⟨w1, w2, w4, w5, w7, w8, w9, w10, w11⟩ := hL
  have w9 := Nat.le_of_ble_eq_true w9
  intro H locs ls hW hV hS hl
  subst hR
  have CB : CallB (rmD d mc ms) s args own idx mi.1 mi.2.1 mi.2.2.1 mi.2.2.2 (Cond.code mi.1 mi.2.1 mi.2.2.1 mi.2.2.2 :: wA) (rmD d2 mc2 ms2) mc2 ms2 n := callB_of n hts (gi_code w5) rfl rfl rfl (hts _ w4) (hts _ w1) ⟨w7.1, w7.2, w8⟩ ⟨hd, by show 8 + (mi.2.2.1 + 11) + 40 * d2 ≤ 40 * d; omega⟩
  have hM' := hM l E A hV hA0
  rw [w11] at CB hM'
  refine q_back (va_runI (As := As) (rest := st) (b := ad o) ⟨hx, hb, hml, hown, hts⟩ hM' ⟨CB, w10, hts _ w2⟩ ⟨PcG.blind, fun U hU hw => ⟨rfl, by rw [hU]; exact hW, hK.next hA0 hS hU hw, fun hz q hq => hzz (by omega) q (Nat.le_trans hS.1 (by rw [← hU]; exact hq))⟩⟩ rfl hn hl.1 hst (lv_room (Nat.le_of_ble_eq_true hcat)) dd ⟨hmc, hms⟩) hS ?_
  intro v V' ad' ν' H1 locs1 hP hW1 hV1 hS1
  exact kk v V' ad' ν' hP H1 locs1 ls hW1 hV1 hS1 hl
theorem x_callIN {host : String} (F : Fx Γ cc own nL ret P d mc ms) (dd : decode cc pc = .ok (.invokespecial idx, 3)) (hL : LkIN own idx mi host n) (hn : As.length = n) (hst : st0 = As.reverse ++ .ref (ad o) :: st) (hcat : Nat.ble ((st.map fun v => v.category).sum) 8 = true) (hd : d2 + 1 ≤ d) (hmc : cs + mc2 ≤ mc) (hms : sl + ms2 ≤ ms) (hzz : 0 < mc ∨ mc2 = 0)
    (hM : ∀ (l : Launch) (E : Ev) (A : Nat → Prop), ConG l E d2 mi.1 mi.2.1 mi.2.2.1 mi.2.2.2 A V ad ν mc2 ms2 (.ref (ad o) :: As) P2) (kk : ∀ (v : Option Value) (V' : Ob → Prop) (ad' : Ob → Nat) (ν' : Mv), P2 v V' ad' ν' → XX Γ nL V' ad' ν' (cs + mc2) (sl + ms2) (pc + 3) L (v.toList ++ st)) : XX Γ nL V ad ν cs sl pc L st0 := by
  obtain ⟨p, l, e, R, s, m, args, below, meth, c, A, Q, E⟩ := Γ
  obtain ⟨hx, hb, hml, hown, hts, hlok, hr, hK, hA0, hR, hQ, hzz⟩ := F
  obtain ⟨w1, w2, w4, w5, w7, w8, w9, w10, w11⟩ := hL
  have w9 := Nat.le_of_ble_eq_true w9
  intro H locs ls hW hV hS hl
  subst hR
  have CB : va_CN (rmD d mc ms) s args own idx mi.1 host mi.2.1 mi.2.2.1 mi.2.2.2 (Cond.code mi.1 mi.2.1 mi.2.2.1 mi.2.2.2 :: wA) (rmD d2 mc2 ms2) mc2 ms2 n := va_cnB n hts (gi_code w5) rfl rfl rfl (hK.2.1 _ w1) (hts _ w4) ⟨w7.1, w7.2, w8⟩ ⟨hd, by show 8 + (mi.2.2.1 + 11) + 40 * d2 ≤ 40 * d; omega⟩
  have hM' := hM l E A hV hA0
  rw [w11] at CB hM'
  refine q_back (va_runIN (As := As) (rest := st) (b := ad o) ⟨hx, hb, hml, hown, hts⟩ hM' ⟨CB, w10, hts _ w2⟩ ⟨PcG.blind, fun U hU hw => ⟨rfl, by rw [hU]; exact hW, hK.next hA0 hS hU hw, fun hz q hq => hzz (by omega) q (Nat.le_trans hS.1 (by rw [← hU]; exact hq))⟩⟩ rfl hn hl.1 hst (lv_room (Nat.le_of_ble_eq_true hcat)) dd ⟨hmc, hms⟩) hS ?_
  intro v V' ad' ν' H1 locs1 hP hW1 hV1 hS1
  exact kk v V' ad' ν' hP H1 locs1 ls hW1 hV1 hS1 hl
/-- newarray, all zero at the start -/
theorem kc_A {atype : ArrayType} {ti k1 : Nat} {z : Int} (f : RV) (F : Fx Γ cc own nL ret P d mc ms) (dd : decode cc pc = .ok (.newarray atype, 2)) (hat : newarray.typeOf atype = tyA ti) (ht : ti < 4) (hw : Cond.arrayClass (tyA ti) ∈ wA) (hdf : ∀ ad : Ob → Nat, defaultValue (tyA ti) = rval ad f) (hf : ∀ o', f ≠ rvO o') (hclo : clo (fun o => V o ∨ S o) (kS S T o0 κ)) (hno : ¬ V o) (hnS : ¬ S o) (hs : shp o = .inr (ti, k1)) (hz : z = k1) (hn : k1 ≤ 10000) (h0 : ∀ k, k < k1 → κ0 o k = f) (hmc : cs + 1 ≤ mc) (hms : sl + k1 ≤ ms)
    (kk : ∀ ad' : Ob → Nat, (∀ o', V o' ∨ S o' → ad' o' = ad o') → clo (fun o' => V o' ∨ (S o' ∨ o' = o)) (kS (fun o' => S o' ∨ o' = o) T o0 κ) → XX Γ nL (fun o' => V o' ∨ (S o' ∨ o' = o)) ad' (nv ad' (kS (fun o' => S o' ∨ o' = o) T o0 κ)) (cs + 1) (sl + k1) (pc + 2) L (.ref (ad' o) :: st)) : XX Γ nL (fun o => V o ∨ S o) ad (nv ad (kS S T o0 κ)) cs sl pc L (.int (I z) :: st) := by
  refine x_newA (o := o) f F dd hat ht hw hdf hf hclo (fun h => h.elim hno hnS) hs hz hn hmc hms (fun ad' e1 c1 => ?_)
  have hiff : ∀ o', (V o' ∨ (S o' ∨ o' = o)) ↔ ((V o' ∨ S o') ∨ o' = o) := fun o' => by rw [or_assoc]
  have hq : kq (fun o' => V o' ∨ (S o' ∨ o' = o)) (kN (kS S T o0 κ) o (fun _ => f)) (kS (fun o' => S o' ∨ o' = o) T o0 κ) := fun o' ho' k hk => by
    unfold kN kS
    by_cases e : o' = o
    · subst e
      rw [nsl_arr hs] at hk
      rw [if_pos rfl, cit_t (Or.inr rfl), h0 k hk]
    · rw [if_neg e]
      by_cases hS' : S o'
      · rw [cit_t hS', cit_t (Or.inl hS')]
      · rw [cit_f hS', cit_f (p := S o' ∨ o' = o) (fun h => h.elim hS' e)]
  exact XX.co (fun o' h => (hiff o').mp h) (fun _ _ => rfl) (hq.nv ad') (kk ad' e1 (c1.co hiff hq))
theorem kc_Q {C : String} {ti k1 : Nat} {z : Int} (F : Fx Γ cc own nL ret P d mc ms) (dd : decode cc pc = .ok (.anewarray idx, 3)) (hat : tyA ti = .object C) (ht : ti < 8) (hcl : Cond.classLink own idx C ∈ wA) (hov : Cond.arrayOver (.object C) ∈ nestW) (hclo : clo (fun o => V o ∨ S o) (kS S T o0 κ)) (hno : ¬ V o) (hnS : ¬ S o) (hs : shp o = .inr (ti, k1)) (hz : z = k1) (hn : k1 ≤ 10000) (h0 : ∀ k, k < k1 → κ0 o k = rvN) (hmc : cs + 1 ≤ mc) (hms : sl + k1 ≤ ms)
    (kk : ∀ ad' : Ob → Nat, (∀ o', V o' ∨ S o' → ad' o' = ad o') → clo (fun o' => V o' ∨ (S o' ∨ o' = o)) (kS (fun o' => S o' ∨ o' = o) T o0 κ) → XX Γ nL (fun o' => V o' ∨ (S o' ∨ o' = o)) ad' (nv ad' (kS (fun o' => S o' ∨ o' = o) T o0 κ)) (cs + 1) (sl + k1) (pc + 3) L (.ref (ad' o) :: st)) : XX Γ nL (fun o => V o ∨ S o) ad (nv ad (kS S T o0 κ)) cs sl pc L (.int (I z) :: st) := by
  refine x_anew (o := o) F dd hat ht hcl hov hclo (fun h => h.elim hno hnS) hs hz hn hmc hms (fun ad' e1 c1 => ?_)
  have hiff : ∀ o', (V o' ∨ (S o' ∨ o' = o)) ↔ ((V o' ∨ S o') ∨ o' = o) := fun o' => by rw [or_assoc]
  have hq : kq (fun o' => V o' ∨ (S o' ∨ o' = o)) (kN (kS S T o0 κ) o (fun _ => rvN)) (kS (fun o' => S o' ∨ o' = o) T o0 κ) := fun o' ho' k hk => by
    unfold kN kS
    by_cases e : o' = o
    · subst e
      rw [nsl_arr hs] at hk
      rw [if_pos rfl, cit_t (Or.inr rfl), h0 k hk]
    · rw [if_neg e]
      by_cases hS' : S o'
      · rw [cit_t hS', cit_t (Or.inl hS')]
      · rw [cit_f hS', cit_f (p := S o' ∨ o' = o) (fun h => h.elim hS' e)]
  exact XX.co (fun o' h => (hiff o').mp h) (fun _ _ => rfl) (hq.nv ad') (kk ad' e1 (c1.co hiff hq))
/-- a field of o0 set to what it is at the start -/
theorem kS_put {k : Nat} {r : RV} (hnS : ¬ S o0) (hr : κ0 o0 k = r) (hr2 : ∀ o', r = rvO o' → V o' ∨ S o') (hclo : clo (fun o => V o ∨ S o) (kS S T o0 κ)) : kq (fun o => V o ∨ S o) (kU (kS S T o0 κ) o0 k r) (kS S (fun j => T j ∨ j = k) o0 κ) ∧ clo (fun o => V o ∨ S o) (kS S (fun j => T j ∨ j = k) o0 κ) := by
  have hq : kq (fun o => V o ∨ S o) (kU (kS S T o0 κ) o0 k r) (kS S (fun j => T j ∨ j = k) o0 κ) := fun o' ho' k' hk => by
    unfold kU kS
    by_cases e : o' = o0 ∧ k' = k
    · obtain ⟨rfl, rfl⟩ := e
      rw [if_pos ⟨rfl, rfl⟩, cit_f hnS, cit_t rfl, cit_t (Or.inr rfl), hr]
    · rw [if_neg e]
      by_cases hS' : S o'
      · rw [cit_t hS', cit_t hS']
      · rw [cit_f hS', cit_f hS']
        by_cases e2 : o' = o0
        · rw [cit_t e2, cit_t e2]
          have e3 : k' ≠ k := fun z => e ⟨e2, z⟩
          by_cases e4 : T k'
          · rw [cit_t e4, cit_t (Or.inl e4)]
          · rw [cit_f e4, cit_f (fun h => h.elim e4 e3)]
        · rw [cit_f e2, cit_f e2]
  exact ⟨hq, (clo_U hclo hr2).co (fun _ => Iff.rfl) hq⟩
theorem kc_P {C : String} {Tf : u_T} {N ci : Nat} {k : Nat} {r : RV} {v : Value} (hnS : ¬ S o0) (hV0 : V o0) (hclo : clo (fun o => V o ∨ S o) (kS S T o0 κ)) (hr : κ0 o0 k = r) (hr2 : ∀ o', r = rvO o' → V o' ∨ S o') (hv : rval ad r = v) (F : Fx Γ cc own nL ret P d mc ms) (dd : decode cc pc = .ok (.putfield idx, 3)) (hc : vwCl[ci]? = some (C, Tf, N)) (hin : ∀ w ∈ u_ws C Tf N, w ∈ lw_tbl ∧ goodWord w = true) (ty0 : Nat → FieldType) (hty : ∀ k, k < N → parseFieldDescriptor (Tf k).2.2.1 = some (ty0 k)) (hnm : ∀ a, a < N → ∀ b, b < N → a ≠ b → (Tf a).2.1 ≠ (Tf b).2.1) (hk : k < N) (hlk : Cond.fieldLink own idx C (Tf k).2.1 (Tf k).2.2.1 ∈ wA) (hO : (Tf k).1 = C) (hfin : (Tf k).2.2.2 = false) (hs : shp o0 = .inl ci) (hn : narrow (ty0 k) v = v) (hfit : fits (ty0 k) v = true)
    (kk : clo (fun o => V o ∨ S o) (kS S (fun j => T j ∨ j = k) o0 κ) → XX Γ nL (fun o => V o ∨ S o) ad (nv ad (kS S (fun j => T j ∨ j = k) o0 κ)) cs sl (pc + 3) L st) : XX Γ nL (fun o => V o ∨ S o) ad (nv ad (kS S T o0 κ)) cs sl pc L (v :: .ref (ad o0) :: st) := by
  subst hv
  obtain ⟨hq, hc2⟩ := kS_put hnS hr hr2 hclo
  refine x_put (V := fun o => V o ∨ S o) (o := o0) F dd hc hin ty0 hty hnm k hk hlk hO hfin (Or.inl hV0) hs hn hfit ?_
  rw [upV_nv]
  exact XX.co (fun _ h => h) (fun _ _ => rfl) (hq.nv ad) (kk hc2)
theorem kc_F {C : String} {Tf : u_T} {N ci : Nat} {k : Nat} {r : RV} {v : Value} (hnS : ¬ S o0) (hV0 : V o0) (hclo : clo (fun o => V o ∨ S o) (kS S T o0 κ)) (hr : κ0 o0 k = r) (hr2 : ∀ o', r = rvO o' → V o' ∨ S o') (hv : rval ad r = v) (F : Fx Γ cc own nL ret P d mc ms) (hin2 : Γ.2.2.2.2.2.2.2.2.1.name = "<init>") (dd : decode cc pc = .ok (.putfield idx, 3)) (hc : vwCl[ci]? = some (C, Tf, N)) (hin : ∀ w ∈ u_ws C Tf N, w ∈ lw_tbl ∧ goodWord w = true) (ty0 : Nat → FieldType) (hty : ∀ k, k < N → parseFieldDescriptor (Tf k).2.2.1 = some (ty0 k)) (hnm : ∀ a, a < N → ∀ b, b < N → a ≠ b → (Tf a).2.1 ≠ (Tf b).2.1) (hk : k < N) (hlk : Cond.fieldLink own idx C (Tf k).2.1 (Tf k).2.2.1 ∈ wA) (hO : (Tf k).1 = C) (hdecl : C = own) (hfin : (Tf k).2.2.2 = true) (hs : shp o0 = .inl ci) (hn : narrow (ty0 k) v = v) (hfit : fits (ty0 k) v = true)
    (kk : clo (fun o => V o ∨ S o) (kS S (fun j => T j ∨ j = k) o0 κ) → XX Γ nL (fun o => V o ∨ S o) ad (nv ad (kS S (fun j => T j ∨ j = k) o0 κ)) cs sl (pc + 3) L st) : XX Γ nL (fun o => V o ∨ S o) ad (nv ad (kS S T o0 κ)) cs sl pc L (v :: .ref (ad o0) :: st) := by
  subst hv
  obtain ⟨hq, hc2⟩ := kS_put hnS hr hr2 hclo
  refine x_putF (V := fun o => V o ∨ S o) (o := o0) F hin2 dd hc hin ty0 hty hnm k hk hlk hO hdecl hfin (Or.inl hV0) hs hn hfit ?_
  rw [upV_nv]
  exact XX.co (fun _ h => h) (fun _ _ => rfl) (hq.nv ad) (kk hc2)
/-- a constructor's start -/
theorem kc_0 (hclo : clo V κ) (h0 : ∀ k, k < nsl o0 → κ o0 k = dfl o0 k) (kk : clo (fun o => V o ∨ False) (kS (fun _ => False) (fun _ => False) o0 κ) → XX Γ nL (fun o => V o ∨ False) ad (nv ad (kS (fun _ => False) (fun _ => False) o0 κ)) cs sl pc L st) : XX Γ nL V ad (nv ad κ) cs sl pc L st := by
  have hiff : ∀ o, (V o ∨ False) ↔ V o := fun o => by simp
  have hq : kq (fun o => V o ∨ False) κ (kS (fun _ => False) (fun _ => False) o0 κ) := fun o' ho' k hk => by
    unfold kS
    rw [cit_f id]
    by_cases e : o' = o0
    · subst e
      rw [cit_t rfl, cit_f id, h0 k hk]
    · rw [cit_f e]
  exact XX.co (fun o h => (hiff o).mp h) (fun _ _ => rfl) (hq.nv ad) (kk (hclo.co hiff hq))
/-- its end -/
theorem kc_R (F : Fx Γ cc own nL none (ctP V2 ad2 κ N1 o0) d mc ms) (dd : decode cc pc = .ok (.return_, 1)) (hnS : ¬ S o0) (hiff : ∀ o, (V2 o ∨ N1 o) ↔ (V o ∨ S o)) (hS : ∀ o, o ≠ o0 → (S o ↔ N1 o)) (hNo : ¬ N1 o0) (hT : ∀ k, k < nsl o0 → ¬ T k → κ0 o0 k = dfl o0 k) (hag : ∀ o, V2 o → ad o = ad2 o) (hclo : clo (fun o => V o ∨ S o) (kS S T o0 κ)) (hc : cs = mc) (hs : sl = ms) : XX Γ nL (fun o => V o ∨ S o) ad (nv ad (kS S T o0 κ)) cs sl pc L [] := by
  have hq : kq (fun o => V2 o ∨ N1 o) (kS S T o0 κ) (ovr (fun o => o = o0 ∨ N1 o) κ) := fun o' ho' k hk => by
    unfold kS ovr
    by_cases e : o' = o0
    · subst e
      rw [cit_f hnS, cit_t rfl, cit_t (Or.inl rfl)]
      by_cases ht : T k
      · rw [cit_t ht]
      · rw [cit_f ht, hT k hk ht]
    · by_cases hS' : S o'
      · rw [cit_t hS', cit_t (Or.inr ((hS o' e).mp hS'))]
      · rw [cit_f hS', cit_f e, cit_f (fun h => h.elim e (fun h2 => hS' ((hS o' e).mpr h2)))]
  exact XX.co (fun o h => (hiff o).mp h) (fun _ _ => rfl) (hq.nv ad) (x_vret F dd ⟨rfl, rfl, hag, hclo.co hiff hq, rfl⟩ rfl hc hs)
end CTR
