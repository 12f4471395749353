/-! ===== contracts and calls ===== -/
abbrev Mi : Type := MethodName × ByteArray × Nat × Option FieldType
def nP (V : Ob → Prop) (ad : Ob → Nat) (P1 : Option Value → Me → Prop) : Pq := fun v V' ad' ν' => V' = V ∧ ad' = ad ∧ ∃ μ', ν' = vl ad μ' ∧ P1 v μ'
/-- the contract of a method that makes nothing -/
def Con (l : Launch) (E : Ev) (d : Nat) (mi : Mi) (A : Nat → Prop) (V : Ob → Prop) (ad : Ob → Nat) (μ : Me) (av : List Value) (P1 : Option Value → Me → Prop) : Prop := ConG l E d mi.1 mi.2.1 mi.2.2.1 mi.2.2.2 A V ad (vl ad μ) 0 0 av (nP V ad P1)
def pi (Q : Int → Me → Prop) : Option Value → Me → Prop := fun v μ => ∃ z, v = some (.int (I z)) ∧ Q z μ
def pz (Q : Bool → Me → Prop) : Option Value → Me → Prop := fun v μ => ∃ b, v = some (.int (I (bI b))) ∧ Q b μ
def pl (Q : Int → Me → Prop) : Option Value → Me → Prop := fun v μ => ∃ z, v = some (.long (J z)) ∧ Q z μ
def pv (Q : Me → Prop) : Option Value → Me → Prop := fun v μ => v = none ∧ Q μ
def pr (Q : Nat → Me → Prop) : Option Value → Me → Prop := fun v μ => ∃ a, v = some (.ref a) ∧ Q a μ
theorem con {l : Launch} {E : Ev} {d : Nat} {mi : Mi} {A : Nat → Prop} {V : Ob → Prop} {ad : Ob → Nat} {μ : Me} {av : List Value} {P1 : Option Value → Me → Prop} {own : String}
    (hy : plainName mi.1.cls = true) (ho : mi.1.cls = own) (hn : Nat.ble (lg_sl av).length mi.2.2.1 = true) {L : List (Nat × Value)} (hL : lv_args 0 av = L)
    (body : ∀ Γ : Ct, Fx Γ mi.2.1 own mi.2.2.1 mi.2.2.2 (nP V ad P1) d 0 0 → XX Γ mi.2.2.1 V ad (vl ad μ) 0 0 0 L []) : Con l E d mi A V ad μ av P1 :=
  conG hy ho (Nat.le_of_ble_eq_true hn) hL (fun Γ F _ _ => body Γ F)
theorem Con.to {l : Launch} {E : Ev} {d : Nat} {mi : Mi} {A : Nat → Prop} {V : Ob → Prop} {ad : Ob → Nat} {μ : Me} {av : List Value} {P1 P2 : Option Value → Me → Prop} (h : Con l E d mi A V ad μ av P1) (h12 : ∀ v μ', P1 v μ' → P2 v μ') : Con l E d mi A V ad μ av P2 := by
  intro hA hA0 p e ha hc hk s m args below hf happ hP hK
  obtain ⟨k, o, h1, h2, h3, ⟨⟨v, V', ad', ν', q1, ⟨r1, r2, μ', r3, r4⟩, q3⟩, q4⟩, q5⟩ := h hA hA0 p e ha hc hk s m args below hf happ hP hK
  exact ⟨k, o, h1, h2, h3, ⟨⟨v, V', ad', ν', q1, ⟨r1, r2, μ', r3, h12 v μ' r4⟩, q3⟩, q4⟩, q5⟩
def LkV (own : String) (idx : Nat) (mi : Mi) (C : String) (n : Nat) : Prop :=
  Cond.methodLink own idx mi.1 ∈ wA ∧ Cond.instanceMethod mi.1 ∈ wA ∧ Cond.selects C mi.1 mi.1 ∈ wA ∧ Cond.initialized C ∈ wA ∧ Cond.code mi.1 mi.2.1 mi.2.2.1 mi.2.2.2 ∈ wA ∧ mi.1.cls = C ∧ (mi.1.cls ≠ "java/lang/invoke/MethodHandle" ∧ mi.1.cls ≠ "java/lang/invoke/VarHandle") ∧ (parseMethodDescriptor mi.1.desc).map (fun d => d.parameters.length) = some n ∧ Nat.ble mi.2.2.1 21 = true
def LkS (own : String) (idx : Nat) (mi : Mi) (n : Nat) : Prop :=
  Cond.methodLink own idx mi.1 ∈ wA ∧ Cond.static mi.1 ∈ wA ∧ Cond.initialized mi.1.cls ∈ wA ∧ Cond.code mi.1 mi.2.1 mi.2.2.1 mi.2.2.2 ∈ wA ∧ (mi.1.cls ≠ "java/lang/invoke/MethodHandle" ∧ mi.1.cls ≠ "java/lang/invoke/VarHandle") ∧ (parseMethodDescriptor mi.1.desc).map (fun d => d.parameters.length) = some n ∧ Nat.ble mi.2.2.1 21 = true
/-- a static method of a nest mate -/
def LkSN (own : String) (idx : Nat) (mi : Mi) (host : String) (n : Nat) : Prop :=
  Cond.methodLinkNest own idx mi.1 host ∈ nestW ∧ Cond.static mi.1 ∈ wA ∧ Cond.initialized mi.1.cls ∈ wA ∧ Cond.code mi.1 mi.2.1 mi.2.2.1 mi.2.2.2 ∈ wA ∧ (mi.1.cls ≠ "java/lang/invoke/MethodHandle" ∧ mi.1.cls ≠ "java/lang/invoke/VarHandle") ∧ (parseMethodDescriptor mi.1.desc).map (fun d => d.parameters.length) = some n ∧ Nat.ble mi.2.2.1 21 = true
theorem gi_code {mi : Mi} (h : Cond.code mi.1 mi.2.1 mi.2.2.1 mi.2.2.2 ∈ wA) : GoodIn wA (Cond.code mi.1 mi.2.1 mi.2.2.1 mi.2.2.2 :: wA) := wA_gi fun w hw => by
  rcases List.mem_cons.mp hw with rfl | hw
  · exact h
  · exact hw
/-- a contract's start -/
def PcG (E : Ev) (A : Nat → Prop) (V : Ob → Prop) (ad : Ob → Nat) (ν : Mv) (mc : Nat) (av : List Value) : Array Value → State → Prop := fun args U => args = av.toArray ∧ Wd E V ad ν U.heap ∧ Kn E U ∧ (0 < mc → ∀ q, U.heap.size ≤ q → A q)
theorem PcG.blind {E : Ev} {A : Nat → Prop} {V : Ob → Prop} {ad : Ob → Nat} {ν : Mv} {mc : Nat} {av : List Value} : FrameBlind (PcG E A V ad ν mc av) := fun a U g mk h => ⟨h.1, h.2.1, Kn.blind g mk a h.2.2.1, h.2.2.2⟩
section CALLS
variable {p : Program} {l : Launch} {e : Env} {R : Room} {s : State} {m : MethodId} {args : Array Value} {below : List Frame} {meth : Method} {c : Code} {H : Heap} {locs : List Loc} {cells slots : Nat} {Q : State → Prop} {pc : Nat} {ls : Array Slot} {rest st0 : List Value} {a : Array Value} {A : Nat → Prop} {mc ms : Nat} {E : Ev} {P : Pq}
/-- behind a call -/
theorem q_back (hr : va_Run p l e R s m args below meth c H locs cells slots mc ms (F0 m pc ls st0) rest (QG E P A a) A) (hS : va_S A s.heap H locs)
    (kk : ∀ (v : Option Value) (V : Ob → Prop) (ad : Ob → Nat) (ν : Mv) (H1 : Heap) (locs1 : List Loc), P v V ad ν → Wd E V ad ν H1 → (∀ o, V o → A (ad o)) → va_S A s.heap H1 locs1 → W p l e R s m args below meth c H1 locs1 (cells + mc) (slots + ms) Q (F0 m (pc + 3) ls (v.toList ++ rest))) : W p l e R s m args below meth c H locs cells slots Q (F0 m pc ls st0) := by
  intro T hT X
  obtain ⟨v, st₀, t, T', L, h0, X', hL, e1, e2, ⟨⟨v', V, ad, ν, hv, hP, hW, hV⟩, hz, hk⟩, st⟩ := hr T hT X
  cases hv
  rw [h0] at hz hk
  obtain ⟨t2, a1, b1⟩ := kk v V ad ν T'.heap (locs ++ L) hP (by rw [e1]; exact hW) hV ⟨Nat.le_trans hS.1 (by rw [e1]; exact hz), fun q h1 h2 => by rw [e1, hk q (Nat.lt_of_lt_of_le h1 hS.1) h2]; exact hS.2.1 q h1 h2, fun q hq => by
      rcases List.mem_append.mp hq with h | h
      · exact hS.2.2 q h
      · exact hL q h⟩ T' rfl X'
  exact ⟨t2, st t2 a1, b1⟩
end CALLS
section CALLX
variable {Γ : Ct} {cc : ByteArray} {own : String} {nL : Nat} {ret : Option FieldType} {P : Pq} {d mc ms : Nat} {V : Ob → Prop} {ad : Ob → Nat} {ν : Mv} {cs sl pc : Nat} {L : List (Nat × Value)} {st st0 : List Value} {o : Ob} {mi : Mi} {C : String} {T : u_T} {N ci n idx d2 mc2 ms2 : Nat} {As : List Value} {P2 : Pq}
theorem x_callVG (F : Fx Γ cc own nL ret P d mc ms) (dd : decode cc pc = .ok (.invokevirtual idx, 3)) (hL : LkV own idx mi C n) (hci : vwCl[ci]? = some (C, T, N)) (ho : V o) (hs : shp o = .inl ci) (hn : As.length = n) (hst : st0 = As.reverse ++ .ref (ad o) :: st) (hcat : Nat.ble ((st.map fun v => v.category).sum) 8 = true) (hd : Nat.ble (d2 + 1) d = true) (hmc : Nat.ble (cs + mc2) mc = true) (hms : Nat.ble (sl + ms2) ms = true)
    (hM : ∀ (l : Launch) (E : Ev) (A : Nat → Prop), ConG l E d2 mi.1 mi.2.1 mi.2.2.1 mi.2.2.2 A V ad ν mc2 ms2 (.ref (ad o) :: As) P2) (kk : ∀ (v : Option Value) (V' : Ob → Prop) (ad' : Ob → Nat) (ν' : Mv), P2 v V' ad' ν' → XX Γ nL V' ad' ν' (cs + mc2) (sl + ms2) (pc + 3) L (v.toList ++ st)) : XX Γ nL V ad ν cs sl pc L st0 := by
  obtain ⟨p, l, e, R, s, m, args, below, meth, c, A, Q, E⟩ := Γ
  obtain ⟨hx, hb, hml, hown, hts, hlok, hr, hK, hA0, hR, hQ, hzz⟩ := F
  obtain ⟨w1, w2, w3, w4, w5, w6, w7, w8, w9⟩ := hL
  have hd := Nat.le_of_ble_eq_true hd
  have hmc := Nat.le_of_ble_eq_true hmc
  have hms := Nat.le_of_ble_eq_true hms
  have w9 := Nat.le_of_ble_eq_true w9
  intro H locs ls hW hV hS hl
  have h1 := hW.1 o ho
  unfold cOK at h1
  rw [hs] at h1
  obtain ⟨r, h1, cell, q1, q2, q3, q4⟩ := h1
  have hrr : r = (C, T, N) := Option.some.inj (h1.symm.trans hci)
  subst hrr
  subst hR
  have hfc := (hK.1.1 ci _ hci).2.1
  have CB : CallB (rmD d mc ms) s args own idx mi.1 mi.2.1 mi.2.2.1 mi.2.2.2 (Cond.code mi.1 mi.2.1 mi.2.2.1 mi.2.2.2 :: wA) (rmD d2 mc2 ms2) mc2 ms2 n := callB_of n hts (gi_code w5) rfl rfl rfl (by rw [w6]; exact hts _ w4) (hts _ w1) ⟨w7.1, w7.2, w8⟩ ⟨hd, by show 8 + (mi.2.2.1 + 11) + 40 * d2 ≤ 40 * d; omega⟩
  refine q_back (va_runV (As := As) (rest := st) (b := ad o) ⟨hx, hb, hml, hown, hts⟩ (hM l E A hV hA0) ⟨CB, hts _ w2, hts _ w3⟩ ⟨PcG.blind, ⟨cell, q1, by rw [q3]; rfl, by rw [q2]; exact hfc⟩, fun U hU hw => ⟨rfl, by rw [hU]; exact hW, hK.next hA0 hS hU hw, fun hz q hq => hzz (by omega) q (Nat.le_trans hS.1 (by rw [← hU]; exact hq))⟩⟩ rfl hn hl.1 hst (lv_room (Nat.le_of_ble_eq_true hcat)) dd ⟨hmc, hms⟩) hS ?_
  intro v V' ad' ν' H1 locs1 hP hW1 hV1 hS1
  exact kk v V' ad' ν' hP H1 locs1 ls hW1 hV1 hS1 hl
theorem x_callSG (F : Fx Γ cc own nL ret P d mc ms) (dd : decode cc pc = .ok (.invokestatic idx, 3)) (hL : LkS own idx mi n) (hn : As.length = n) (hst : st0 = As.reverse ++ st) (hcat : Nat.ble ((st.map fun v => v.category).sum) 8 = true) (hd : Nat.ble (d2 + 1) d = true) (hmc : Nat.ble (cs + mc2) mc = true) (hms : Nat.ble (sl + ms2) ms = true)
    (hM : ∀ (l : Launch) (E : Ev) (A : Nat → Prop), ConG l E d2 mi.1 mi.2.1 mi.2.2.1 mi.2.2.2 A V ad ν mc2 ms2 As P2) (kk : ∀ (v : Option Value) (V' : Ob → Prop) (ad' : Ob → Nat) (ν' : Mv), P2 v V' ad' ν' → XX Γ nL V' ad' ν' (cs + mc2) (sl + ms2) (pc + 3) L (v.toList ++ st)) : XX Γ nL V ad ν cs sl pc L st0 := by
  obtain ⟨p, l, e, R, s, m, args, below, meth, c, A, Q, E⟩ := Γ
  obtain ⟨hx, hb, hml, hown, hts, hlok, hr, hK, hA0, hR, hQ, hzz⟩ := F
  obtain ⟨w1, w2, w4, w5, w7, w8, w9⟩ := hL
  have hd := Nat.le_of_ble_eq_true hd
  have hmc := Nat.le_of_ble_eq_true hmc
  have hms := Nat.le_of_ble_eq_true hms
  have w9 := Nat.le_of_ble_eq_true w9
  intro H locs ls hW hV hS hl
  subst hR
  have CB : CallB (rmD d mc ms) s args own idx mi.1 mi.2.1 mi.2.2.1 mi.2.2.2 (Cond.code mi.1 mi.2.1 mi.2.2.1 mi.2.2.2 :: wA) (rmD d2 mc2 ms2) mc2 ms2 n := callB_of n hts (gi_code w5) rfl rfl rfl (hts _ w4) (hts _ w1) ⟨w7.1, w7.2, w8⟩ ⟨hd, by show 8 + (mi.2.2.1 + 11) + 40 * d2 ≤ 40 * d; omega⟩
  refine q_back (va_runS (As := As) (rest := st) ⟨hx, hb, hml, hown, hts⟩ (hM l E A hV hA0) ⟨CB, hts _ w2⟩ ⟨PcG.blind, fun U hU hw => ⟨rfl, by rw [hU]; exact hW, hK.next hA0 hS hU hw, fun hz q hq => hzz (by omega) q (Nat.le_trans hS.1 (by rw [← hU]; exact hq))⟩⟩ rfl hn hl.1 hst (lv_room (Nat.le_of_ble_eq_true hcat)) dd ⟨hmc, hms⟩) hS ?_
  intro v V' ad' ν' H1 locs1 hP hW1 hV1 hS1
  exact kk v V' ad' ν' hP H1 locs1 ls hW1 hV1 hS1 hl
theorem x_callSNG {host : String} (F : Fx Γ cc own nL ret P d mc ms) (dd : decode cc pc = .ok (.invokestatic idx, 3)) (hL : LkSN own idx mi host n) (hn : As.length = n) (hst : st0 = As.reverse ++ st) (hcat : Nat.ble ((st.map fun v => v.category).sum) 8 = true) (hd : Nat.ble (d2 + 1) d = true) (hmc : Nat.ble (cs + mc2) mc = true) (hms : Nat.ble (sl + ms2) ms = true)
    (hM : ∀ (l : Launch) (E : Ev) (A : Nat → Prop), ConG l E d2 mi.1 mi.2.1 mi.2.2.1 mi.2.2.2 A V ad ν mc2 ms2 As P2) (kk : ∀ (v : Option Value) (V' : Ob → Prop) (ad' : Ob → Nat) (ν' : Mv), P2 v V' ad' ν' → XX Γ nL V' ad' ν' (cs + mc2) (sl + ms2) (pc + 3) L (v.toList ++ st)) : XX Γ nL V ad ν cs sl pc L st0 := by
  obtain ⟨p, l, e, R, s, m, args, below, meth, c, A, Q, E⟩ := Γ
  obtain ⟨hx, hb, hml, hown, hts, hlok, hr, hK, hA0, hR, hQ, hzz⟩ := F
  obtain ⟨w1, w2, w4, w5, w7, w8, w9⟩ := hL
  have hd := Nat.le_of_ble_eq_true hd
  have hmc := Nat.le_of_ble_eq_true hmc
  have hms := Nat.le_of_ble_eq_true hms
  have w9 := Nat.le_of_ble_eq_true w9
  intro H locs ls hW hV hS hl
  subst hR
  have CB : va_CN (rmD d mc ms) s args own idx mi.1 host mi.2.1 mi.2.2.1 mi.2.2.2 (Cond.code mi.1 mi.2.1 mi.2.2.1 mi.2.2.2 :: wA) (rmD d2 mc2 ms2) mc2 ms2 n := va_cnB n hts (gi_code w5) rfl rfl rfl (hK.2.1 _ w1) (hts _ w4) ⟨w7.1, w7.2, w8⟩ ⟨hd, by show 8 + (mi.2.2.1 + 11) + 40 * d2 ≤ 40 * d; omega⟩
  refine q_back (va_runSN (As := As) (rest := st) ⟨hx, hb, hml, hown, hts⟩ (hM l E A hV hA0) ⟨CB, hts _ w2, trivial⟩ ⟨PcG.blind, fun U hU hw => ⟨rfl, by rw [hU]; exact hW, hK.next hA0 hS hU hw, fun hz q hq => hzz (by omega) q (Nat.le_trans hS.1 (by rw [← hU]; exact hq))⟩⟩ rfl hn hl.1 hst (lv_room (Nat.le_of_ble_eq_true hcat)) dd ⟨hmc, hms⟩) hS ?_
  intro v V' ad' ν' H1 locs1 hP hW1 hV1 hS1
  exact kk v V' ad' ν' hP H1 locs1 ls hW1 hV1 hS1 hl
variable {μ : Me}
theorem x_V0i {Q1 : Int → Me → Prop} (F : Fx Γ cc own nL ret P d mc ms) (dd : decode cc pc = .ok (.invokevirtual idx, 3)) (hL : LkV own idx mi C 0) (hci : vwCl[ci]? = some (C, T, N)) (ho : V o) (hs : shp o = .inl ci) (hd : Nat.ble (d2 + 1) d = true) (hM : ∀ (l : Launch) (E : Ev) (A : Nat → Prop), Con l E d2 mi A V ad μ (.ref (ad o) :: []) (pi Q1)) (hcat : Nat.ble ((st.map fun v => v.category).sum) 8 = true) (hmc : Nat.ble cs mc = true) (hms : Nat.ble sl ms = true) (kk : ∀ (z : Int) (μ' : Me), Q1 z μ' → XX Γ nL V ad (vl ad μ') cs sl (pc + 3) L (.int (I z) :: st)) : XX Γ nL V ad (vl ad μ) cs sl pc L (.ref (ad o) :: st) := by
  refine x_callVG (As := []) (mc2 := 0) (ms2 := 0) F dd hL hci ho hs rfl rfl hcat hd hmc hms hM ?_
  rintro v V' ad' ν' ⟨rfl, rfl, μ', rfl, z, rfl, hq⟩
  exact kk z μ' hq
theorem x_V0z {Q1 : Bool → Me → Prop} (F : Fx Γ cc own nL ret P d mc ms) (dd : decode cc pc = .ok (.invokevirtual idx, 3)) (hL : LkV own idx mi C 0) (hci : vwCl[ci]? = some (C, T, N)) (ho : V o) (hs : shp o = .inl ci) (hd : Nat.ble (d2 + 1) d = true) (hM : ∀ (l : Launch) (E : Ev) (A : Nat → Prop), Con l E d2 mi A V ad μ (.ref (ad o) :: []) (pz Q1)) (hcat : Nat.ble ((st.map fun v => v.category).sum) 8 = true) (hmc : Nat.ble cs mc = true) (hms : Nat.ble sl ms = true) (kk : ∀ (z : Bool) (μ' : Me), Q1 z μ' → XX Γ nL V ad (vl ad μ') cs sl (pc + 3) L (.int (I (bI z)) :: st)) : XX Γ nL V ad (vl ad μ) cs sl pc L (.ref (ad o) :: st) := by
  refine x_callVG (As := []) (mc2 := 0) (ms2 := 0) F dd hL hci ho hs rfl rfl hcat hd hmc hms hM ?_
  rintro v V' ad' ν' ⟨rfl, rfl, μ', rfl, z, rfl, hq⟩
  exact kk z μ' hq
theorem x_V0l {Q1 : Int → Me → Prop} (F : Fx Γ cc own nL ret P d mc ms) (dd : decode cc pc = .ok (.invokevirtual idx, 3)) (hL : LkV own idx mi C 0) (hci : vwCl[ci]? = some (C, T, N)) (ho : V o) (hs : shp o = .inl ci) (hd : Nat.ble (d2 + 1) d = true) (hM : ∀ (l : Launch) (E : Ev) (A : Nat → Prop), Con l E d2 mi A V ad μ (.ref (ad o) :: []) (pl Q1)) (hcat : Nat.ble ((st.map fun v => v.category).sum) 8 = true) (hmc : Nat.ble cs mc = true) (hms : Nat.ble sl ms = true) (kk : ∀ (z : Int) (μ' : Me), Q1 z μ' → XX Γ nL V ad (vl ad μ') cs sl (pc + 3) L (.long (J z) :: st)) : XX Γ nL V ad (vl ad μ) cs sl pc L (.ref (ad o) :: st) := by
  refine x_callVG (As := []) (mc2 := 0) (ms2 := 0) F dd hL hci ho hs rfl rfl hcat hd hmc hms hM ?_
  rintro v V' ad' ν' ⟨rfl, rfl, μ', rfl, z, rfl, hq⟩
  exact kk z μ' hq
theorem x_V0v {Q1 : Me → Prop} (F : Fx Γ cc own nL ret P d mc ms) (dd : decode cc pc = .ok (.invokevirtual idx, 3)) (hL : LkV own idx mi C 0) (hci : vwCl[ci]? = some (C, T, N)) (ho : V o) (hs : shp o = .inl ci) (hd : Nat.ble (d2 + 1) d = true) (hM : ∀ (l : Launch) (E : Ev) (A : Nat → Prop), Con l E d2 mi A V ad μ (.ref (ad o) :: []) (pv Q1)) (hcat : Nat.ble ((st.map fun v => v.category).sum) 8 = true) (hmc : Nat.ble cs mc = true) (hms : Nat.ble sl ms = true) (kk : ∀ (μ' : Me), Q1 μ' → XX Γ nL V ad (vl ad μ') cs sl (pc + 3) L st) : XX Γ nL V ad (vl ad μ) cs sl pc L (.ref (ad o) :: st) := by
  refine x_callVG (As := []) (mc2 := 0) (ms2 := 0) F dd hL hci ho hs rfl rfl hcat hd hmc hms hM ?_
  rintro v V' ad' ν' ⟨rfl, rfl, μ', rfl, rfl, hq⟩
  exact kk μ' hq
theorem x_V0r {Q1 : Nat → Me → Prop} (F : Fx Γ cc own nL ret P d mc ms) (dd : decode cc pc = .ok (.invokevirtual idx, 3)) (hL : LkV own idx mi C 0) (hci : vwCl[ci]? = some (C, T, N)) (ho : V o) (hs : shp o = .inl ci) (hd : Nat.ble (d2 + 1) d = true) (hM : ∀ (l : Launch) (E : Ev) (A : Nat → Prop), Con l E d2 mi A V ad μ (.ref (ad o) :: []) (pr Q1)) (hcat : Nat.ble ((st.map fun v => v.category).sum) 8 = true) (hmc : Nat.ble cs mc = true) (hms : Nat.ble sl ms = true) (kk : ∀ (z : Nat) (μ' : Me), Q1 z μ' → XX Γ nL V ad (vl ad μ') cs sl (pc + 3) L (.ref z :: st)) : XX Γ nL V ad (vl ad μ) cs sl pc L (.ref (ad o) :: st) := by
  refine x_callVG (As := []) (mc2 := 0) (ms2 := 0) F dd hL hci ho hs rfl rfl hcat hd hmc hms hM ?_
  rintro v V' ad' ν' ⟨rfl, rfl, μ', rfl, z, rfl, hq⟩
  exact kk z μ' hq
theorem x_V1i {a1 : Value} {Q1 : Int → Me → Prop} (F : Fx Γ cc own nL ret P d mc ms) (dd : decode cc pc = .ok (.invokevirtual idx, 3)) (hL : LkV own idx mi C 1) (hci : vwCl[ci]? = some (C, T, N)) (ho : V o) (hs : shp o = .inl ci) (hd : Nat.ble (d2 + 1) d = true) (hM : ∀ (l : Launch) (E : Ev) (A : Nat → Prop), Con l E d2 mi A V ad μ (.ref (ad o) :: [a1]) (pi Q1)) (hcat : Nat.ble ((st.map fun v => v.category).sum) 8 = true) (hmc : Nat.ble cs mc = true) (hms : Nat.ble sl ms = true) (kk : ∀ (z : Int) (μ' : Me), Q1 z μ' → XX Γ nL V ad (vl ad μ') cs sl (pc + 3) L (.int (I z) :: st)) : XX Γ nL V ad (vl ad μ) cs sl pc L (a1 :: .ref (ad o) :: st) := by
  refine x_callVG (As := [a1]) (mc2 := 0) (ms2 := 0) F dd hL hci ho hs rfl rfl hcat hd hmc hms hM ?_
  rintro v V' ad' ν' ⟨rfl, rfl, μ', rfl, z, rfl, hq⟩
  exact kk z μ' hq
theorem x_V1z {a1 : Value} {Q1 : Bool → Me → Prop} (F : Fx Γ cc own nL ret P d mc ms) (dd : decode cc pc = .ok (.invokevirtual idx, 3)) (hL : LkV own idx mi C 1) (hci : vwCl[ci]? = some (C, T, N)) (ho : V o) (hs : shp o = .inl ci) (hd : Nat.ble (d2 + 1) d = true) (hM : ∀ (l : Launch) (E : Ev) (A : Nat → Prop), Con l E d2 mi A V ad μ (.ref (ad o) :: [a1]) (pz Q1)) (hcat : Nat.ble ((st.map fun v => v.category).sum) 8 = true) (hmc : Nat.ble cs mc = true) (hms : Nat.ble sl ms = true) (kk : ∀ (z : Bool) (μ' : Me), Q1 z μ' → XX Γ nL V ad (vl ad μ') cs sl (pc + 3) L (.int (I (bI z)) :: st)) : XX Γ nL V ad (vl ad μ) cs sl pc L (a1 :: .ref (ad o) :: st) := by
  refine x_callVG (As := [a1]) (mc2 := 0) (ms2 := 0) F dd hL hci ho hs rfl rfl hcat hd hmc hms hM ?_
  rintro v V' ad' ν' ⟨rfl, rfl, μ', rfl, z, rfl, hq⟩
  exact kk z μ' hq
theorem x_V1l {a1 : Value} {Q1 : Int → Me → Prop} (F : Fx Γ cc own nL ret P d mc ms) (dd : decode cc pc = .ok (.invokevirtual idx, 3)) (hL : LkV own idx mi C 1) (hci : vwCl[ci]? = some (C, T, N)) (ho : V o) (hs : shp o = .inl ci) (hd : Nat.ble (d2 + 1) d = true) (hM : ∀ (l : Launch) (E : Ev) (A : Nat → Prop), Con l E d2 mi A V ad μ (.ref (ad o) :: [a1]) (pl Q1)) (hcat : Nat.ble ((st.map fun v => v.category).sum) 8 = true) (hmc : Nat.ble cs mc = true) (hms : Nat.ble sl ms = true) (kk : ∀ (z : Int) (μ' : Me), Q1 z μ' → XX Γ nL V ad (vl ad μ') cs sl (pc + 3) L (.long (J z) :: st)) : XX Γ nL V ad (vl ad μ) cs sl pc L (a1 :: .ref (ad o) :: st) := by
  refine x_callVG (As := [a1]) (mc2 := 0) (ms2 := 0) F dd hL hci ho hs rfl rfl hcat hd hmc hms hM ?_
  rintro v V' ad' ν' ⟨rfl, rfl, μ', rfl, z, rfl, hq⟩
  exact kk z μ' hq
theorem x_V1v {a1 : Value} {Q1 : Me → Prop} (F : Fx Γ cc own nL ret P d mc ms) (dd : decode cc pc = .ok (.invokevirtual idx, 3)) (hL : LkV own idx mi C 1) (hci : vwCl[ci]? = some (C, T, N)) (ho : V o) (hs : shp o = .inl ci) (hd : Nat.ble (d2 + 1) d = true) (hM : ∀ (l : Launch) (E : Ev) (A : Nat → Prop), Con l E d2 mi A V ad μ (.ref (ad o) :: [a1]) (pv Q1)) (hcat : Nat.ble ((st.map fun v => v.category).sum) 8 = true) (hmc : Nat.ble cs mc = true) (hms : Nat.ble sl ms = true) (kk : ∀ (μ' : Me), Q1 μ' → XX Γ nL V ad (vl ad μ') cs sl (pc + 3) L st) : XX Γ nL V ad (vl ad μ) cs sl pc L (a1 :: .ref (ad o) :: st) := by
  refine x_callVG (As := [a1]) (mc2 := 0) (ms2 := 0) F dd hL hci ho hs rfl rfl hcat hd hmc hms hM ?_
  rintro v V' ad' ν' ⟨rfl, rfl, μ', rfl, rfl, hq⟩
  exact kk μ' hq
theorem x_V1r {a1 : Value} {Q1 : Nat → Me → Prop} (F : Fx Γ cc own nL ret P d mc ms) (dd : decode cc pc = .ok (.invokevirtual idx, 3)) (hL : LkV own idx mi C 1) (hci : vwCl[ci]? = some (C, T, N)) (ho : V o) (hs : shp o = .inl ci) (hd : Nat.ble (d2 + 1) d = true) (hM : ∀ (l : Launch) (E : Ev) (A : Nat → Prop), Con l E d2 mi A V ad μ (.ref (ad o) :: [a1]) (pr Q1)) (hcat : Nat.ble ((st.map fun v => v.category).sum) 8 = true) (hmc : Nat.ble cs mc = true) (hms : Nat.ble sl ms = true) (kk : ∀ (z : Nat) (μ' : Me), Q1 z μ' → XX Γ nL V ad (vl ad μ') cs sl (pc + 3) L (.ref z :: st)) : XX Γ nL V ad (vl ad μ) cs sl pc L (a1 :: .ref (ad o) :: st) := by
  refine x_callVG (As := [a1]) (mc2 := 0) (ms2 := 0) F dd hL hci ho hs rfl rfl hcat hd hmc hms hM ?_
  rintro v V' ad' ν' ⟨rfl, rfl, μ', rfl, z, rfl, hq⟩
  exact kk z μ' hq
theorem x_V2i {a1 a2 : Value} {Q1 : Int → Me → Prop} (F : Fx Γ cc own nL ret P d mc ms) (dd : decode cc pc = .ok (.invokevirtual idx, 3)) (hL : LkV own idx mi C 2) (hci : vwCl[ci]? = some (C, T, N)) (ho : V o) (hs : shp o = .inl ci) (hd : Nat.ble (d2 + 1) d = true) (hM : ∀ (l : Launch) (E : Ev) (A : Nat → Prop), Con l E d2 mi A V ad μ (.ref (ad o) :: [a1, a2]) (pi Q1)) (hcat : Nat.ble ((st.map fun v => v.category).sum) 8 = true) (hmc : Nat.ble cs mc = true) (hms : Nat.ble sl ms = true) (kk : ∀ (z : Int) (μ' : Me), Q1 z μ' → XX Γ nL V ad (vl ad μ') cs sl (pc + 3) L (.int (I z) :: st)) : XX Γ nL V ad (vl ad μ) cs sl pc L (a2 :: a1 :: .ref (ad o) :: st) := by
  refine x_callVG (As := [a1, a2]) (mc2 := 0) (ms2 := 0) F dd hL hci ho hs rfl rfl hcat hd hmc hms hM ?_
  rintro v V' ad' ν' ⟨rfl, rfl, μ', rfl, z, rfl, hq⟩
  exact kk z μ' hq
theorem x_V2z {a1 a2 : Value} {Q1 : Bool → Me → Prop} (F : Fx Γ cc own nL ret P d mc ms) (dd : decode cc pc = .ok (.invokevirtual idx, 3)) (hL : LkV own idx mi C 2) (hci : vwCl[ci]? = some (C, T, N)) (ho : V o) (hs : shp o = .inl ci) (hd : Nat.ble (d2 + 1) d = true) (hM : ∀ (l : Launch) (E : Ev) (A : Nat → Prop), Con l E d2 mi A V ad μ (.ref (ad o) :: [a1, a2]) (pz Q1)) (hcat : Nat.ble ((st.map fun v => v.category).sum) 8 = true) (hmc : Nat.ble cs mc = true) (hms : Nat.ble sl ms = true) (kk : ∀ (z : Bool) (μ' : Me), Q1 z μ' → XX Γ nL V ad (vl ad μ') cs sl (pc + 3) L (.int (I (bI z)) :: st)) : XX Γ nL V ad (vl ad μ) cs sl pc L (a2 :: a1 :: .ref (ad o) :: st) := by
  refine x_callVG (As := [a1, a2]) (mc2 := 0) (ms2 := 0) F dd hL hci ho hs rfl rfl hcat hd hmc hms hM ?_
  rintro v V' ad' ν' ⟨rfl, rfl, μ', rfl, z, rfl, hq⟩
  exact kk z μ' hq
theorem x_V2l {a1 a2 : Value} {Q1 : Int → Me → Prop} (F : Fx Γ cc own nL ret P d mc ms) (dd : decode cc pc = .ok (.invokevirtual idx, 3)) (hL : LkV own idx mi C 2) (hci : vwCl[ci]? = some (C, T, N)) (ho : V o) (hs : shp o = .inl ci) (hd : Nat.ble (d2 + 1) d = true) (hM : ∀ (l : Launch) (E : Ev) (A : Nat → Prop), Con l E d2 mi A V ad μ (.ref (ad o) :: [a1, a2]) (pl Q1)) (hcat : Nat.ble ((st.map fun v => v.category).sum) 8 = true) (hmc : Nat.ble cs mc = true) (hms : Nat.ble sl ms = true) (kk : ∀ (z : Int) (μ' : Me), Q1 z μ' → XX Γ nL V ad (vl ad μ') cs sl (pc + 3) L (.long (J z) :: st)) : XX Γ nL V ad (vl ad μ) cs sl pc L (a2 :: a1 :: .ref (ad o) :: st) := by
  refine x_callVG (As := [a1, a2]) (mc2 := 0) (ms2 := 0) F dd hL hci ho hs rfl rfl hcat hd hmc hms hM ?_
  rintro v V' ad' ν' ⟨rfl, rfl, μ', rfl, z, rfl, hq⟩
  exact kk z μ' hq
theorem x_V2v {a1 a2 : Value} {Q1 : Me → Prop} (F : Fx Γ cc own nL ret P d mc ms) (dd : decode cc pc = .ok (.invokevirtual idx, 3)) (hL : LkV own idx mi C 2) (hci : vwCl[ci]? = some (C, T, N)) (ho : V o) (hs : shp o = .inl ci) (hd : Nat.ble (d2 + 1) d = true) (hM : ∀ (l : Launch) (E : Ev) (A : Nat → Prop), Con l E d2 mi A V ad μ (.ref (ad o) :: [a1, a2]) (pv Q1)) (hcat : Nat.ble ((st.map fun v => v.category).sum) 8 = true) (hmc : Nat.ble cs mc = true) (hms : Nat.ble sl ms = true) (kk : ∀ (μ' : Me), Q1 μ' → XX Γ nL V ad (vl ad μ') cs sl (pc + 3) L st) : XX Γ nL V ad (vl ad μ) cs sl pc L (a2 :: a1 :: .ref (ad o) :: st) := by
  refine x_callVG (As := [a1, a2]) (mc2 := 0) (ms2 := 0) F dd hL hci ho hs rfl rfl hcat hd hmc hms hM ?_
  rintro v V' ad' ν' ⟨rfl, rfl, μ', rfl, rfl, hq⟩
  exact kk μ' hq
theorem x_V2r {a1 a2 : Value} {Q1 : Nat → Me → Prop} (F : Fx Γ cc own nL ret P d mc ms) (dd : decode cc pc = .ok (.invokevirtual idx, 3)) (hL : LkV own idx mi C 2) (hci : vwCl[ci]? = some (C, T, N)) (ho : V o) (hs : shp o = .inl ci) (hd : Nat.ble (d2 + 1) d = true) (hM : ∀ (l : Launch) (E : Ev) (A : Nat → Prop), Con l E d2 mi A V ad μ (.ref (ad o) :: [a1, a2]) (pr Q1)) (hcat : Nat.ble ((st.map fun v => v.category).sum) 8 = true) (hmc : Nat.ble cs mc = true) (hms : Nat.ble sl ms = true) (kk : ∀ (z : Nat) (μ' : Me), Q1 z μ' → XX Γ nL V ad (vl ad μ') cs sl (pc + 3) L (.ref z :: st)) : XX Γ nL V ad (vl ad μ) cs sl pc L (a2 :: a1 :: .ref (ad o) :: st) := by
  refine x_callVG (As := [a1, a2]) (mc2 := 0) (ms2 := 0) F dd hL hci ho hs rfl rfl hcat hd hmc hms hM ?_
  rintro v V' ad' ν' ⟨rfl, rfl, μ', rfl, z, rfl, hq⟩
  exact kk z μ' hq
theorem x_V3i {a1 a2 a3 : Value} {Q1 : Int → Me → Prop} (F : Fx Γ cc own nL ret P d mc ms) (dd : decode cc pc = .ok (.invokevirtual idx, 3)) (hL : LkV own idx mi C 3) (hci : vwCl[ci]? = some (C, T, N)) (ho : V o) (hs : shp o = .inl ci) (hd : Nat.ble (d2 + 1) d = true) (hM : ∀ (l : Launch) (E : Ev) (A : Nat → Prop), Con l E d2 mi A V ad μ (.ref (ad o) :: [a1, a2, a3]) (pi Q1)) (hcat : Nat.ble ((st.map fun v => v.category).sum) 8 = true) (hmc : Nat.ble cs mc = true) (hms : Nat.ble sl ms = true) (kk : ∀ (z : Int) (μ' : Me), Q1 z μ' → XX Γ nL V ad (vl ad μ') cs sl (pc + 3) L (.int (I z) :: st)) : XX Γ nL V ad (vl ad μ) cs sl pc L (a3 :: a2 :: a1 :: .ref (ad o) :: st) := by
  refine x_callVG (As := [a1, a2, a3]) (mc2 := 0) (ms2 := 0) F dd hL hci ho hs rfl rfl hcat hd hmc hms hM ?_
  rintro v V' ad' ν' ⟨rfl, rfl, μ', rfl, z, rfl, hq⟩
  exact kk z μ' hq
theorem x_V3z {a1 a2 a3 : Value} {Q1 : Bool → Me → Prop} (F : Fx Γ cc own nL ret P d mc ms) (dd : decode cc pc = .ok (.invokevirtual idx, 3)) (hL : LkV own idx mi C 3) (hci : vwCl[ci]? = some (C, T, N)) (ho : V o) (hs : shp o = .inl ci) (hd : Nat.ble (d2 + 1) d = true) (hM : ∀ (l : Launch) (E : Ev) (A : Nat → Prop), Con l E d2 mi A V ad μ (.ref (ad o) :: [a1, a2, a3]) (pz Q1)) (hcat : Nat.ble ((st.map fun v => v.category).sum) 8 = true) (hmc : Nat.ble cs mc = true) (hms : Nat.ble sl ms = true) (kk : ∀ (z : Bool) (μ' : Me), Q1 z μ' → XX Γ nL V ad (vl ad μ') cs sl (pc + 3) L (.int (I (bI z)) :: st)) : XX Γ nL V ad (vl ad μ) cs sl pc L (a3 :: a2 :: a1 :: .ref (ad o) :: st) := by
  refine x_callVG (As := [a1, a2, a3]) (mc2 := 0) (ms2 := 0) F dd hL hci ho hs rfl rfl hcat hd hmc hms hM ?_
  rintro v V' ad' ν' ⟨rfl, rfl, μ', rfl, z, rfl, hq⟩
  exact kk z μ' hq
theorem x_V3l {a1 a2 a3 : Value} {Q1 : Int → Me → Prop} (F : Fx Γ cc own nL ret P d mc ms) (dd : decode cc pc = .ok (.invokevirtual idx, 3)) (hL : LkV own idx mi C 3) (hci : vwCl[ci]? = some (C, T, N)) (ho : V o) (hs : shp o = .inl ci) (hd : Nat.ble (d2 + 1) d = true) (hM : ∀ (l : Launch) (E : Ev) (A : Nat → Prop), Con l E d2 mi A V ad μ (.ref (ad o) :: [a1, a2, a3]) (pl Q1)) (hcat : Nat.ble ((st.map fun v => v.category).sum) 8 = true) (hmc : Nat.ble cs mc = true) (hms : Nat.ble sl ms = true) (kk : ∀ (z : Int) (μ' : Me), Q1 z μ' → XX Γ nL V ad (vl ad μ') cs sl (pc + 3) L (.long (J z) :: st)) : XX Γ nL V ad (vl ad μ) cs sl pc L (a3 :: a2 :: a1 :: .ref (ad o) :: st) := by
  refine x_callVG (As := [a1, a2, a3]) (mc2 := 0) (ms2 := 0) F dd hL hci ho hs rfl rfl hcat hd hmc hms hM ?_
  rintro v V' ad' ν' ⟨rfl, rfl, μ', rfl, z, rfl, hq⟩
  exact kk z μ' hq
theorem x_V3v {a1 a2 a3 : Value} {Q1 : Me → Prop} (F : Fx Γ cc own nL ret P d mc ms) (dd : decode cc pc = .ok (.invokevirtual idx, 3)) (hL : LkV own idx mi C 3) (hci : vwCl[ci]? = some (C, T, N)) (ho : V o) (hs : shp o = .inl ci) (hd : Nat.ble (d2 + 1) d = true) (hM : ∀ (l : Launch) (E : Ev) (A : Nat → Prop), Con l E d2 mi A V ad μ (.ref (ad o) :: [a1, a2, a3]) (pv Q1)) (hcat : Nat.ble ((st.map fun v => v.category).sum) 8 = true) (hmc : Nat.ble cs mc = true) (hms : Nat.ble sl ms = true) (kk : ∀ (μ' : Me), Q1 μ' → XX Γ nL V ad (vl ad μ') cs sl (pc + 3) L st) : XX Γ nL V ad (vl ad μ) cs sl pc L (a3 :: a2 :: a1 :: .ref (ad o) :: st) := by
  refine x_callVG (As := [a1, a2, a3]) (mc2 := 0) (ms2 := 0) F dd hL hci ho hs rfl rfl hcat hd hmc hms hM ?_
  rintro v V' ad' ν' ⟨rfl, rfl, μ', rfl, rfl, hq⟩
  exact kk μ' hq
theorem x_V3r {a1 a2 a3 : Value} {Q1 : Nat → Me → Prop} (F : Fx Γ cc own nL ret P d mc ms) (dd : decode cc pc = .ok (.invokevirtual idx, 3)) (hL : LkV own idx mi C 3) (hci : vwCl[ci]? = some (C, T, N)) (ho : V o) (hs : shp o = .inl ci) (hd : Nat.ble (d2 + 1) d = true) (hM : ∀ (l : Launch) (E : Ev) (A : Nat → Prop), Con l E d2 mi A V ad μ (.ref (ad o) :: [a1, a2, a3]) (pr Q1)) (hcat : Nat.ble ((st.map fun v => v.category).sum) 8 = true) (hmc : Nat.ble cs mc = true) (hms : Nat.ble sl ms = true) (kk : ∀ (z : Nat) (μ' : Me), Q1 z μ' → XX Γ nL V ad (vl ad μ') cs sl (pc + 3) L (.ref z :: st)) : XX Γ nL V ad (vl ad μ) cs sl pc L (a3 :: a2 :: a1 :: .ref (ad o) :: st) := by
  refine x_callVG (As := [a1, a2, a3]) (mc2 := 0) (ms2 := 0) F dd hL hci ho hs rfl rfl hcat hd hmc hms hM ?_
  rintro v V' ad' ν' ⟨rfl, rfl, μ', rfl, z, rfl, hq⟩
  exact kk z μ' hq
theorem x_V4i {a1 a2 a3 a4 : Value} {Q1 : Int → Me → Prop} (F : Fx Γ cc own nL ret P d mc ms) (dd : decode cc pc = .ok (.invokevirtual idx, 3)) (hL : LkV own idx mi C 4) (hci : vwCl[ci]? = some (C, T, N)) (ho : V o) (hs : shp o = .inl ci) (hd : Nat.ble (d2 + 1) d = true) (hM : ∀ (l : Launch) (E : Ev) (A : Nat → Prop), Con l E d2 mi A V ad μ (.ref (ad o) :: [a1, a2, a3, a4]) (pi Q1)) (hcat : Nat.ble ((st.map fun v => v.category).sum) 8 = true) (hmc : Nat.ble cs mc = true) (hms : Nat.ble sl ms = true) (kk : ∀ (z : Int) (μ' : Me), Q1 z μ' → XX Γ nL V ad (vl ad μ') cs sl (pc + 3) L (.int (I z) :: st)) : XX Γ nL V ad (vl ad μ) cs sl pc L (a4 :: a3 :: a2 :: a1 :: .ref (ad o) :: st) := by
  refine x_callVG (As := [a1, a2, a3, a4]) (mc2 := 0) (ms2 := 0) F dd hL hci ho hs rfl rfl hcat hd hmc hms hM ?_
  rintro v V' ad' ν' ⟨rfl, rfl, μ', rfl, z, rfl, hq⟩
  exact kk z μ' hq
theorem x_V4z {a1 a2 a3 a4 : Value} {Q1 : Bool → Me → Prop} (F : Fx Γ cc own nL ret P d mc ms) (dd : decode cc pc = .ok (.invokevirtual idx, 3)) (hL : LkV own idx mi C 4) (hci : vwCl[ci]? = some (C, T, N)) (ho : V o) (hs : shp o = .inl ci) (hd : Nat.ble (d2 + 1) d = true) (hM : ∀ (l : Launch) (E : Ev) (A : Nat → Prop), Con l E d2 mi A V ad μ (.ref (ad o) :: [a1, a2, a3, a4]) (pz Q1)) (hcat : Nat.ble ((st.map fun v => v.category).sum) 8 = true) (hmc : Nat.ble cs mc = true) (hms : Nat.ble sl ms = true) (kk : ∀ (z : Bool) (μ' : Me), Q1 z μ' → XX Γ nL V ad (vl ad μ') cs sl (pc + 3) L (.int (I (bI z)) :: st)) : XX Γ nL V ad (vl ad μ) cs sl pc L (a4 :: a3 :: a2 :: a1 :: .ref (ad o) :: st) := by
  refine x_callVG (As := [a1, a2, a3, a4]) (mc2 := 0) (ms2 := 0) F dd hL hci ho hs rfl rfl hcat hd hmc hms hM ?_
  rintro v V' ad' ν' ⟨rfl, rfl, μ', rfl, z, rfl, hq⟩
  exact kk z μ' hq
theorem x_V4l {a1 a2 a3 a4 : Value} {Q1 : Int → Me → Prop} (F : Fx Γ cc own nL ret P d mc ms) (dd : decode cc pc = .ok (.invokevirtual idx, 3)) (hL : LkV own idx mi C 4) (hci : vwCl[ci]? = some (C, T, N)) (ho : V o) (hs : shp o = .inl ci) (hd : Nat.ble (d2 + 1) d = true) (hM : ∀ (l : Launch) (E : Ev) (A : Nat → Prop), Con l E d2 mi A V ad μ (.ref (ad o) :: [a1, a2, a3, a4]) (pl Q1)) (hcat : Nat.ble ((st.map fun v => v.category).sum) 8 = true) (hmc : Nat.ble cs mc = true) (hms : Nat.ble sl ms = true) (kk : ∀ (z : Int) (μ' : Me), Q1 z μ' → XX Γ nL V ad (vl ad μ') cs sl (pc + 3) L (.long (J z) :: st)) : XX Γ nL V ad (vl ad μ) cs sl pc L (a4 :: a3 :: a2 :: a1 :: .ref (ad o) :: st) := by
  refine x_callVG (As := [a1, a2, a3, a4]) (mc2 := 0) (ms2 := 0) F dd hL hci ho hs rfl rfl hcat hd hmc hms hM ?_
  rintro v V' ad' ν' ⟨rfl, rfl, μ', rfl, z, rfl, hq⟩
  exact kk z μ' hq
theorem x_V4v {a1 a2 a3 a4 : Value} {Q1 : Me → Prop} (F : Fx Γ cc own nL ret P d mc ms) (dd : decode cc pc = .ok (.invokevirtual idx, 3)) (hL : LkV own idx mi C 4) (hci : vwCl[ci]? = some (C, T, N)) (ho : V o) (hs : shp o = .inl ci) (hd : Nat.ble (d2 + 1) d = true) (hM : ∀ (l : Launch) (E : Ev) (A : Nat → Prop), Con l E d2 mi A V ad μ (.ref (ad o) :: [a1, a2, a3, a4]) (pv Q1)) (hcat : Nat.ble ((st.map fun v => v.category).sum) 8 = true) (hmc : Nat.ble cs mc = true) (hms : Nat.ble sl ms = true) (kk : ∀ (μ' : Me), Q1 μ' → XX Γ nL V ad (vl ad μ') cs sl (pc + 3) L st) : XX Γ nL V ad (vl ad μ) cs sl pc L (a4 :: a3 :: a2 :: a1 :: .ref (ad o) :: st) := by
  refine x_callVG (As := [a1, a2, a3, a4]) (mc2 := 0) (ms2 := 0) F dd hL hci ho hs rfl rfl hcat hd hmc hms hM ?_
  rintro v V' ad' ν' ⟨rfl, rfl, μ', rfl, rfl, hq⟩
  exact kk μ' hq
theorem x_V4r {a1 a2 a3 a4 : Value} {Q1 : Nat → Me → Prop} (F : Fx Γ cc own nL ret P d mc ms) (dd : decode cc pc = .ok (.invokevirtual idx, 3)) (hL : LkV own idx mi C 4) (hci : vwCl[ci]? = some (C, T, N)) (ho : V o) (hs : shp o = .inl ci) (hd : Nat.ble (d2 + 1) d = true) (hM : ∀ (l : Launch) (E : Ev) (A : Nat → Prop), Con l E d2 mi A V ad μ (.ref (ad o) :: [a1, a2, a3, a4]) (pr Q1)) (hcat : Nat.ble ((st.map fun v => v.category).sum) 8 = true) (hmc : Nat.ble cs mc = true) (hms : Nat.ble sl ms = true) (kk : ∀ (z : Nat) (μ' : Me), Q1 z μ' → XX Γ nL V ad (vl ad μ') cs sl (pc + 3) L (.ref z :: st)) : XX Γ nL V ad (vl ad μ) cs sl pc L (a4 :: a3 :: a2 :: a1 :: .ref (ad o) :: st) := by
  refine x_callVG (As := [a1, a2, a3, a4]) (mc2 := 0) (ms2 := 0) F dd hL hci ho hs rfl rfl hcat hd hmc hms hM ?_
  rintro v V' ad' ν' ⟨rfl, rfl, μ', rfl, z, rfl, hq⟩
  exact kk z μ' hq
theorem x_V5i {a1 a2 a3 a4 a5 : Value} {Q1 : Int → Me → Prop} (F : Fx Γ cc own nL ret P d mc ms) (dd : decode cc pc = .ok (.invokevirtual idx, 3)) (hL : LkV own idx mi C 5) (hci : vwCl[ci]? = some (C, T, N)) (ho : V o) (hs : shp o = .inl ci) (hd : Nat.ble (d2 + 1) d = true) (hM : ∀ (l : Launch) (E : Ev) (A : Nat → Prop), Con l E d2 mi A V ad μ (.ref (ad o) :: [a1, a2, a3, a4, a5]) (pi Q1)) (hcat : Nat.ble ((st.map fun v => v.category).sum) 8 = true) (hmc : Nat.ble cs mc = true) (hms : Nat.ble sl ms = true) (kk : ∀ (z : Int) (μ' : Me), Q1 z μ' → XX Γ nL V ad (vl ad μ') cs sl (pc + 3) L (.int (I z) :: st)) : XX Γ nL V ad (vl ad μ) cs sl pc L (a5 :: a4 :: a3 :: a2 :: a1 :: .ref (ad o) :: st) := by
  refine x_callVG (As := [a1, a2, a3, a4, a5]) (mc2 := 0) (ms2 := 0) F dd hL hci ho hs rfl rfl hcat hd hmc hms hM ?_
  rintro v V' ad' ν' ⟨rfl, rfl, μ', rfl, z, rfl, hq⟩
  exact kk z μ' hq
theorem x_V5z {a1 a2 a3 a4 a5 : Value} {Q1 : Bool → Me → Prop} (F : Fx Γ cc own nL ret P d mc ms) (dd : decode cc pc = .ok (.invokevirtual idx, 3)) (hL : LkV own idx mi C 5) (hci : vwCl[ci]? = some (C, T, N)) (ho : V o) (hs : shp o = .inl ci) (hd : Nat.ble (d2 + 1) d = true) (hM : ∀ (l : Launch) (E : Ev) (A : Nat → Prop), Con l E d2 mi A V ad μ (.ref (ad o) :: [a1, a2, a3, a4, a5]) (pz Q1)) (hcat : Nat.ble ((st.map fun v => v.category).sum) 8 = true) (hmc : Nat.ble cs mc = true) (hms : Nat.ble sl ms = true) (kk : ∀ (z : Bool) (μ' : Me), Q1 z μ' → XX Γ nL V ad (vl ad μ') cs sl (pc + 3) L (.int (I (bI z)) :: st)) : XX Γ nL V ad (vl ad μ) cs sl pc L (a5 :: a4 :: a3 :: a2 :: a1 :: .ref (ad o) :: st) := by
  refine x_callVG (As := [a1, a2, a3, a4, a5]) (mc2 := 0) (ms2 := 0) F dd hL hci ho hs rfl rfl hcat hd hmc hms hM ?_
  rintro v V' ad' ν' ⟨rfl, rfl, μ', rfl, z, rfl, hq⟩
  exact kk z μ' hq
theorem x_V5l {a1 a2 a3 a4 a5 : Value} {Q1 : Int → Me → Prop} (F : Fx Γ cc own nL ret P d mc ms) (dd : decode cc pc = .ok (.invokevirtual idx, 3)) (hL : LkV own idx mi C 5) (hci : vwCl[ci]? = some (C, T, N)) (ho : V o) (hs : shp o = .inl ci) (hd : Nat.ble (d2 + 1) d = true) (hM : ∀ (l : Launch) (E : Ev) (A : Nat → Prop), Con l E d2 mi A V ad μ (.ref (ad o) :: [a1, a2, a3, a4, a5]) (pl Q1)) (hcat : Nat.ble ((st.map fun v => v.category).sum) 8 = true) (hmc : Nat.ble cs mc = true) (hms : Nat.ble sl ms = true) (kk : ∀ (z : Int) (μ' : Me), Q1 z μ' → XX Γ nL V ad (vl ad μ') cs sl (pc + 3) L (.long (J z) :: st)) : XX Γ nL V ad (vl ad μ) cs sl pc L (a5 :: a4 :: a3 :: a2 :: a1 :: .ref (ad o) :: st) := by
  refine x_callVG (As := [a1, a2, a3, a4, a5]) (mc2 := 0) (ms2 := 0) F dd hL hci ho hs rfl rfl hcat hd hmc hms hM ?_
  rintro v V' ad' ν' ⟨rfl, rfl, μ', rfl, z, rfl, hq⟩
  exact kk z μ' hq
theorem x_V5v {a1 a2 a3 a4 a5 : Value} {Q1 : Me → Prop} (F : Fx Γ cc own nL ret P d mc ms) (dd : decode cc pc = .ok (.invokevirtual idx, 3)) (hL : LkV own idx mi C 5) (hci : vwCl[ci]? = some (C, T, N)) (ho : V o) (hs : shp o = .inl ci) (hd : Nat.ble (d2 + 1) d = true) (hM : ∀ (l : Launch) (E : Ev) (A : Nat → Prop), Con l E d2 mi A V ad μ (.ref (ad o) :: [a1, a2, a3, a4, a5]) (pv Q1)) (hcat : Nat.ble ((st.map fun v => v.category).sum) 8 = true) (hmc : Nat.ble cs mc = true) (hms : Nat.ble sl ms = true) (kk : ∀ (μ' : Me), Q1 μ' → XX Γ nL V ad (vl ad μ') cs sl (pc + 3) L st) : XX Γ nL V ad (vl ad μ) cs sl pc L (a5 :: a4 :: a3 :: a2 :: a1 :: .ref (ad o) :: st) := by
  refine x_callVG (As := [a1, a2, a3, a4, a5]) (mc2 := 0) (ms2 := 0) F dd hL hci ho hs rfl rfl hcat hd hmc hms hM ?_
  rintro v V' ad' ν' ⟨rfl, rfl, μ', rfl, rfl, hq⟩
  exact kk μ' hq
theorem x_V5r {a1 a2 a3 a4 a5 : Value} {Q1 : Nat → Me → Prop} (F : Fx Γ cc own nL ret P d mc ms) (dd : decode cc pc = .ok (.invokevirtual idx, 3)) (hL : LkV own idx mi C 5) (hci : vwCl[ci]? = some (C, T, N)) (ho : V o) (hs : shp o = .inl ci) (hd : Nat.ble (d2 + 1) d = true) (hM : ∀ (l : Launch) (E : Ev) (A : Nat → Prop), Con l E d2 mi A V ad μ (.ref (ad o) :: [a1, a2, a3, a4, a5]) (pr Q1)) (hcat : Nat.ble ((st.map fun v => v.category).sum) 8 = true) (hmc : Nat.ble cs mc = true) (hms : Nat.ble sl ms = true) (kk : ∀ (z : Nat) (μ' : Me), Q1 z μ' → XX Γ nL V ad (vl ad μ') cs sl (pc + 3) L (.ref z :: st)) : XX Γ nL V ad (vl ad μ) cs sl pc L (a5 :: a4 :: a3 :: a2 :: a1 :: .ref (ad o) :: st) := by
  refine x_callVG (As := [a1, a2, a3, a4, a5]) (mc2 := 0) (ms2 := 0) F dd hL hci ho hs rfl rfl hcat hd hmc hms hM ?_
  rintro v V' ad' ν' ⟨rfl, rfl, μ', rfl, z, rfl, hq⟩
  exact kk z μ' hq
theorem x_V6i {a1 a2 a3 a4 a5 a6 : Value} {Q1 : Int → Me → Prop} (F : Fx Γ cc own nL ret P d mc ms) (dd : decode cc pc = .ok (.invokevirtual idx, 3)) (hL : LkV own idx mi C 6) (hci : vwCl[ci]? = some (C, T, N)) (ho : V o) (hs : shp o = .inl ci) (hd : Nat.ble (d2 + 1) d = true) (hM : ∀ (l : Launch) (E : Ev) (A : Nat → Prop), Con l E d2 mi A V ad μ (.ref (ad o) :: [a1, a2, a3, a4, a5, a6]) (pi Q1)) (hcat : Nat.ble ((st.map fun v => v.category).sum) 8 = true) (hmc : Nat.ble cs mc = true) (hms : Nat.ble sl ms = true) (kk : ∀ (z : Int) (μ' : Me), Q1 z μ' → XX Γ nL V ad (vl ad μ') cs sl (pc + 3) L (.int (I z) :: st)) : XX Γ nL V ad (vl ad μ) cs sl pc L (a6 :: a5 :: a4 :: a3 :: a2 :: a1 :: .ref (ad o) :: st) := by
  refine x_callVG (As := [a1, a2, a3, a4, a5, a6]) (mc2 := 0) (ms2 := 0) F dd hL hci ho hs rfl rfl hcat hd hmc hms hM ?_
  rintro v V' ad' ν' ⟨rfl, rfl, μ', rfl, z, rfl, hq⟩
  exact kk z μ' hq
theorem x_V6z {a1 a2 a3 a4 a5 a6 : Value} {Q1 : Bool → Me → Prop} (F : Fx Γ cc own nL ret P d mc ms) (dd : decode cc pc = .ok (.invokevirtual idx, 3)) (hL : LkV own idx mi C 6) (hci : vwCl[ci]? = some (C, T, N)) (ho : V o) (hs : shp o = .inl ci) (hd : Nat.ble (d2 + 1) d = true) (hM : ∀ (l : Launch) (E : Ev) (A : Nat → Prop), Con l E d2 mi A V ad μ (.ref (ad o) :: [a1, a2, a3, a4, a5, a6]) (pz Q1)) (hcat : Nat.ble ((st.map fun v => v.category).sum) 8 = true) (hmc : Nat.ble cs mc = true) (hms : Nat.ble sl ms = true) (kk : ∀ (z : Bool) (μ' : Me), Q1 z μ' → XX Γ nL V ad (vl ad μ') cs sl (pc + 3) L (.int (I (bI z)) :: st)) : XX Γ nL V ad (vl ad μ) cs sl pc L (a6 :: a5 :: a4 :: a3 :: a2 :: a1 :: .ref (ad o) :: st) := by
  refine x_callVG (As := [a1, a2, a3, a4, a5, a6]) (mc2 := 0) (ms2 := 0) F dd hL hci ho hs rfl rfl hcat hd hmc hms hM ?_
  rintro v V' ad' ν' ⟨rfl, rfl, μ', rfl, z, rfl, hq⟩
  exact kk z μ' hq
theorem x_V6l {a1 a2 a3 a4 a5 a6 : Value} {Q1 : Int → Me → Prop} (F : Fx Γ cc own nL ret P d mc ms) (dd : decode cc pc = .ok (.invokevirtual idx, 3)) (hL : LkV own idx mi C 6) (hci : vwCl[ci]? = some (C, T, N)) (ho : V o) (hs : shp o = .inl ci) (hd : Nat.ble (d2 + 1) d = true) (hM : ∀ (l : Launch) (E : Ev) (A : Nat → Prop), Con l E d2 mi A V ad μ (.ref (ad o) :: [a1, a2, a3, a4, a5, a6]) (pl Q1)) (hcat : Nat.ble ((st.map fun v => v.category).sum) 8 = true) (hmc : Nat.ble cs mc = true) (hms : Nat.ble sl ms = true) (kk : ∀ (z : Int) (μ' : Me), Q1 z μ' → XX Γ nL V ad (vl ad μ') cs sl (pc + 3) L (.long (J z) :: st)) : XX Γ nL V ad (vl ad μ) cs sl pc L (a6 :: a5 :: a4 :: a3 :: a2 :: a1 :: .ref (ad o) :: st) := by
  refine x_callVG (As := [a1, a2, a3, a4, a5, a6]) (mc2 := 0) (ms2 := 0) F dd hL hci ho hs rfl rfl hcat hd hmc hms hM ?_
  rintro v V' ad' ν' ⟨rfl, rfl, μ', rfl, z, rfl, hq⟩
  exact kk z μ' hq
theorem x_V6v {a1 a2 a3 a4 a5 a6 : Value} {Q1 : Me → Prop} (F : Fx Γ cc own nL ret P d mc ms) (dd : decode cc pc = .ok (.invokevirtual idx, 3)) (hL : LkV own idx mi C 6) (hci : vwCl[ci]? = some (C, T, N)) (ho : V o) (hs : shp o = .inl ci) (hd : Nat.ble (d2 + 1) d = true) (hM : ∀ (l : Launch) (E : Ev) (A : Nat → Prop), Con l E d2 mi A V ad μ (.ref (ad o) :: [a1, a2, a3, a4, a5, a6]) (pv Q1)) (hcat : Nat.ble ((st.map fun v => v.category).sum) 8 = true) (hmc : Nat.ble cs mc = true) (hms : Nat.ble sl ms = true) (kk : ∀ (μ' : Me), Q1 μ' → XX Γ nL V ad (vl ad μ') cs sl (pc + 3) L st) : XX Γ nL V ad (vl ad μ) cs sl pc L (a6 :: a5 :: a4 :: a3 :: a2 :: a1 :: .ref (ad o) :: st) := by
  refine x_callVG (As := [a1, a2, a3, a4, a5, a6]) (mc2 := 0) (ms2 := 0) F dd hL hci ho hs rfl rfl hcat hd hmc hms hM ?_
  rintro v V' ad' ν' ⟨rfl, rfl, μ', rfl, rfl, hq⟩
  exact kk μ' hq
theorem x_V6r {a1 a2 a3 a4 a5 a6 : Value} {Q1 : Nat → Me → Prop} (F : Fx Γ cc own nL ret P d mc ms) (dd : decode cc pc = .ok (.invokevirtual idx, 3)) (hL : LkV own idx mi C 6) (hci : vwCl[ci]? = some (C, T, N)) (ho : V o) (hs : shp o = .inl ci) (hd : Nat.ble (d2 + 1) d = true) (hM : ∀ (l : Launch) (E : Ev) (A : Nat → Prop), Con l E d2 mi A V ad μ (.ref (ad o) :: [a1, a2, a3, a4, a5, a6]) (pr Q1)) (hcat : Nat.ble ((st.map fun v => v.category).sum) 8 = true) (hmc : Nat.ble cs mc = true) (hms : Nat.ble sl ms = true) (kk : ∀ (z : Nat) (μ' : Me), Q1 z μ' → XX Γ nL V ad (vl ad μ') cs sl (pc + 3) L (.ref z :: st)) : XX Γ nL V ad (vl ad μ) cs sl pc L (a6 :: a5 :: a4 :: a3 :: a2 :: a1 :: .ref (ad o) :: st) := by
  refine x_callVG (As := [a1, a2, a3, a4, a5, a6]) (mc2 := 0) (ms2 := 0) F dd hL hci ho hs rfl rfl hcat hd hmc hms hM ?_
  rintro v V' ad' ν' ⟨rfl, rfl, μ', rfl, z, rfl, hq⟩
  exact kk z μ' hq
theorem x_S0i {Q1 : Int → Me → Prop} (F : Fx Γ cc own nL ret P d mc ms) (dd : decode cc pc = .ok (.invokestatic idx, 3)) (hL : LkS own idx mi 0) (hd : Nat.ble (d2 + 1) d = true) (hM : ∀ (l : Launch) (E : Ev) (A : Nat → Prop), Con l E d2 mi A V ad μ [] (pi Q1)) (hcat : Nat.ble ((st.map fun v => v.category).sum) 8 = true) (hmc : Nat.ble cs mc = true) (hms : Nat.ble sl ms = true) (kk : ∀ (z : Int) (μ' : Me), Q1 z μ' → XX Γ nL V ad (vl ad μ') cs sl (pc + 3) L (.int (I z) :: st)) : XX Γ nL V ad (vl ad μ) cs sl pc L (st) := by
  refine x_callSG (As := []) (mc2 := 0) (ms2 := 0) F dd hL rfl rfl hcat hd hmc hms hM ?_
  rintro v V' ad' ν' ⟨rfl, rfl, μ', rfl, z, rfl, hq⟩
  exact kk z μ' hq
theorem x_S0z {Q1 : Bool → Me → Prop} (F : Fx Γ cc own nL ret P d mc ms) (dd : decode cc pc = .ok (.invokestatic idx, 3)) (hL : LkS own idx mi 0) (hd : Nat.ble (d2 + 1) d = true) (hM : ∀ (l : Launch) (E : Ev) (A : Nat → Prop), Con l E d2 mi A V ad μ [] (pz Q1)) (hcat : Nat.ble ((st.map fun v => v.category).sum) 8 = true) (hmc : Nat.ble cs mc = true) (hms : Nat.ble sl ms = true) (kk : ∀ (z : Bool) (μ' : Me), Q1 z μ' → XX Γ nL V ad (vl ad μ') cs sl (pc + 3) L (.int (I (bI z)) :: st)) : XX Γ nL V ad (vl ad μ) cs sl pc L (st) := by
  refine x_callSG (As := []) (mc2 := 0) (ms2 := 0) F dd hL rfl rfl hcat hd hmc hms hM ?_
  rintro v V' ad' ν' ⟨rfl, rfl, μ', rfl, z, rfl, hq⟩
  exact kk z μ' hq
theorem x_S0l {Q1 : Int → Me → Prop} (F : Fx Γ cc own nL ret P d mc ms) (dd : decode cc pc = .ok (.invokestatic idx, 3)) (hL : LkS own idx mi 0) (hd : Nat.ble (d2 + 1) d = true) (hM : ∀ (l : Launch) (E : Ev) (A : Nat → Prop), Con l E d2 mi A V ad μ [] (pl Q1)) (hcat : Nat.ble ((st.map fun v => v.category).sum) 8 = true) (hmc : Nat.ble cs mc = true) (hms : Nat.ble sl ms = true) (kk : ∀ (z : Int) (μ' : Me), Q1 z μ' → XX Γ nL V ad (vl ad μ') cs sl (pc + 3) L (.long (J z) :: st)) : XX Γ nL V ad (vl ad μ) cs sl pc L (st) := by
  refine x_callSG (As := []) (mc2 := 0) (ms2 := 0) F dd hL rfl rfl hcat hd hmc hms hM ?_
  rintro v V' ad' ν' ⟨rfl, rfl, μ', rfl, z, rfl, hq⟩
  exact kk z μ' hq
theorem x_S0v {Q1 : Me → Prop} (F : Fx Γ cc own nL ret P d mc ms) (dd : decode cc pc = .ok (.invokestatic idx, 3)) (hL : LkS own idx mi 0) (hd : Nat.ble (d2 + 1) d = true) (hM : ∀ (l : Launch) (E : Ev) (A : Nat → Prop), Con l E d2 mi A V ad μ [] (pv Q1)) (hcat : Nat.ble ((st.map fun v => v.category).sum) 8 = true) (hmc : Nat.ble cs mc = true) (hms : Nat.ble sl ms = true) (kk : ∀ (μ' : Me), Q1 μ' → XX Γ nL V ad (vl ad μ') cs sl (pc + 3) L st) : XX Γ nL V ad (vl ad μ) cs sl pc L (st) := by
  refine x_callSG (As := []) (mc2 := 0) (ms2 := 0) F dd hL rfl rfl hcat hd hmc hms hM ?_
  rintro v V' ad' ν' ⟨rfl, rfl, μ', rfl, rfl, hq⟩
  exact kk μ' hq
theorem x_S0r {Q1 : Nat → Me → Prop} (F : Fx Γ cc own nL ret P d mc ms) (dd : decode cc pc = .ok (.invokestatic idx, 3)) (hL : LkS own idx mi 0) (hd : Nat.ble (d2 + 1) d = true) (hM : ∀ (l : Launch) (E : Ev) (A : Nat → Prop), Con l E d2 mi A V ad μ [] (pr Q1)) (hcat : Nat.ble ((st.map fun v => v.category).sum) 8 = true) (hmc : Nat.ble cs mc = true) (hms : Nat.ble sl ms = true) (kk : ∀ (z : Nat) (μ' : Me), Q1 z μ' → XX Γ nL V ad (vl ad μ') cs sl (pc + 3) L (.ref z :: st)) : XX Γ nL V ad (vl ad μ) cs sl pc L (st) := by
  refine x_callSG (As := []) (mc2 := 0) (ms2 := 0) F dd hL rfl rfl hcat hd hmc hms hM ?_
  rintro v V' ad' ν' ⟨rfl, rfl, μ', rfl, z, rfl, hq⟩
  exact kk z μ' hq
theorem x_S1i {a1 : Value} {Q1 : Int → Me → Prop} (F : Fx Γ cc own nL ret P d mc ms) (dd : decode cc pc = .ok (.invokestatic idx, 3)) (hL : LkS own idx mi 1) (hd : Nat.ble (d2 + 1) d = true) (hM : ∀ (l : Launch) (E : Ev) (A : Nat → Prop), Con l E d2 mi A V ad μ [a1] (pi Q1)) (hcat : Nat.ble ((st.map fun v => v.category).sum) 8 = true) (hmc : Nat.ble cs mc = true) (hms : Nat.ble sl ms = true) (kk : ∀ (z : Int) (μ' : Me), Q1 z μ' → XX Γ nL V ad (vl ad μ') cs sl (pc + 3) L (.int (I z) :: st)) : XX Γ nL V ad (vl ad μ) cs sl pc L (a1 :: st) := by
  refine x_callSG (As := [a1]) (mc2 := 0) (ms2 := 0) F dd hL rfl rfl hcat hd hmc hms hM ?_
  rintro v V' ad' ν' ⟨rfl, rfl, μ', rfl, z, rfl, hq⟩
  exact kk z μ' hq
theorem x_S1z {a1 : Value} {Q1 : Bool → Me → Prop} (F : Fx Γ cc own nL ret P d mc ms) (dd : decode cc pc = .ok (.invokestatic idx, 3)) (hL : LkS own idx mi 1) (hd : Nat.ble (d2 + 1) d = true) (hM : ∀ (l : Launch) (E : Ev) (A : Nat → Prop), Con l E d2 mi A V ad μ [a1] (pz Q1)) (hcat : Nat.ble ((st.map fun v => v.category).sum) 8 = true) (hmc : Nat.ble cs mc = true) (hms : Nat.ble sl ms = true) (kk : ∀ (z : Bool) (μ' : Me), Q1 z μ' → XX Γ nL V ad (vl ad μ') cs sl (pc + 3) L (.int (I (bI z)) :: st)) : XX Γ nL V ad (vl ad μ) cs sl pc L (a1 :: st) := by
  refine x_callSG (As := [a1]) (mc2 := 0) (ms2 := 0) F dd hL rfl rfl hcat hd hmc hms hM ?_
  rintro v V' ad' ν' ⟨rfl, rfl, μ', rfl, z, rfl, hq⟩
  exact kk z μ' hq
theorem x_S1l {a1 : Value} {Q1 : Int → Me → Prop} (F : Fx Γ cc own nL ret P d mc ms) (dd : decode cc pc = .ok (.invokestatic idx, 3)) (hL : LkS own idx mi 1) (hd : Nat.ble (d2 + 1) d = true) (hM : ∀ (l : Launch) (E : Ev) (A : Nat → Prop), Con l E d2 mi A V ad μ [a1] (pl Q1)) (hcat : Nat.ble ((st.map fun v => v.category).sum) 8 = true) (hmc : Nat.ble cs mc = true) (hms : Nat.ble sl ms = true) (kk : ∀ (z : Int) (μ' : Me), Q1 z μ' → XX Γ nL V ad (vl ad μ') cs sl (pc + 3) L (.long (J z) :: st)) : XX Γ nL V ad (vl ad μ) cs sl pc L (a1 :: st) := by
  refine x_callSG (As := [a1]) (mc2 := 0) (ms2 := 0) F dd hL rfl rfl hcat hd hmc hms hM ?_
  rintro v V' ad' ν' ⟨rfl, rfl, μ', rfl, z, rfl, hq⟩
  exact kk z μ' hq
theorem x_S1v {a1 : Value} {Q1 : Me → Prop} (F : Fx Γ cc own nL ret P d mc ms) (dd : decode cc pc = .ok (.invokestatic idx, 3)) (hL : LkS own idx mi 1) (hd : Nat.ble (d2 + 1) d = true) (hM : ∀ (l : Launch) (E : Ev) (A : Nat → Prop), Con l E d2 mi A V ad μ [a1] (pv Q1)) (hcat : Nat.ble ((st.map fun v => v.category).sum) 8 = true) (hmc : Nat.ble cs mc = true) (hms : Nat.ble sl ms = true) (kk : ∀ (μ' : Me), Q1 μ' → XX Γ nL V ad (vl ad μ') cs sl (pc + 3) L st) : XX Γ nL V ad (vl ad μ) cs sl pc L (a1 :: st) := by
  refine x_callSG (As := [a1]) (mc2 := 0) (ms2 := 0) F dd hL rfl rfl hcat hd hmc hms hM ?_
  rintro v V' ad' ν' ⟨rfl, rfl, μ', rfl, rfl, hq⟩
  exact kk μ' hq
theorem x_S1r {a1 : Value} {Q1 : Nat → Me → Prop} (F : Fx Γ cc own nL ret P d mc ms) (dd : decode cc pc = .ok (.invokestatic idx, 3)) (hL : LkS own idx mi 1) (hd : Nat.ble (d2 + 1) d = true) (hM : ∀ (l : Launch) (E : Ev) (A : Nat → Prop), Con l E d2 mi A V ad μ [a1] (pr Q1)) (hcat : Nat.ble ((st.map fun v => v.category).sum) 8 = true) (hmc : Nat.ble cs mc = true) (hms : Nat.ble sl ms = true) (kk : ∀ (z : Nat) (μ' : Me), Q1 z μ' → XX Γ nL V ad (vl ad μ') cs sl (pc + 3) L (.ref z :: st)) : XX Γ nL V ad (vl ad μ) cs sl pc L (a1 :: st) := by
  refine x_callSG (As := [a1]) (mc2 := 0) (ms2 := 0) F dd hL rfl rfl hcat hd hmc hms hM ?_
  rintro v V' ad' ν' ⟨rfl, rfl, μ', rfl, z, rfl, hq⟩
  exact kk z μ' hq
theorem x_S2i {a1 a2 : Value} {Q1 : Int → Me → Prop} (F : Fx Γ cc own nL ret P d mc ms) (dd : decode cc pc = .ok (.invokestatic idx, 3)) (hL : LkS own idx mi 2) (hd : Nat.ble (d2 + 1) d = true) (hM : ∀ (l : Launch) (E : Ev) (A : Nat → Prop), Con l E d2 mi A V ad μ [a1, a2] (pi Q1)) (hcat : Nat.ble ((st.map fun v => v.category).sum) 8 = true) (hmc : Nat.ble cs mc = true) (hms : Nat.ble sl ms = true) (kk : ∀ (z : Int) (μ' : Me), Q1 z μ' → XX Γ nL V ad (vl ad μ') cs sl (pc + 3) L (.int (I z) :: st)) : XX Γ nL V ad (vl ad μ) cs sl pc L (a2 :: a1 :: st) := by
  refine x_callSG (As := [a1, a2]) (mc2 := 0) (ms2 := 0) F dd hL rfl rfl hcat hd hmc hms hM ?_
  rintro v V' ad' ν' ⟨rfl, rfl, μ', rfl, z, rfl, hq⟩
  exact kk z μ' hq
theorem x_N2i {host : String} {a1 a2 : Value} {Q1 : Int → Me → Prop} (F : Fx Γ cc own nL ret P d mc ms) (dd : decode cc pc = .ok (.invokestatic idx, 3)) (hL : LkSN own idx mi host 2) (hd : Nat.ble (d2 + 1) d = true) (hM : ∀ (l : Launch) (E : Ev) (A : Nat → Prop), Con l E d2 mi A V ad μ [a1, a2] (pi Q1)) (hcat : Nat.ble ((st.map fun v => v.category).sum) 8 = true) (hmc : Nat.ble cs mc = true) (hms : Nat.ble sl ms = true) (kk : ∀ (z : Int) (μ' : Me), Q1 z μ' → XX Γ nL V ad (vl ad μ') cs sl (pc + 3) L (.int (I z) :: st)) : XX Γ nL V ad (vl ad μ) cs sl pc L (a2 :: a1 :: st) := by
  refine x_callSNG (As := [a1, a2]) (mc2 := 0) (ms2 := 0) F dd hL rfl rfl hcat hd hmc hms hM ?_
  rintro v V' ad' ν' ⟨rfl, rfl, μ', rfl, z, rfl, hq⟩
  exact kk z μ' hq
theorem x_S2z {a1 a2 : Value} {Q1 : Bool → Me → Prop} (F : Fx Γ cc own nL ret P d mc ms) (dd : decode cc pc = .ok (.invokestatic idx, 3)) (hL : LkS own idx mi 2) (hd : Nat.ble (d2 + 1) d = true) (hM : ∀ (l : Launch) (E : Ev) (A : Nat → Prop), Con l E d2 mi A V ad μ [a1, a2] (pz Q1)) (hcat : Nat.ble ((st.map fun v => v.category).sum) 8 = true) (hmc : Nat.ble cs mc = true) (hms : Nat.ble sl ms = true) (kk : ∀ (z : Bool) (μ' : Me), Q1 z μ' → XX Γ nL V ad (vl ad μ') cs sl (pc + 3) L (.int (I (bI z)) :: st)) : XX Γ nL V ad (vl ad μ) cs sl pc L (a2 :: a1 :: st) := by
  refine x_callSG (As := [a1, a2]) (mc2 := 0) (ms2 := 0) F dd hL rfl rfl hcat hd hmc hms hM ?_
  rintro v V' ad' ν' ⟨rfl, rfl, μ', rfl, z, rfl, hq⟩
  exact kk z μ' hq
theorem x_N2z {host : String} {a1 a2 : Value} {Q1 : Bool → Me → Prop} (F : Fx Γ cc own nL ret P d mc ms) (dd : decode cc pc = .ok (.invokestatic idx, 3)) (hL : LkSN own idx mi host 2) (hd : Nat.ble (d2 + 1) d = true) (hM : ∀ (l : Launch) (E : Ev) (A : Nat → Prop), Con l E d2 mi A V ad μ [a1, a2] (pz Q1)) (hcat : Nat.ble ((st.map fun v => v.category).sum) 8 = true) (hmc : Nat.ble cs mc = true) (hms : Nat.ble sl ms = true) (kk : ∀ (z : Bool) (μ' : Me), Q1 z μ' → XX Γ nL V ad (vl ad μ') cs sl (pc + 3) L (.int (I (bI z)) :: st)) : XX Γ nL V ad (vl ad μ) cs sl pc L (a2 :: a1 :: st) := by
  refine x_callSNG (As := [a1, a2]) (mc2 := 0) (ms2 := 0) F dd hL rfl rfl hcat hd hmc hms hM ?_
  rintro v V' ad' ν' ⟨rfl, rfl, μ', rfl, z, rfl, hq⟩
  exact kk z μ' hq
theorem x_S2l {a1 a2 : Value} {Q1 : Int → Me → Prop} (F : Fx Γ cc own nL ret P d mc ms) (dd : decode cc pc = .ok (.invokestatic idx, 3)) (hL : LkS own idx mi 2) (hd : Nat.ble (d2 + 1) d = true) (hM : ∀ (l : Launch) (E : Ev) (A : Nat → Prop), Con l E d2 mi A V ad μ [a1, a2] (pl Q1)) (hcat : Nat.ble ((st.map fun v => v.category).sum) 8 = true) (hmc : Nat.ble cs mc = true) (hms : Nat.ble sl ms = true) (kk : ∀ (z : Int) (μ' : Me), Q1 z μ' → XX Γ nL V ad (vl ad μ') cs sl (pc + 3) L (.long (J z) :: st)) : XX Γ nL V ad (vl ad μ) cs sl pc L (a2 :: a1 :: st) := by
  refine x_callSG (As := [a1, a2]) (mc2 := 0) (ms2 := 0) F dd hL rfl rfl hcat hd hmc hms hM ?_
  rintro v V' ad' ν' ⟨rfl, rfl, μ', rfl, z, rfl, hq⟩
  exact kk z μ' hq
theorem x_N2l {host : String} {a1 a2 : Value} {Q1 : Int → Me → Prop} (F : Fx Γ cc own nL ret P d mc ms) (dd : decode cc pc = .ok (.invokestatic idx, 3)) (hL : LkSN own idx mi host 2) (hd : Nat.ble (d2 + 1) d = true) (hM : ∀ (l : Launch) (E : Ev) (A : Nat → Prop), Con l E d2 mi A V ad μ [a1, a2] (pl Q1)) (hcat : Nat.ble ((st.map fun v => v.category).sum) 8 = true) (hmc : Nat.ble cs mc = true) (hms : Nat.ble sl ms = true) (kk : ∀ (z : Int) (μ' : Me), Q1 z μ' → XX Γ nL V ad (vl ad μ') cs sl (pc + 3) L (.long (J z) :: st)) : XX Γ nL V ad (vl ad μ) cs sl pc L (a2 :: a1 :: st) := by
  refine x_callSNG (As := [a1, a2]) (mc2 := 0) (ms2 := 0) F dd hL rfl rfl hcat hd hmc hms hM ?_
  rintro v V' ad' ν' ⟨rfl, rfl, μ', rfl, z, rfl, hq⟩
  exact kk z μ' hq
theorem x_S2v {a1 a2 : Value} {Q1 : Me → Prop} (F : Fx Γ cc own nL ret P d mc ms) (dd : decode cc pc = .ok (.invokestatic idx, 3)) (hL : LkS own idx mi 2) (hd : Nat.ble (d2 + 1) d = true) (hM : ∀ (l : Launch) (E : Ev) (A : Nat → Prop), Con l E d2 mi A V ad μ [a1, a2] (pv Q1)) (hcat : Nat.ble ((st.map fun v => v.category).sum) 8 = true) (hmc : Nat.ble cs mc = true) (hms : Nat.ble sl ms = true) (kk : ∀ (μ' : Me), Q1 μ' → XX Γ nL V ad (vl ad μ') cs sl (pc + 3) L st) : XX Γ nL V ad (vl ad μ) cs sl pc L (a2 :: a1 :: st) := by
  refine x_callSG (As := [a1, a2]) (mc2 := 0) (ms2 := 0) F dd hL rfl rfl hcat hd hmc hms hM ?_
  rintro v V' ad' ν' ⟨rfl, rfl, μ', rfl, rfl, hq⟩
  exact kk μ' hq
theorem x_N2v {host : String} {a1 a2 : Value} {Q1 : Me → Prop} (F : Fx Γ cc own nL ret P d mc ms) (dd : decode cc pc = .ok (.invokestatic idx, 3)) (hL : LkSN own idx mi host 2) (hd : Nat.ble (d2 + 1) d = true) (hM : ∀ (l : Launch) (E : Ev) (A : Nat → Prop), Con l E d2 mi A V ad μ [a1, a2] (pv Q1)) (hcat : Nat.ble ((st.map fun v => v.category).sum) 8 = true) (hmc : Nat.ble cs mc = true) (hms : Nat.ble sl ms = true) (kk : ∀ (μ' : Me), Q1 μ' → XX Γ nL V ad (vl ad μ') cs sl (pc + 3) L st) : XX Γ nL V ad (vl ad μ) cs sl pc L (a2 :: a1 :: st) := by
  refine x_callSNG (As := [a1, a2]) (mc2 := 0) (ms2 := 0) F dd hL rfl rfl hcat hd hmc hms hM ?_
  rintro v V' ad' ν' ⟨rfl, rfl, μ', rfl, rfl, hq⟩
  exact kk μ' hq
theorem x_S2r {a1 a2 : Value} {Q1 : Nat → Me → Prop} (F : Fx Γ cc own nL ret P d mc ms) (dd : decode cc pc = .ok (.invokestatic idx, 3)) (hL : LkS own idx mi 2) (hd : Nat.ble (d2 + 1) d = true) (hM : ∀ (l : Launch) (E : Ev) (A : Nat → Prop), Con l E d2 mi A V ad μ [a1, a2] (pr Q1)) (hcat : Nat.ble ((st.map fun v => v.category).sum) 8 = true) (hmc : Nat.ble cs mc = true) (hms : Nat.ble sl ms = true) (kk : ∀ (z : Nat) (μ' : Me), Q1 z μ' → XX Γ nL V ad (vl ad μ') cs sl (pc + 3) L (.ref z :: st)) : XX Γ nL V ad (vl ad μ) cs sl pc L (a2 :: a1 :: st) := by
  refine x_callSG (As := [a1, a2]) (mc2 := 0) (ms2 := 0) F dd hL rfl rfl hcat hd hmc hms hM ?_
  rintro v V' ad' ν' ⟨rfl, rfl, μ', rfl, z, rfl, hq⟩
  exact kk z μ' hq
theorem x_N2r {host : String} {a1 a2 : Value} {Q1 : Nat → Me → Prop} (F : Fx Γ cc own nL ret P d mc ms) (dd : decode cc pc = .ok (.invokestatic idx, 3)) (hL : LkSN own idx mi host 2) (hd : Nat.ble (d2 + 1) d = true) (hM : ∀ (l : Launch) (E : Ev) (A : Nat → Prop), Con l E d2 mi A V ad μ [a1, a2] (pr Q1)) (hcat : Nat.ble ((st.map fun v => v.category).sum) 8 = true) (hmc : Nat.ble cs mc = true) (hms : Nat.ble sl ms = true) (kk : ∀ (z : Nat) (μ' : Me), Q1 z μ' → XX Γ nL V ad (vl ad μ') cs sl (pc + 3) L (.ref z :: st)) : XX Γ nL V ad (vl ad μ) cs sl pc L (a2 :: a1 :: st) := by
  refine x_callSNG (As := [a1, a2]) (mc2 := 0) (ms2 := 0) F dd hL rfl rfl hcat hd hmc hms hM ?_
  rintro v V' ad' ν' ⟨rfl, rfl, μ', rfl, z, rfl, hq⟩
  exact kk z μ' hq
theorem x_S3i {a1 a2 a3 : Value} {Q1 : Int → Me → Prop} (F : Fx Γ cc own nL ret P d mc ms) (dd : decode cc pc = .ok (.invokestatic idx, 3)) (hL : LkS own idx mi 3) (hd : Nat.ble (d2 + 1) d = true) (hM : ∀ (l : Launch) (E : Ev) (A : Nat → Prop), Con l E d2 mi A V ad μ [a1, a2, a3] (pi Q1)) (hcat : Nat.ble ((st.map fun v => v.category).sum) 8 = true) (hmc : Nat.ble cs mc = true) (hms : Nat.ble sl ms = true) (kk : ∀ (z : Int) (μ' : Me), Q1 z μ' → XX Γ nL V ad (vl ad μ') cs sl (pc + 3) L (.int (I z) :: st)) : XX Γ nL V ad (vl ad μ) cs sl pc L (a3 :: a2 :: a1 :: st) := by
  refine x_callSG (As := [a1, a2, a3]) (mc2 := 0) (ms2 := 0) F dd hL rfl rfl hcat hd hmc hms hM ?_
  rintro v V' ad' ν' ⟨rfl, rfl, μ', rfl, z, rfl, hq⟩
  exact kk z μ' hq
theorem x_S3z {a1 a2 a3 : Value} {Q1 : Bool → Me → Prop} (F : Fx Γ cc own nL ret P d mc ms) (dd : decode cc pc = .ok (.invokestatic idx, 3)) (hL : LkS own idx mi 3) (hd : Nat.ble (d2 + 1) d = true) (hM : ∀ (l : Launch) (E : Ev) (A : Nat → Prop), Con l E d2 mi A V ad μ [a1, a2, a3] (pz Q1)) (hcat : Nat.ble ((st.map fun v => v.category).sum) 8 = true) (hmc : Nat.ble cs mc = true) (hms : Nat.ble sl ms = true) (kk : ∀ (z : Bool) (μ' : Me), Q1 z μ' → XX Γ nL V ad (vl ad μ') cs sl (pc + 3) L (.int (I (bI z)) :: st)) : XX Γ nL V ad (vl ad μ) cs sl pc L (a3 :: a2 :: a1 :: st) := by
  refine x_callSG (As := [a1, a2, a3]) (mc2 := 0) (ms2 := 0) F dd hL rfl rfl hcat hd hmc hms hM ?_
  rintro v V' ad' ν' ⟨rfl, rfl, μ', rfl, z, rfl, hq⟩
  exact kk z μ' hq
theorem x_S3l {a1 a2 a3 : Value} {Q1 : Int → Me → Prop} (F : Fx Γ cc own nL ret P d mc ms) (dd : decode cc pc = .ok (.invokestatic idx, 3)) (hL : LkS own idx mi 3) (hd : Nat.ble (d2 + 1) d = true) (hM : ∀ (l : Launch) (E : Ev) (A : Nat → Prop), Con l E d2 mi A V ad μ [a1, a2, a3] (pl Q1)) (hcat : Nat.ble ((st.map fun v => v.category).sum) 8 = true) (hmc : Nat.ble cs mc = true) (hms : Nat.ble sl ms = true) (kk : ∀ (z : Int) (μ' : Me), Q1 z μ' → XX Γ nL V ad (vl ad μ') cs sl (pc + 3) L (.long (J z) :: st)) : XX Γ nL V ad (vl ad μ) cs sl pc L (a3 :: a2 :: a1 :: st) := by
  refine x_callSG (As := [a1, a2, a3]) (mc2 := 0) (ms2 := 0) F dd hL rfl rfl hcat hd hmc hms hM ?_
  rintro v V' ad' ν' ⟨rfl, rfl, μ', rfl, z, rfl, hq⟩
  exact kk z μ' hq
theorem x_S3v {a1 a2 a3 : Value} {Q1 : Me → Prop} (F : Fx Γ cc own nL ret P d mc ms) (dd : decode cc pc = .ok (.invokestatic idx, 3)) (hL : LkS own idx mi 3) (hd : Nat.ble (d2 + 1) d = true) (hM : ∀ (l : Launch) (E : Ev) (A : Nat → Prop), Con l E d2 mi A V ad μ [a1, a2, a3] (pv Q1)) (hcat : Nat.ble ((st.map fun v => v.category).sum) 8 = true) (hmc : Nat.ble cs mc = true) (hms : Nat.ble sl ms = true) (kk : ∀ (μ' : Me), Q1 μ' → XX Γ nL V ad (vl ad μ') cs sl (pc + 3) L st) : XX Γ nL V ad (vl ad μ) cs sl pc L (a3 :: a2 :: a1 :: st) := by
  refine x_callSG (As := [a1, a2, a3]) (mc2 := 0) (ms2 := 0) F dd hL rfl rfl hcat hd hmc hms hM ?_
  rintro v V' ad' ν' ⟨rfl, rfl, μ', rfl, rfl, hq⟩
  exact kk μ' hq
theorem x_S3r {a1 a2 a3 : Value} {Q1 : Nat → Me → Prop} (F : Fx Γ cc own nL ret P d mc ms) (dd : decode cc pc = .ok (.invokestatic idx, 3)) (hL : LkS own idx mi 3) (hd : Nat.ble (d2 + 1) d = true) (hM : ∀ (l : Launch) (E : Ev) (A : Nat → Prop), Con l E d2 mi A V ad μ [a1, a2, a3] (pr Q1)) (hcat : Nat.ble ((st.map fun v => v.category).sum) 8 = true) (hmc : Nat.ble cs mc = true) (hms : Nat.ble sl ms = true) (kk : ∀ (z : Nat) (μ' : Me), Q1 z μ' → XX Γ nL V ad (vl ad μ') cs sl (pc + 3) L (.ref z :: st)) : XX Γ nL V ad (vl ad μ) cs sl pc L (a3 :: a2 :: a1 :: st) := by
  refine x_callSG (As := [a1, a2, a3]) (mc2 := 0) (ms2 := 0) F dd hL rfl rfl hcat hd hmc hms hM ?_
  rintro v V' ad' ν' ⟨rfl, rfl, μ', rfl, z, rfl, hq⟩
  exact kk z μ' hq
theorem x_S4i {a1 a2 a3 a4 : Value} {Q1 : Int → Me → Prop} (F : Fx Γ cc own nL ret P d mc ms) (dd : decode cc pc = .ok (.invokestatic idx, 3)) (hL : LkS own idx mi 4) (hd : Nat.ble (d2 + 1) d = true) (hM : ∀ (l : Launch) (E : Ev) (A : Nat → Prop), Con l E d2 mi A V ad μ [a1, a2, a3, a4] (pi Q1)) (hcat : Nat.ble ((st.map fun v => v.category).sum) 8 = true) (hmc : Nat.ble cs mc = true) (hms : Nat.ble sl ms = true) (kk : ∀ (z : Int) (μ' : Me), Q1 z μ' → XX Γ nL V ad (vl ad μ') cs sl (pc + 3) L (.int (I z) :: st)) : XX Γ nL V ad (vl ad μ) cs sl pc L (a4 :: a3 :: a2 :: a1 :: st) := by
  refine x_callSG (As := [a1, a2, a3, a4]) (mc2 := 0) (ms2 := 0) F dd hL rfl rfl hcat hd hmc hms hM ?_
  rintro v V' ad' ν' ⟨rfl, rfl, μ', rfl, z, rfl, hq⟩
  exact kk z μ' hq
theorem x_S4z {a1 a2 a3 a4 : Value} {Q1 : Bool → Me → Prop} (F : Fx Γ cc own nL ret P d mc ms) (dd : decode cc pc = .ok (.invokestatic idx, 3)) (hL : LkS own idx mi 4) (hd : Nat.ble (d2 + 1) d = true) (hM : ∀ (l : Launch) (E : Ev) (A : Nat → Prop), Con l E d2 mi A V ad μ [a1, a2, a3, a4] (pz Q1)) (hcat : Nat.ble ((st.map fun v => v.category).sum) 8 = true) (hmc : Nat.ble cs mc = true) (hms : Nat.ble sl ms = true) (kk : ∀ (z : Bool) (μ' : Me), Q1 z μ' → XX Γ nL V ad (vl ad μ') cs sl (pc + 3) L (.int (I (bI z)) :: st)) : XX Γ nL V ad (vl ad μ) cs sl pc L (a4 :: a3 :: a2 :: a1 :: st) := by
  refine x_callSG (As := [a1, a2, a3, a4]) (mc2 := 0) (ms2 := 0) F dd hL rfl rfl hcat hd hmc hms hM ?_
  rintro v V' ad' ν' ⟨rfl, rfl, μ', rfl, z, rfl, hq⟩
  exact kk z μ' hq
theorem x_S4l {a1 a2 a3 a4 : Value} {Q1 : Int → Me → Prop} (F : Fx Γ cc own nL ret P d mc ms) (dd : decode cc pc = .ok (.invokestatic idx, 3)) (hL : LkS own idx mi 4) (hd : Nat.ble (d2 + 1) d = true) (hM : ∀ (l : Launch) (E : Ev) (A : Nat → Prop), Con l E d2 mi A V ad μ [a1, a2, a3, a4] (pl Q1)) (hcat : Nat.ble ((st.map fun v => v.category).sum) 8 = true) (hmc : Nat.ble cs mc = true) (hms : Nat.ble sl ms = true) (kk : ∀ (z : Int) (μ' : Me), Q1 z μ' → XX Γ nL V ad (vl ad μ') cs sl (pc + 3) L (.long (J z) :: st)) : XX Γ nL V ad (vl ad μ) cs sl pc L (a4 :: a3 :: a2 :: a1 :: st) := by
  refine x_callSG (As := [a1, a2, a3, a4]) (mc2 := 0) (ms2 := 0) F dd hL rfl rfl hcat hd hmc hms hM ?_
  rintro v V' ad' ν' ⟨rfl, rfl, μ', rfl, z, rfl, hq⟩
  exact kk z μ' hq
theorem x_S4v {a1 a2 a3 a4 : Value} {Q1 : Me → Prop} (F : Fx Γ cc own nL ret P d mc ms) (dd : decode cc pc = .ok (.invokestatic idx, 3)) (hL : LkS own idx mi 4) (hd : Nat.ble (d2 + 1) d = true) (hM : ∀ (l : Launch) (E : Ev) (A : Nat → Prop), Con l E d2 mi A V ad μ [a1, a2, a3, a4] (pv Q1)) (hcat : Nat.ble ((st.map fun v => v.category).sum) 8 = true) (hmc : Nat.ble cs mc = true) (hms : Nat.ble sl ms = true) (kk : ∀ (μ' : Me), Q1 μ' → XX Γ nL V ad (vl ad μ') cs sl (pc + 3) L st) : XX Γ nL V ad (vl ad μ) cs sl pc L (a4 :: a3 :: a2 :: a1 :: st) := by
  refine x_callSG (As := [a1, a2, a3, a4]) (mc2 := 0) (ms2 := 0) F dd hL rfl rfl hcat hd hmc hms hM ?_
  rintro v V' ad' ν' ⟨rfl, rfl, μ', rfl, rfl, hq⟩
  exact kk μ' hq
theorem x_S4r {a1 a2 a3 a4 : Value} {Q1 : Nat → Me → Prop} (F : Fx Γ cc own nL ret P d mc ms) (dd : decode cc pc = .ok (.invokestatic idx, 3)) (hL : LkS own idx mi 4) (hd : Nat.ble (d2 + 1) d = true) (hM : ∀ (l : Launch) (E : Ev) (A : Nat → Prop), Con l E d2 mi A V ad μ [a1, a2, a3, a4] (pr Q1)) (hcat : Nat.ble ((st.map fun v => v.category).sum) 8 = true) (hmc : Nat.ble cs mc = true) (hms : Nat.ble sl ms = true) (kk : ∀ (z : Nat) (μ' : Me), Q1 z μ' → XX Γ nL V ad (vl ad μ') cs sl (pc + 3) L (.ref z :: st)) : XX Γ nL V ad (vl ad μ) cs sl pc L (a4 :: a3 :: a2 :: a1 :: st) := by
  refine x_callSG (As := [a1, a2, a3, a4]) (mc2 := 0) (ms2 := 0) F dd hL rfl rfl hcat hd hmc hms hM ?_
  rintro v V' ad' ν' ⟨rfl, rfl, μ', rfl, z, rfl, hq⟩
  exact kk z μ' hq
theorem x_S5i {a1 a2 a3 a4 a5 : Value} {Q1 : Int → Me → Prop} (F : Fx Γ cc own nL ret P d mc ms) (dd : decode cc pc = .ok (.invokestatic idx, 3)) (hL : LkS own idx mi 5) (hd : Nat.ble (d2 + 1) d = true) (hM : ∀ (l : Launch) (E : Ev) (A : Nat → Prop), Con l E d2 mi A V ad μ [a1, a2, a3, a4, a5] (pi Q1)) (hcat : Nat.ble ((st.map fun v => v.category).sum) 8 = true) (hmc : Nat.ble cs mc = true) (hms : Nat.ble sl ms = true) (kk : ∀ (z : Int) (μ' : Me), Q1 z μ' → XX Γ nL V ad (vl ad μ') cs sl (pc + 3) L (.int (I z) :: st)) : XX Γ nL V ad (vl ad μ) cs sl pc L (a5 :: a4 :: a3 :: a2 :: a1 :: st) := by
  refine x_callSG (As := [a1, a2, a3, a4, a5]) (mc2 := 0) (ms2 := 0) F dd hL rfl rfl hcat hd hmc hms hM ?_
  rintro v V' ad' ν' ⟨rfl, rfl, μ', rfl, z, rfl, hq⟩
  exact kk z μ' hq
theorem x_S5z {a1 a2 a3 a4 a5 : Value} {Q1 : Bool → Me → Prop} (F : Fx Γ cc own nL ret P d mc ms) (dd : decode cc pc = .ok (.invokestatic idx, 3)) (hL : LkS own idx mi 5) (hd : Nat.ble (d2 + 1) d = true) (hM : ∀ (l : Launch) (E : Ev) (A : Nat → Prop), Con l E d2 mi A V ad μ [a1, a2, a3, a4, a5] (pz Q1)) (hcat : Nat.ble ((st.map fun v => v.category).sum) 8 = true) (hmc : Nat.ble cs mc = true) (hms : Nat.ble sl ms = true) (kk : ∀ (z : Bool) (μ' : Me), Q1 z μ' → XX Γ nL V ad (vl ad μ') cs sl (pc + 3) L (.int (I (bI z)) :: st)) : XX Γ nL V ad (vl ad μ) cs sl pc L (a5 :: a4 :: a3 :: a2 :: a1 :: st) := by
  refine x_callSG (As := [a1, a2, a3, a4, a5]) (mc2 := 0) (ms2 := 0) F dd hL rfl rfl hcat hd hmc hms hM ?_
  rintro v V' ad' ν' ⟨rfl, rfl, μ', rfl, z, rfl, hq⟩
  exact kk z μ' hq
theorem x_S5l {a1 a2 a3 a4 a5 : Value} {Q1 : Int → Me → Prop} (F : Fx Γ cc own nL ret P d mc ms) (dd : decode cc pc = .ok (.invokestatic idx, 3)) (hL : LkS own idx mi 5) (hd : Nat.ble (d2 + 1) d = true) (hM : ∀ (l : Launch) (E : Ev) (A : Nat → Prop), Con l E d2 mi A V ad μ [a1, a2, a3, a4, a5] (pl Q1)) (hcat : Nat.ble ((st.map fun v => v.category).sum) 8 = true) (hmc : Nat.ble cs mc = true) (hms : Nat.ble sl ms = true) (kk : ∀ (z : Int) (μ' : Me), Q1 z μ' → XX Γ nL V ad (vl ad μ') cs sl (pc + 3) L (.long (J z) :: st)) : XX Γ nL V ad (vl ad μ) cs sl pc L (a5 :: a4 :: a3 :: a2 :: a1 :: st) := by
  refine x_callSG (As := [a1, a2, a3, a4, a5]) (mc2 := 0) (ms2 := 0) F dd hL rfl rfl hcat hd hmc hms hM ?_
  rintro v V' ad' ν' ⟨rfl, rfl, μ', rfl, z, rfl, hq⟩
  exact kk z μ' hq
theorem x_S5v {a1 a2 a3 a4 a5 : Value} {Q1 : Me → Prop} (F : Fx Γ cc own nL ret P d mc ms) (dd : decode cc pc = .ok (.invokestatic idx, 3)) (hL : LkS own idx mi 5) (hd : Nat.ble (d2 + 1) d = true) (hM : ∀ (l : Launch) (E : Ev) (A : Nat → Prop), Con l E d2 mi A V ad μ [a1, a2, a3, a4, a5] (pv Q1)) (hcat : Nat.ble ((st.map fun v => v.category).sum) 8 = true) (hmc : Nat.ble cs mc = true) (hms : Nat.ble sl ms = true) (kk : ∀ (μ' : Me), Q1 μ' → XX Γ nL V ad (vl ad μ') cs sl (pc + 3) L st) : XX Γ nL V ad (vl ad μ) cs sl pc L (a5 :: a4 :: a3 :: a2 :: a1 :: st) := by
  refine x_callSG (As := [a1, a2, a3, a4, a5]) (mc2 := 0) (ms2 := 0) F dd hL rfl rfl hcat hd hmc hms hM ?_
  rintro v V' ad' ν' ⟨rfl, rfl, μ', rfl, rfl, hq⟩
  exact kk μ' hq
theorem x_S5r {a1 a2 a3 a4 a5 : Value} {Q1 : Nat → Me → Prop} (F : Fx Γ cc own nL ret P d mc ms) (dd : decode cc pc = .ok (.invokestatic idx, 3)) (hL : LkS own idx mi 5) (hd : Nat.ble (d2 + 1) d = true) (hM : ∀ (l : Launch) (E : Ev) (A : Nat → Prop), Con l E d2 mi A V ad μ [a1, a2, a3, a4, a5] (pr Q1)) (hcat : Nat.ble ((st.map fun v => v.category).sum) 8 = true) (hmc : Nat.ble cs mc = true) (hms : Nat.ble sl ms = true) (kk : ∀ (z : Nat) (μ' : Me), Q1 z μ' → XX Γ nL V ad (vl ad μ') cs sl (pc + 3) L (.ref z :: st)) : XX Γ nL V ad (vl ad μ) cs sl pc L (a5 :: a4 :: a3 :: a2 :: a1 :: st) := by
  refine x_callSG (As := [a1, a2, a3, a4, a5]) (mc2 := 0) (ms2 := 0) F dd hL rfl rfl hcat hd hmc hms hM ?_
  rintro v V' ad' ν' ⟨rfl, rfl, μ', rfl, z, rfl, hq⟩
  exact kk z μ' hq
theorem x_S6i {a1 a2 a3 a4 a5 a6 : Value} {Q1 : Int → Me → Prop} (F : Fx Γ cc own nL ret P d mc ms) (dd : decode cc pc = .ok (.invokestatic idx, 3)) (hL : LkS own idx mi 6) (hd : Nat.ble (d2 + 1) d = true) (hM : ∀ (l : Launch) (E : Ev) (A : Nat → Prop), Con l E d2 mi A V ad μ [a1, a2, a3, a4, a5, a6] (pi Q1)) (hcat : Nat.ble ((st.map fun v => v.category).sum) 8 = true) (hmc : Nat.ble cs mc = true) (hms : Nat.ble sl ms = true) (kk : ∀ (z : Int) (μ' : Me), Q1 z μ' → XX Γ nL V ad (vl ad μ') cs sl (pc + 3) L (.int (I z) :: st)) : XX Γ nL V ad (vl ad μ) cs sl pc L (a6 :: a5 :: a4 :: a3 :: a2 :: a1 :: st) := by
  refine x_callSG (As := [a1, a2, a3, a4, a5, a6]) (mc2 := 0) (ms2 := 0) F dd hL rfl rfl hcat hd hmc hms hM ?_
  rintro v V' ad' ν' ⟨rfl, rfl, μ', rfl, z, rfl, hq⟩
  exact kk z μ' hq
theorem x_S6z {a1 a2 a3 a4 a5 a6 : Value} {Q1 : Bool → Me → Prop} (F : Fx Γ cc own nL ret P d mc ms) (dd : decode cc pc = .ok (.invokestatic idx, 3)) (hL : LkS own idx mi 6) (hd : Nat.ble (d2 + 1) d = true) (hM : ∀ (l : Launch) (E : Ev) (A : Nat → Prop), Con l E d2 mi A V ad μ [a1, a2, a3, a4, a5, a6] (pz Q1)) (hcat : Nat.ble ((st.map fun v => v.category).sum) 8 = true) (hmc : Nat.ble cs mc = true) (hms : Nat.ble sl ms = true) (kk : ∀ (z : Bool) (μ' : Me), Q1 z μ' → XX Γ nL V ad (vl ad μ') cs sl (pc + 3) L (.int (I (bI z)) :: st)) : XX Γ nL V ad (vl ad μ) cs sl pc L (a6 :: a5 :: a4 :: a3 :: a2 :: a1 :: st) := by
  refine x_callSG (As := [a1, a2, a3, a4, a5, a6]) (mc2 := 0) (ms2 := 0) F dd hL rfl rfl hcat hd hmc hms hM ?_
  rintro v V' ad' ν' ⟨rfl, rfl, μ', rfl, z, rfl, hq⟩
  exact kk z μ' hq
theorem x_S6l {a1 a2 a3 a4 a5 a6 : Value} {Q1 : Int → Me → Prop} (F : Fx Γ cc own nL ret P d mc ms) (dd : decode cc pc = .ok (.invokestatic idx, 3)) (hL : LkS own idx mi 6) (hd : Nat.ble (d2 + 1) d = true) (hM : ∀ (l : Launch) (E : Ev) (A : Nat → Prop), Con l E d2 mi A V ad μ [a1, a2, a3, a4, a5, a6] (pl Q1)) (hcat : Nat.ble ((st.map fun v => v.category).sum) 8 = true) (hmc : Nat.ble cs mc = true) (hms : Nat.ble sl ms = true) (kk : ∀ (z : Int) (μ' : Me), Q1 z μ' → XX Γ nL V ad (vl ad μ') cs sl (pc + 3) L (.long (J z) :: st)) : XX Γ nL V ad (vl ad μ) cs sl pc L (a6 :: a5 :: a4 :: a3 :: a2 :: a1 :: st) := by
  refine x_callSG (As := [a1, a2, a3, a4, a5, a6]) (mc2 := 0) (ms2 := 0) F dd hL rfl rfl hcat hd hmc hms hM ?_
  rintro v V' ad' ν' ⟨rfl, rfl, μ', rfl, z, rfl, hq⟩
  exact kk z μ' hq
theorem x_S6v {a1 a2 a3 a4 a5 a6 : Value} {Q1 : Me → Prop} (F : Fx Γ cc own nL ret P d mc ms) (dd : decode cc pc = .ok (.invokestatic idx, 3)) (hL : LkS own idx mi 6) (hd : Nat.ble (d2 + 1) d = true) (hM : ∀ (l : Launch) (E : Ev) (A : Nat → Prop), Con l E d2 mi A V ad μ [a1, a2, a3, a4, a5, a6] (pv Q1)) (hcat : Nat.ble ((st.map fun v => v.category).sum) 8 = true) (hmc : Nat.ble cs mc = true) (hms : Nat.ble sl ms = true) (kk : ∀ (μ' : Me), Q1 μ' → XX Γ nL V ad (vl ad μ') cs sl (pc + 3) L st) : XX Γ nL V ad (vl ad μ) cs sl pc L (a6 :: a5 :: a4 :: a3 :: a2 :: a1 :: st) := by
  refine x_callSG (As := [a1, a2, a3, a4, a5, a6]) (mc2 := 0) (ms2 := 0) F dd hL rfl rfl hcat hd hmc hms hM ?_
  rintro v V' ad' ν' ⟨rfl, rfl, μ', rfl, rfl, hq⟩
  exact kk μ' hq
theorem x_S6r {a1 a2 a3 a4 a5 a6 : Value} {Q1 : Nat → Me → Prop} (F : Fx Γ cc own nL ret P d mc ms) (dd : decode cc pc = .ok (.invokestatic idx, 3)) (hL : LkS own idx mi 6) (hd : Nat.ble (d2 + 1) d = true) (hM : ∀ (l : Launch) (E : Ev) (A : Nat → Prop), Con l E d2 mi A V ad μ [a1, a2, a3, a4, a5, a6] (pr Q1)) (hcat : Nat.ble ((st.map fun v => v.category).sum) 8 = true) (hmc : Nat.ble cs mc = true) (hms : Nat.ble sl ms = true) (kk : ∀ (z : Nat) (μ' : Me), Q1 z μ' → XX Γ nL V ad (vl ad μ') cs sl (pc + 3) L (.ref z :: st)) : XX Γ nL V ad (vl ad μ) cs sl pc L (a6 :: a5 :: a4 :: a3 :: a2 :: a1 :: st) := by
  refine x_callSG (As := [a1, a2, a3, a4, a5, a6]) (mc2 := 0) (ms2 := 0) F dd hL rfl rfl hcat hd hmc hms hM ?_
  rintro v V' ad' ν' ⟨rfl, rfl, μ', rfl, z, rfl, hq⟩
  exact kk z μ' hq
end CALLX
