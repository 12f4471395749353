/-! ===== rows of the judgement: fields, arrays, copies ===== -/
theorem tys_at {E : Ev} {ti : Nat} (h : ti < 8) : (tysE E)[ti]? = some (E.2.1 ti, tyA ti) := by
  rcases (show ti = 0 ∨ ti = 1 ∨ ti = 2 ∨ ti = 3 ∨ ti = 4 ∨ ti = 5 ∨ ti = 6 ∨ ti = 7 by omega) with rfl | rfl | rfl | rfl | rfl | rfl | rfl | rfl <;> rfl
theorem Kn.arr {E : Ev} {U : State} (h : Kn E U) {ti : Nat} (ht : ti < 8) : ArrOfT U (E.2.1 ti) (tyA ti) := (h.1.2 ti _ (tys_at ht)).1
/-- a cell changed at o: the world behind it -/
theorem Wd.set {E : Ev} {V : Ob → Prop} {ad : Ob → Nat} {ν : Mv} {H H1 : Heap} {o : Ob} {f : Nat → Value} (h : Wd E V ad ν H) (ho : V o) (h1 : cOK E ad f o H1) (hq : ∀ q : Nat, q ≠ ad o → H1[q]? = H[q]?) : Wd E V ad (fun o' => if o' = o then f else ν o') H1 := by
  refine ⟨fun o' ho' => ?_, h.2.1, h.2.2⟩
  by_cases e : o' = o
  · subst e
    simp only [if_true]
    exact h1
  · simp only [if_neg e]
    have hne : ad o' ≠ ad o := fun z => e (h.2.1 o' o ho' ho z)
    have h2 := h.1 o' ho'
    unfold cOK at h2 ⊢
    split
    · rename_i ci hs
      rw [hs] at h2
      obtain ⟨r, a, b⟩ := h2
      exact ⟨r, a, b.kept (hq _ hne)⟩
    · rename_i ti n hs
      rw [hs] at h2
      exact (hq _ hne).trans h2
theorem upV_eq {ν : Mv} {o : Ob} {k : Nat} {v : Value} {f : Nat → Value} (h : ∀ j, f j = if j = k then v else ν o j) : (fun o' => if o' = o then f else ν o') = upV ν o k v := by
  funext o' j
  by_cases e : o' = o
  · subst e
    by_cases e2 : j = k
    · simp [upV, h, e2]
    · simp [upV, h, e2]
  · simp [upV, e]
theorem va_S.cell {A : Nat → Prop} {H0 H H1 : Heap} {locs : List Loc} {a i : Nat} (h : va_S A H0 H locs) (ha : A a) (hz : H1.size = H.size) (hq : ∀ q : Nat, q ≠ a → H1[q]? = H[q]?) : va_S A H0 H1 (locs ++ [⟨a, i⟩]) := by
  refine ⟨by rw [hz]; exact h.1, fun q h1 h2 => ?_, fun l hl => ?_⟩
  · rw [hq q (fun e => h2 (by rw [e]; exact ha))]
    exact h.2.1 q h1 h2
  · rcases List.mem_append.mp hl with h1 | h1
    · exact h.2.2 l h1
    · rw [List.mem_singleton.mp h1]
      exact ha
section HEAP
variable {Γ : Ct} {cc : ByteArray} {own : String} {nL : Nat} {ret : Option FieldType} {P : Pq} {d mc ms : Nat} {V : Ob → Prop} {ad : Ob → Nat} {ν : Mv} {cs sl pc : Nat} {L : List (Nat × Value)} {st : List Value} {o : Ob} {v : Value}
theorem x_get {C : String} {T : u_T} {N ci idx : Nat} (F : Fx Γ cc own nL ret P d mc ms) (dd : decode cc pc = .ok (.getfield idx, 3)) (hc : vwCl[ci]? = some (C, T, N)) (hin : ∀ w ∈ u_ws C T N, w ∈ lw_tbl ∧ goodWord w = true) (k : Nat) (hk : k < N) (hlk : Cond.fieldLink own idx C (T k).2.1 (T k).2.2.1 ∈ wA) (hO : (T k).1 = C) (ho : V o) (hs : shp o = .inl ci) (hv : ν o k = v)
    (kk : XX Γ nL V ad ν cs sl (pc + 3) L (v :: st)) : XX Γ nL V ad ν cs sl pc L (.ref (ad o) :: st) := by
  obtain ⟨p, l, e, R, s, m, args, below, meth, c, A, Q, E⟩ := Γ
  obtain ⟨hx, hb, hml, hown, hts, hlok, hr, hK, hA0, hR, hQ, hzz⟩ := F
  intro H locs ls hW hV hS hl
  have h1 := hW.1 o ho
  unfold cOK at h1
  rw [hs] at h1
  obtain ⟨r, h1, cell, q1, q2, q3, q4⟩ := h1
  have hr : r = (C, T, N) := Option.some.inj (h1.symm.trans hc)
  subst hr
  obtain ⟨hS', hfc, kC, hkC, hkind⟩ := hK.1.1 ci _ hc
  obtain ⟨cf, kf, fi, f, hi, hsl⟩ := hS' k hk
  have hin' : ∀ w ∈ u_ws C T N, w ∈ wA := fun w hw => wA_of (hin w hw).1 (hin w hw).2
  refine W.getf hx hb hown (hts _ hlk) (by rw [← hO]; exact hi) (u_facts hfc hkC (u_lays hts hin' hk) hi).1 q1 (by rw [q3]; exact fun h => by cases h) (v := v) ?_ rfl rfl dd (kk H locs ls hW hV hS hl)
  rw [hsl, q4 k hk, hv]
theorem x_put {C : String} {T : u_T} {N ci idx : Nat} (F : Fx Γ cc own nL ret P d mc ms) (dd : decode cc pc = .ok (.putfield idx, 3)) (hc : vwCl[ci]? = some (C, T, N)) (hin : ∀ w ∈ u_ws C T N, w ∈ lw_tbl ∧ goodWord w = true) (ty0 : Nat → FieldType) (hty : ∀ k, k < N → parseFieldDescriptor (T k).2.2.1 = some (ty0 k)) (hnm : ∀ a, a < N → ∀ b, b < N → a ≠ b → (T a).2.1 ≠ (T b).2.1)
    (k : Nat) (hk : k < N) (hlk : Cond.fieldLink own idx C (T k).2.1 (T k).2.2.1 ∈ wA) (hO : (T k).1 = C) (hfin : (T k).2.2.2 = false) (ho : V o) (hs : shp o = .inl ci) (hn : narrow (ty0 k) v = v) (hfit : fits (ty0 k) v = true)
    (kk : XX Γ nL V ad (upV ν o k v) cs sl (pc + 3) L st) : XX Γ nL V ad ν cs sl pc L (v :: .ref (ad o) :: st) := by
  obtain ⟨p, l, e, R, s, m, args, below, meth, c, A, Q, E⟩ := Γ
  obtain ⟨hx, hb, hml, hown, hts, hlok, hr, hK, hA0, hR, hQ, hzz⟩ := F
  intro H locs ls hW hV hS hl
  have h1 := hW.1 o ho
  unfold cOK at h1
  rw [hs] at h1
  obtain ⟨r, h1, cell, q1, q2, q3, q4⟩ := h1
  have hr : r = (C, T, N) := Option.some.inj (h1.symm.trans hc)
  subst hr
  have hin' : ∀ w ∈ u_ws C T N, w ∈ wA := fun w hw => wA_of (hin w hw).1 (hin w hw).2
  have hap := va_apart (own := own) hts hin' ty0 hty hnm hK.1 hc
  obtain ⟨hS', hfc, kC, hkC, hkind⟩ := hK.1.1 ci _ hc
  obtain ⟨cf, kf, fi, f, hi, hsl⟩ := hS' k hk
  have hlay := hts _ (hin' _ (u_in_lay hk))
  unfold u_lay at hlay
  rw [if_neg (by rw [hfin]; decide)] at hlay
  have hst := (u_facts hfc hkC (u_lays hts hin' hk) hi).1
  have h6 := u_store hfc hkC hkind hlay hi (hty k hk) hn hfit
  refine W.putK hx hb (f := f) ⟨hown, hts _ hlk, ⟨_, _, _, by rw [← hO]; exact hi⟩, hst⟩ (by rw [q2]; exact h6) q1 q3 (by rw [hsl]; exact k2_hasslot (q4 k hk)) rfl rfl dd fun H' e1 e2 e3 => ?_
  rw [hsl] at e1 ⊢
  refine kk H' _ ls ?_ hV (hS.cell (hV o ho) e2 e3) hl
  rw [← upV_eq (f := fun j => if j = k then v else ν o j) (fun j => rfl)]
  refine hW.set ho ?_ e3
  unfold cOK
  rw [hs]
  exact ⟨_, hc, t_OB.to (V := updV (ν o) k v) ⟨_, e1, q2, q3, t_set q4 hap hk v⟩ (fun j _ => rfl)⟩
/-- a final field, in the constructor of its class -/
theorem x_putF {C : String} {T : u_T} {N ci idx : Nat} (F : Fx Γ cc own nL ret P d mc ms) (hin2 : Γ.2.2.2.2.2.2.2.2.1.name = "<init>") (dd : decode cc pc = .ok (.putfield idx, 3)) (hc : vwCl[ci]? = some (C, T, N)) (hin : ∀ w ∈ u_ws C T N, w ∈ lw_tbl ∧ goodWord w = true) (ty0 : Nat → FieldType) (hty : ∀ k, k < N → parseFieldDescriptor (T k).2.2.1 = some (ty0 k)) (hnm : ∀ a, a < N → ∀ b, b < N → a ≠ b → (T a).2.1 ≠ (T b).2.1)
    (k : Nat) (hk : k < N) (hlk : Cond.fieldLink own idx C (T k).2.1 (T k).2.2.1 ∈ wA) (hO : (T k).1 = C) (hdecl : C = own) (hfin : (T k).2.2.2 = true) (ho : V o) (hs : shp o = .inl ci) (hn : narrow (ty0 k) v = v) (hfit : fits (ty0 k) v = true)
    (kk : XX Γ nL V ad (upV ν o k v) cs sl (pc + 3) L st) : XX Γ nL V ad ν cs sl pc L (v :: .ref (ad o) :: st) := by
  obtain ⟨p, l, e, R, s, m, args, below, meth, c, A, Q, E⟩ := Γ
  obtain ⟨hx, hb, hml, hown, hts, hlok, hr, hK, hA0, hR, hQ, hzz⟩ := F
  intro H locs ls hW hV hS hl
  have h1 := hW.1 o ho
  unfold cOK at h1
  rw [hs] at h1
  obtain ⟨r, h1, cell, q1, q2, q3, q4⟩ := h1
  have hr : r = (C, T, N) := Option.some.inj (h1.symm.trans hc)
  subst hr
  have hin' : ∀ w ∈ u_ws C T N, w ∈ wA := fun w hw => wA_of (hin w hw).1 (hin w hw).2
  have hap := va_apart (own := own) hts hin' ty0 hty hnm hK.1 hc
  obtain ⟨hS', hfc, kC, hkC, hkind⟩ := hK.1.1 ci _ hc
  obtain ⟨cf, kf, fi, f, hi, hsl⟩ := hS' k hk
  have hlay := hts _ (hin' _ (u_in_lay hk))
  unfold u_lay at hlay
  rw [if_pos hfin] at hlay
  have hst := (u_facts hfc hkC (u_lays hts hin' hk) hi).1
  have hcf : m.cls = cf := by
    obtain ⟨_, _, c', _, _, _, -, -, hf', -, -, -, hown2, -⟩ := Cond.laysFinal_spec hlay
    have e1 : c' = cf := by have := hi.symm.trans hf'; simp at this; exact this.1.symm
    rw [hO, hdecl] at hown2
    rw [← e1]; exact Option.some.inj (hown.symm.trans hown2)
  have h6 := u_fits hfc hkC hkind (Or.inr hlay) hi (hty k hk) hn hfit
  refine W.putFinK hx hb hown (hts _ hlk) (by rw [← hO]; exact hi) hst hcf hin2 (by rw [q2]; exact h6) q1 q3 (by rw [hsl]; exact k2_hasslot (q4 k hk)) rfl rfl dd fun H' e1 e2 e3 => ?_
  rw [hsl] at e1 ⊢
  refine kk H' _ ls ?_ hV (hS.cell (hV o ho) e2 e3) hl
  rw [← upV_eq (f := fun j => if j = k then v else ν o j) (fun j => rfl)]
  refine hW.set ho ?_ e3
  unfold cOK
  rw [hs]
  exact ⟨_, hc, t_OB.to (V := updV (ν o) k v) ⟨_, e1, q2, q3, t_set q4 hap hk v⟩ (fun j _ => rfl)⟩
theorem arr_in {ti n : Nat} {cA : ClassId} {f : Nat → Value} {j : Int} (hj : 0 ≤ j ∧ j < n ∧ n ≤ 2147483647) : ¬ (I j < 0 ∨ (arrV cA n f).slots.size ≤ (I j).toNatClampNeg) ∧ (arrV cA n f).slots[(I j).toNatClampNeg]? = some (f j.toNat) := by
  have h1 : (I j).toNatClampNeg = j.toNat := I_clamp (by omega)
  rw [h1, arrV_size]
  refine ⟨?_, arrV_read _ _ (by omega)⟩
  rw [I_0, I_lt (by omega)]
  omega
theorem x_alen {ti n : Nat} {z : Int} (F : Fx Γ cc own nL ret P d mc ms) (dd : decode cc pc = .ok (.arraylength, 1)) (ho : V o) (hs : shp o = .inr (ti, n)) (ht : Nat.ble (ti + 1) 8 = true) (hn : (n : Int) = z) (kk : XX Γ nL V ad ν cs sl (pc + 1) L (.int (I z) :: st)) : XX Γ nL V ad ν cs sl pc L (.ref (ad o) :: st) := by
  obtain ⟨p, l, e, R, s, m, args, below, meth, c, A, Q, E⟩ := Γ
  obtain ⟨hx, hb, hml, hown, hts, hlok, hr, hK, hA0, hR, hQ, hzz⟩ := F
  intro H locs ls hW hV hS hl
  have h1 := hW.1 o ho
  unfold cOK at h1
  rw [hs] at h1
  subst hn
  refine W.alen (n := I n) hx hb h1 (hK.arr (Nat.le_of_ble_eq_true ht) n (ν o)) ?_ rfl rfl dd (kk H locs ls hW hV hS hl)
  rw [arrV_size]
  exact I_nI n
theorem x_iald {n : Nat} {j : Int} (F : Fx Γ cc own nL ret P d mc ms) (dd : decode cc pc = .ok (.iaload, 1)) (ho : V o) (hs : shp o = .inr (0, n)) (hj : 0 ≤ j ∧ j < n ∧ n ≤ 2147483647) (hv : ν o j.toNat = v) (kk : XX Γ nL V ad ν cs sl (pc + 1) L (v :: st)) : XX Γ nL V ad ν cs sl pc L (.int (I j) :: .ref (ad o) :: st) := by
  obtain ⟨p, l, e, R, s, m, args, below, meth, c, A, Q, E⟩ := Γ
  obtain ⟨hx, hb, hml, hown, hts, hlok, hr, hK, hA0, hR, hQ, hzz⟩ := F
  intro H locs ls hW hV hS hl
  have h1 := hW.1 o ho
  unfold cOK at h1
  rw [hs] at h1
  subst hv
  have h2 := arr_in (ti := 0) (cA := E.2.1 0) (f := ν o) hj
  exact W.iald hx hb h1 (hK.arr (by decide) n (ν o)) (fun h => by cases h) h2.1 h2.2 rfl rfl dd (kk H locs ls hW hV hS hl)
theorem x_lald {n : Nat} {j : Int} (F : Fx Γ cc own nL ret P d mc ms) (dd : decode cc pc = .ok (.laload, 1)) (ho : V o) (hs : shp o = .inr (1, n)) (hj : 0 ≤ j ∧ j < n ∧ n ≤ 2147483647) (hv : ν o j.toNat = v) (kk : XX Γ nL V ad ν cs sl (pc + 1) L (v :: st)) : XX Γ nL V ad ν cs sl pc L (.int (I j) :: .ref (ad o) :: st) := by
  obtain ⟨p, l, e, R, s, m, args, below, meth, c, A, Q, E⟩ := Γ
  obtain ⟨hx, hb, hml, hown, hts, hlok, hr, hK, hA0, hR, hQ, hzz⟩ := F
  intro H locs ls hW hV hS hl
  have h1 := hW.1 o ho
  unfold cOK at h1
  rw [hs] at h1
  subst hv
  have h2 := arr_in (ti := 0) (cA := E.2.1 1) (f := ν o) hj
  exact W.lald hx hb h1 (hK.arr (by decide) n (ν o)) (fun h => by cases h) h2.1 h2.2 rfl rfl dd (kk H locs ls hW hV hS hl)
theorem x_bald {n : Nat} {j : Int} (F : Fx Γ cc own nL ret P d mc ms) (dd : decode cc pc = .ok (.baload, 1)) (ho : V o) (hs : shp o = .inr (2, n)) (hj : 0 ≤ j ∧ j < n ∧ n ≤ 2147483647) (hv : ν o j.toNat = v) (kk : XX Γ nL V ad ν cs sl (pc + 1) L (v :: st)) : XX Γ nL V ad ν cs sl pc L (.int (I j) :: .ref (ad o) :: st) := by
  obtain ⟨p, l, e, R, s, m, args, below, meth, c, A, Q, E⟩ := Γ
  obtain ⟨hx, hb, hml, hown, hts, hlok, hr, hK, hA0, hR, hQ, hzz⟩ := F
  intro H locs ls hW hV hS hl
  have h1 := hW.1 o ho
  unfold cOK at h1
  rw [hs] at h1
  subst hv
  have h2 := arr_in (ti := 0) (cA := E.2.1 2) (f := ν o) hj
  exact W.bald hx hb h1 (hK.arr (by decide) n (ν o)) (fun h => by cases h) h2.1 h2.2 rfl rfl dd (kk H locs ls hW hV hS hl)
theorem x_cald {n : Nat} {j : Int} (F : Fx Γ cc own nL ret P d mc ms) (dd : decode cc pc = .ok (.caload, 1)) (ho : V o) (hs : shp o = .inr (3, n)) (hj : 0 ≤ j ∧ j < n ∧ n ≤ 2147483647) (hv : ν o j.toNat = v) (kk : XX Γ nL V ad ν cs sl (pc + 1) L (v :: st)) : XX Γ nL V ad ν cs sl pc L (.int (I j) :: .ref (ad o) :: st) := by
  obtain ⟨p, l, e, R, s, m, args, below, meth, c, A, Q, E⟩ := Γ
  obtain ⟨hx, hb, hml, hown, hts, hlok, hr, hK, hA0, hR, hQ, hzz⟩ := F
  intro H locs ls hW hV hS hl
  have h1 := hW.1 o ho
  unfold cOK at h1
  rw [hs] at h1
  subst hv
  have h2 := arr_in (ti := 0) (cA := E.2.1 3) (f := ν o) hj
  exact W.cald hx hb h1 (hK.arr (by decide) n (ν o)) (fun h => by cases h) h2.1 h2.2 rfl rfl dd (kk H locs ls hW hV hS hl)
theorem x_aald {ti n : Nat} {j : Int} (F : Fx Γ cc own nL ret P d mc ms) (dd : decode cc pc = .ok (.aaload, 1)) (ho : V o) (hs : shp o = .inr (ti, n)) (ht : Nat.ble (ti + 1) 8 = true) (hre : (tyA ti).isReference = true) (hj : 0 ≤ j ∧ j < n ∧ n ≤ 2147483647) (hv : ν o j.toNat = v) (kk : XX Γ nL V ad ν cs sl (pc + 1) L (v :: st)) : XX Γ nL V ad ν cs sl pc L (.int (I j) :: .ref (ad o) :: st) := by
  obtain ⟨p, l, e, R, s, m, args, below, meth, c, A, Q, E⟩ := Γ
  obtain ⟨hx, hb, hml, hown, hts, hlok, hr, hK, hA0, hR, hQ, hzz⟩ := F
  intro H locs ls hW hV hS hl
  have h1 := hW.1 o ho
  unfold cOK at h1
  rw [hs] at h1
  subst hv
  have h2 := arr_in (ti := 0) (cA := E.2.1 ti) (f := ν o) hj
  exact W.aald hx hb h1 (hK.arr (Nat.le_of_ble_eq_true ht) n (ν o)) hre (fun h => by cases h) h2.1 h2.2 rfl rfl dd (kk H locs ls hW hV hS hl)
theorem x_iast {n : Nat} {j : Int} {x : Int32} (F : Fx Γ cc own nL ret P d mc ms) (dd : decode cc pc = .ok (.iastore, 1)) (ho : V o) (hs : shp o = .inr (0, n)) (hj : 0 ≤ j ∧ j < n ∧ n ≤ 2147483647) (kk : XX Γ nL V ad (upV ν o j.toNat (.int x)) cs sl (pc + 1) L st) : XX Γ nL V ad ν cs sl pc L (.int x :: .int (I j) :: .ref (ad o) :: st) := by
  obtain ⟨p, l, e, R, s, m, args, below, meth, c, A, Q, E⟩ := Γ
  obtain ⟨hx, hb, hml, hown, hts, hlok, hr, hK, hA0, hR, hQ, hzz⟩ := F
  intro H locs ls hW hV hS hl
  have h1 := hW.1 o ho
  unfold cOK at h1
  rw [hs] at h1
  have h2 := arr_in (ti := 0) (cA := E.2.1 0) (f := ν o) hj
  refine W.iast hx hb h1 (hK.arr (by decide) n (ν o)) (fun h => by cases h) h2.1 rfl rfl dd fun H1 e1 z1 oq => ?_
  refine kk H1 _ ls ?_ hV (hS.cell (hV o ho) z1 oq) hl
  rw [← upV_eq (f := fun i => if i = j.toNat then (.int x) else ν o i) (fun i => rfl)]
  refine hW.set ho ?_ oq
  unfold cOK
  rw [hs]
  show H1[ad o]? = some (arrV _ n _)
  rw [e1, arrV_store, I_clamp (by omega)]
  congr 2
theorem x_last {n : Nat} {j : Int} {x : Int64} (F : Fx Γ cc own nL ret P d mc ms) (dd : decode cc pc = .ok (.lastore, 1)) (ho : V o) (hs : shp o = .inr (1, n)) (hj : 0 ≤ j ∧ j < n ∧ n ≤ 2147483647) (kk : XX Γ nL V ad (upV ν o j.toNat (.long x)) cs sl (pc + 1) L st) : XX Γ nL V ad ν cs sl pc L (.long x :: .int (I j) :: .ref (ad o) :: st) := by
  obtain ⟨p, l, e, R, s, m, args, below, meth, c, A, Q, E⟩ := Γ
  obtain ⟨hx, hb, hml, hown, hts, hlok, hr, hK, hA0, hR, hQ, hzz⟩ := F
  intro H locs ls hW hV hS hl
  have h1 := hW.1 o ho
  unfold cOK at h1
  rw [hs] at h1
  have h2 := arr_in (ti := 0) (cA := E.2.1 1) (f := ν o) hj
  refine W.last hx hb h1 (hK.arr (by decide) n (ν o)) (fun h => by cases h) h2.1 rfl rfl dd fun H1 e1 z1 oq => ?_
  refine kk H1 _ ls ?_ hV (hS.cell (hV o ho) z1 oq) hl
  rw [← upV_eq (f := fun i => if i = j.toNat then (.long x) else ν o i) (fun i => rfl)]
  refine hW.set ho ?_ oq
  unfold cOK
  rw [hs]
  show H1[ad o]? = some (arrV _ n _)
  rw [e1, arrV_store, I_clamp (by omega)]
  congr 2
theorem x_bast {n : Nat} {j : Int} {x : Int32} (F : Fx Γ cc own nL ret P d mc ms) (dd : decode cc pc = .ok (.bastore, 1)) (ho : V o) (hs : shp o = .inr (2, n)) (hj : 0 ≤ j ∧ j < n ∧ n ≤ 2147483647) (kk : XX Γ nL V ad (upV ν o j.toNat (narrow .byte (.int x))) cs sl (pc + 1) L st) : XX Γ nL V ad ν cs sl pc L (.int x :: .int (I j) :: .ref (ad o) :: st) := by
  obtain ⟨p, l, e, R, s, m, args, below, meth, c, A, Q, E⟩ := Γ
  obtain ⟨hx, hb, hml, hown, hts, hlok, hr, hK, hA0, hR, hQ, hzz⟩ := F
  intro H locs ls hW hV hS hl
  have h1 := hW.1 o ho
  unfold cOK at h1
  rw [hs] at h1
  have h2 := arr_in (ti := 0) (cA := E.2.1 2) (f := ν o) hj
  refine W.bast hx hb h1 (hK.arr (by decide) n (ν o)) (fun h => by cases h) h2.1 rfl rfl dd fun H1 e1 z1 oq => ?_
  refine kk H1 _ ls ?_ hV (hS.cell (hV o ho) z1 oq) hl
  rw [← upV_eq (f := fun i => if i = j.toNat then (narrow .byte (.int x)) else ν o i) (fun i => rfl)]
  refine hW.set ho ?_ oq
  unfold cOK
  rw [hs]
  show H1[ad o]? = some (arrV _ n _)
  rw [e1, arrV_store, I_clamp (by omega)]
  congr 2
theorem x_cast {n : Nat} {j : Int} {x : Int32} (F : Fx Γ cc own nL ret P d mc ms) (dd : decode cc pc = .ok (.castore, 1)) (ho : V o) (hs : shp o = .inr (3, n)) (hj : 0 ≤ j ∧ j < n ∧ n ≤ 2147483647) (kk : XX Γ nL V ad (upV ν o j.toNat (narrow .char (.int x))) cs sl (pc + 1) L st) : XX Γ nL V ad ν cs sl pc L (.int x :: .int (I j) :: .ref (ad o) :: st) := by
  obtain ⟨p, l, e, R, s, m, args, below, meth, c, A, Q, E⟩ := Γ
  obtain ⟨hx, hb, hml, hown, hts, hlok, hr, hK, hA0, hR, hQ, hzz⟩ := F
  intro H locs ls hW hV hS hl
  have h1 := hW.1 o ho
  unfold cOK at h1
  rw [hs] at h1
  have h2 := arr_in (ti := 0) (cA := E.2.1 3) (f := ν o) hj
  refine W.cast hx hb h1 (hK.arr (by decide) n (ν o)) (fun h => by cases h) h2.1 rfl rfl dd fun H1 e1 z1 oq => ?_
  refine kk H1 _ ls ?_ hV (hS.cell (hV o ho) z1 oq) hl
  rw [← upV_eq (f := fun i => if i = j.toNat then (narrow .char (.int x)) else ν o i) (fun i => rfl)]
  refine hW.set ho ?_ oq
  unfold cOK
  rw [hs]
  show H1[ad o]? = some (arrV _ n _)
  rw [e1, arrV_store, I_clamp (by omega)]
  congr 2
/-- what a copy leaves -/
def cpV (ν : Mv) (o1 o2 : Ob) (sp dp n : Nat) : Mv := fun o k => if o = o2 ∧ dp ≤ k ∧ k < dp + n then ν o1 (sp + (k - dp)) else ν o k
theorem x_copy {ti n1 n2 idx : Nat} {sp dp n : Int} {o1 o2 : Ob} (F : Fx Γ cc own nL ret P d mc ms) (dd : decode cc pc = .ok (.invokestatic idx, 3)) (hlk : Cond.methodLink own idx arraycopyName ∈ wA) (hw2 : Cond.native arraycopyName ∈ wA) (hw3 : Cond.static arraycopyName ∈ wA) (hw4 : Cond.initialized "java/lang/System" ∈ wA) (hd : 1 ≤ d) (h1 : V o1) (h2 : V o2) (hs1 : shp o1 = .inr (ti, n1)) (hs2 : shp o2 = .inr (ti, n2)) (ht : Nat.ble (ti + 1) 4 = true)
    (hj : 0 ≤ sp ∧ 0 ≤ dp ∧ 0 ≤ n ∧ sp + n ≤ n1 ∧ dp + n ≤ n2 ∧ n1 ≤ 2147483647 ∧ n2 ≤ 2147483647) (hfit : ∀ i, i < n.toNat → fits (tyA ti) (ν o1 (sp.toNat + i)) = true) (hcat : Nat.ble ((st.map fun v => v.category).sum) 4 = true)
    (kk : XX Γ nL V ad (cpV ν o1 o2 sp.toNat dp.toNat n.toNat) cs sl (pc + 3) L st) : XX Γ nL V ad ν cs sl pc L (.int (I n) :: .int (I dp) :: .ref (ad o2) :: .int (I sp) :: .ref (ad o1) :: st) := by
  obtain ⟨p, l, e, R, s, m, args, below, meth, c, A, Q, E⟩ := Γ
  obtain ⟨hx, hb, hml, hown, hts, hlok, hr, hK, hA0, hR, hQ, hzz⟩ := F
  intro H locs ls hW hV hS hl
  have c1 := hW.1 o1 h1
  unfold cOK at c1
  rw [hs1] at c1
  have c2 := hW.1 o2 h2
  unfold cOK at c2
  rw [hs2] at c2
  have ht4 := Nat.le_of_ble_eq_true ht
  have hc4 := Nat.le_of_ble_eq_true hcat
  have hprim : refKind (tyA ti) = false := by
    rcases (show ti = 0 ∨ ti = 1 ∨ ti = 2 ∨ ti = 3 by omega) with rfl | rfl | rfl | rfl <;> rfl
  have ht8 : ti < 8 := by omega
  obtain ⟨-, k0, hk0, cm0, hkk0⟩ := hK.arr ht8 n1 (ν o1)
  obtain ⟨-, k1, hk1, cm1, hkk1⟩ := hK.arr ht8 n2 (ν o2)
  have e0 : (I sp).toNatClampNeg = sp.toNat := I_clamp (by omega)
  have e1 : (I dp).toNatClampNeg = dp.toNat := I_clamp (by omega)
  have e2 : (I n).toNatClampNeg = n.toNat := I_clamp (by omega)
  have hnw : nativeFrameWords "java/lang/System" "arraycopy" 5 ≤ 25 := by decide +kernel
  have hloc : 2 * (F0 m pc ls (.int (I n) :: .int (I dp) :: .ref (ad o2) :: .int (I sp) :: .ref (ad o1) :: st)).monitorRoom + (st.map fun v => v.category).sum + (nativeFrameWords "java/lang/System" "arraycopy" 5 + 11) ≤ R.locals := by
    rw [hR]
    show 2 * 0 + _ + _ ≤ 40 * d
    omega
  intro T hT X
  obtain ⟨vm', X', step⟩ := X.arraycopy hx hown (hts _ hlk) (hts _ hw2) (hts _ hw3) (hts _ hw4) (src := ad o1) (dst := ad o2) (cs := arrV (E.2.1 ti) n1 (ν o1)) (cd := arrV (E.2.1 ti) n2 (ν o2)) (srcPos := I sp) (destPos := I dp) (n := I n) (by rw [hT]; exact c1) (by rw [hT]; exact c2)
    (fun _ h => by cases h) (fun _ h => by cases h) (fun h => by cases h) (fun h => by cases h) hk0 hk1 hkk0 hkk1 (by simp [hprim]) (by rw [I_0, I_lt (by omega)]; omega) (by rw [I_0, I_lt (by omega)]; omega) (by rw [I_0, I_lt (by omega)]; omega)
    (by rw [I_toInt (by omega), I_toInt (by omega), arrV_size]; omega)
    (by rw [I_toInt (by omega), I_toInt (by omega), arrV_size]; omega)
    (fun vm₁ _ i hi => by
      rw [e2] at hi
      have e : (arrV (E.2.1 ti) n1 (ν o1)).slots.getD ((I sp).toNatClampNeg + i) .null = ν o1 (sp.toNat + i) := by
        rw [Array.getD_eq_getD_getElem?, e0, arrV_read _ _ (by omega)]
        rfl
      refine ⟨?_, ?_⟩
      · rw [e]
        exact hfit i hi
      · rw [e]
        have hf := hfit i hi
        revert hf
        rcases (show ti = 0 ∨ ti = 1 ∨ ti = 2 ∨ ti = 3 by omega) with rfl | rfl | rfl | rfl <;> cases ν o1 (sp.toNat + i) <;> intro hf <;> first | exact trivial | (exfalso; simp [fits, tyA] at hf; done))
    (g := F0 m pc ls (.int (I n) :: .int (I dp) :: .ref (ad o2) :: .int (I sp) :: .ref (ad o1) :: st)) rfl (by rw [hml]; exact hl.1) (rest := st) rfl (by rw [hb]; exact dd) (by rw [hR]; exact hd) hloc
  have e3 : copied (arrV (E.2.1 ti) n1 (ν o1)) (arrV (E.2.1 ti) n2 (ν o2)) (I sp) (I dp) (I n) = arrV (E.2.1 ti) n2 (va_cpy (ν o1) (ν o2) sp.toNat dp.toNat n.toNat) := by
    show (arrV (E.2.1 ti) n2 (ν o2)).storeRun (I dp).toNatClampNeg ((arrV (E.2.1 ti) n1 (ν o1)).stretch (I sp).toNatClampNeg (I n).toNatClampNeg) = _
    rw [e0, e1, e2]
    exact va_copied (fun z => z) _ _ (ν o1) (ν o2) (by omega)
  rw [e3] at X' step
  have hl2 : ad o2 < H.size := (Array.getElem?_eq_some_iff.mp c2).1
  have hheap : ((T.setVm vm').setCell (ad o2) (arrV (E.2.1 ti) n2 (va_cpy (ν o1) (ν o2) sp.toNat dp.toNat n.toNat))).heap = H.setIfInBounds (ad o2) (arrV (E.2.1 ti) n2 (va_cpy (ν o1) (ν o2) sp.toNat dp.toNat n.toNat)) := by rw [← hT]; rfl
  have oq : ∀ q : Nat, q ≠ ad o2 → (H.setIfInBounds (ad o2) (arrV (E.2.1 ti) n2 (va_cpy (ν o1) (ν o2) sp.toNat dp.toNat n.toNat)))[q]? = H[q]? := fun q hq => by simp [Array.getElem?_setIfInBounds, Ne.symm hq]
  have hWn : Wd E V ad (cpV ν o1 o2 sp.toNat dp.toNat n.toNat) (H.setIfInBounds (ad o2) (arrV (E.2.1 ti) n2 (va_cpy (ν o1) (ν o2) sp.toNat dp.toNat n.toNat))) := by
    have h := hW.set (f := va_cpy (ν o1) (ν o2) sp.toNat dp.toNat n.toNat) h2 (H1 := H.setIfInBounds (ad o2) (arrV (E.2.1 ti) n2 (va_cpy (ν o1) (ν o2) sp.toNat dp.toNat n.toNat))) (by unfold cOK; rw [hs2]; simp [Array.getElem?_setIfInBounds, hl2]) oq
    have e4 : (fun o' => if o' = o2 then va_cpy (ν o1) (ν o2) sp.toNat dp.toNat n.toNat else ν o') = cpV ν o1 o2 sp.toNat dp.toNat n.toNat := by
      funext o' k
      by_cases hh : o' = o2
      · subst hh
        simp only [if_true, va_cpy, cpV, true_and]
      · simp only [if_neg hh, cpV, hh, false_and, if_false]
    rw [e4] at h
    exact h
  obtain ⟨t, a1, b1⟩ := kk _ _ ls hWn hV ⟨by simp; exact hS.1, fun q g1 g2 => by
      rw [oq q (fun e => g2 (by rw [e]; exact hV o2 h2))]
      exact hS.2.1 q g1 g2, fun q hq => by
      rcases List.mem_append.mp hq with h | h
      · exact hS.2.2 q h
      · obtain ⟨z, -, hz⟩ := List.mem_map.mp h
        rw [← hz]
        exact hV o2 h2⟩ hl _ hheap X'
  exact ⟨t, step t a1, b1⟩
end HEAP
