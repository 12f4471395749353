/-! ===== raw memory: values by names; what is made ===== -/
abbrev RV : Type := Int ⊕ (Int ⊕ Option Ob)
abbrev rvI (z : Int) : RV := .inl z
abbrev rvJ (z : Int) : RV := .inr (.inl z)
abbrev rvN : RV := .inr (.inr none)
abbrev rvO (o : Ob) : RV := .inr (.inr (some o))
abbrev Ka : Type := Ob → Nat → RV
def rval (ad : Ob → Nat) (r : RV) : Value := match r with
  | .inl z => .int (I z)
  | .inr (.inl z) => .long (J z)
  | .inr (.inr none) => .null
  | .inr (.inr (some o)) => .ref (ad o)
def nv (ad : Ob → Nat) (κ : Ka) : Mv := fun o k => rval ad (κ o k)
def kU (κ : Ka) (o : Ob) (k : Nat) (r : RV) : Ka := fun o' k' => if o' = o ∧ k' = k then r else κ o' k'
def kN (κ : Ka) (o : Ob) (f : Nat → RV) : Ka := fun o' k' => if o' = o then f k' else κ o' k'
/-- how many slots -/
def nsl (o : Ob) : Nat := match shp o with
  | .inl ci => [8, 2, 5, 4, 4, 3, 8, 14, 32].getD ci 0
  | .inr q => q.2
def clo (V : Ob → Prop) (κ : Ka) : Prop := ∀ o, V o → ∀ k, k < nsl o → ∀ o', κ o k = rvO o' → V o'
theorem nsl_cls {o : Ob} {ci : Nat} {C : String} {T : u_T} {N : Nat} (h : shp o = .inl ci) (hc : vwCl[ci]? = some (C, T, N)) : nsl o = N := by
  unfold nsl
  rw [h]
  have h0 : ∀ i, i < 9 → ∀ C T N, vwCl[i]? = some (C, T, N) → [8, 2, 5, 4, 4, 3, 8, 14, 32].getD i 0 = N := by
    intro i hi C T N h
    rcases (show i = 0 ∨ i = 1 ∨ i = 2 ∨ i = 3 ∨ i = 4 ∨ i = 5 ∨ i = 6 ∨ i = 7 ∨ i = 8 by omega) with rfl | rfl | rfl | rfl | rfl | rfl | rfl | rfl | rfl <;> cases h <;> rfl
  by_cases hi : ci < 9
  · exact h0 ci hi C T N hc
  · rw [List.getElem?_eq_none (by show (9 : Nat) ≤ ci; omega)] at hc
    cases hc
theorem nsl_arr {o : Ob} {ti n : Nat} (h : shp o = .inr (ti, n)) : nsl o = n := by unfold nsl; rw [h]
theorem arrV_c {cA : ClassId} {n : Nat} {f g : Nat → Value} (h : ∀ k, k < n → f k = g k) : arrV cA n f = arrV cA n g := by
  unfold arrV
  congr 1
  congr 1
  funext j
  exact h j.val j.isLt
theorem Wd.co {E : Ev} {V V2 : Ob → Prop} {ad ad2 : Ob → Nat} {ν ν2 : Mv} {H : Heap} (h : Wd E V ad ν H) (hV : ∀ o, V2 o → V o) (had : ∀ o, V2 o → ad2 o = ad o) (hn : ∀ o, V2 o → ∀ k, k < nsl o → ν o k = ν2 o k) : Wd E V2 ad2 ν2 H := by
  refine ⟨fun o ho => ?_, fun o o' ho ho' e => h.2.1 o o' (hV o ho) (hV o' ho') (by rw [← had o ho, ← had o' ho', e]), fun o ho => by rw [had o ho]; exact h.2.2 o (hV o ho)⟩
  have h1 := h.1 o (hV o ho)
  have h2 := hn o ho
  unfold cOK at h1 ⊢
  rw [had o ho]
  split
  · rename_i ci hs
    rw [hs] at h1
    obtain ⟨r, a, b⟩ := h1
    obtain ⟨C, T, N⟩ := r
    rw [nsl_cls hs a] at h2
    exact ⟨_, a, b.to h2⟩
  · rename_i ti n hs
    rw [hs] at h1
    rw [nsl_arr hs] at h2
    rw [h1, arrV_c h2]
theorem nv_ext {V : Ob → Prop} {ad ad2 : Ob → Nat} {κ : Ka} (hc : clo V κ) (h : ∀ o, V o → ad2 o = ad o) : ∀ o, V o → ∀ k, k < nsl o → nv ad κ o k = nv ad2 κ o k := by
  intro o ho k hk
  have h1 := hc o ho k hk
  unfold nv rval
  split
  · rfl
  · rfl
  · rfl
  · rename_i o' e
    rw [h o' (h1 o' e)]
theorem upV_nv {ad : Ob → Nat} {κ : Ka} {o : Ob} {k : Nat} {r : RV} : upV (nv ad κ) o k (rval ad r) = nv ad (kU κ o k r) := by
  funext o' k'
  unfold upV nv kU
  by_cases h : o' = o ∧ k' = k
  · rw [if_pos h, if_pos h]
  · rw [if_neg h, if_neg h]
theorem clo_U {V : Ob → Prop} {κ : Ka} {o : Ob} {k : Nat} {r : RV} (hc : clo V κ) (hr : ∀ o', r = rvO o' → V o') : clo V (kU κ o k r) := by
  intro o1 h1 k1 hk o' he
  unfold kU at he
  split at he
  · exact hr o' he
  · exact hc o1 h1 k1 hk o' he
theorem clo_N {V : Ob → Prop} {κ : Ka} {o : Ob} {f : Nat → RV} (hc : clo V κ) (hf : ∀ k o', f k ≠ rvO o') : clo (fun o' => V o' ∨ o' = o) (kN κ o f) := by
  intro o1 h1 k1 hk o' he
  unfold kN at he
  split at he
  · exact absurd he (hf k1 o')
  · rename_i hne
    rcases h1 with h1 | h1
    · exact Or.inl (hc o1 h1 k1 hk o' he)
    · exact absurd h1 hne
section RAW
variable {Γ : Ct} {cc : ByteArray} {own : String} {nL : Nat} {ret : Option FieldType} {P : Pq} {d mc ms : Nat} {V V2 : Ob → Prop} {ad ad2 : Ob → Nat} {ν ν2 : Mv} {κ : Ka} {cs sl pc : Nat} {L : List (Nat × Value)} {st : List Value} {o : Ob}
theorem XX.co (hV : ∀ o, V2 o → V o) (had : ∀ o, V2 o → ad2 o = ad o) (hn : ∀ o, V2 o → ∀ k, k < nsl o → ν o k = ν2 o k) (k : XX Γ nL V2 ad2 ν2 cs sl pc L st) : XX Γ nL V ad ν cs sl pc L st := by
  obtain ⟨p, l, e, R, s, m, args, below, meth, c, A, Q, E⟩ := Γ
  intro H locs ls hW hA hS hl
  exact k H locs ls (hW.co hV had hn) (fun o ho => by rw [had o ho]; exact hA o (hV o ho)) hS hl
/-- a cell made -/
theorem Wd.mk {E : Ev} {H H' : Heap} {f : Nat → Value} (h : Wd E V ad ν H) (hno : ¬ V o) (e1 : cOK E (fun o' => if o' = o then H.size else ad o') f o H') (z1 : E.2.2.1 ≤ H.size) (oq : ∀ q, q < H.size → H'[q]? = H[q]?) (hlt : ∀ o', V o' → ad o' < H.size) : Wd E (fun o' => V o' ∨ o' = o) (fun o' => if o' = o then H.size else ad o') (fun o' => if o' = o then f else ν o') H' := by
  have hne : ∀ o', V o' → o' ≠ o := fun o' h' e => hno (e ▸ h')
  refine ⟨fun o' ho' => ?_, fun o1 o2 h1 h2 he => ?_, fun o' ho' => ?_⟩
  · by_cases hq : o' = o
    · subst hq
      simp only [if_true]
      exact e1
    · have hv := ho'.resolve_right hq
      have h1 := h.1 o' hv
      simp only [if_neg hq]
      unfold cOK at h1 ⊢
      simp only [if_neg hq]
      split
      · rename_i ci hs
        rw [hs] at h1
        obtain ⟨r, a, b⟩ := h1
        exact ⟨r, a, b.kept (oq _ (hlt o' hv))⟩
      · rename_i ti n hs
        rw [hs] at h1
        rw [oq _ (hlt o' hv)]
        exact h1
  · by_cases q1 : o1 = o
    · by_cases q2 : o2 = o
      · rw [q1, q2]
      · have := hlt o2 (h2.resolve_right q2)
        simp only [if_pos q1, if_neg q2] at he
        omega
    · by_cases q2 : o2 = o
      · have := hlt o1 (h1.resolve_right q1)
        simp only [if_neg q1, if_pos q2] at he
        omega
      · simp only [if_neg q1, if_neg q2] at he
        exact h.2.1 o1 o2 (h1.resolve_right q1) (h2.resolve_right q2) he
  · by_cases q1 : o' = o
    · simp only [if_pos q1]; exact z1
    · simp only [if_neg q1]; exact h.2.2 o' (ho'.resolve_right q1)
theorem Wd.lt {E : Ev} {H : Heap} (h : Wd E V ad ν H) (ho : V o) : ad o < H.size := by
  have h1 := h.1 o ho
  unfold cOK at h1
  split at h1
  · obtain ⟨r, a, cell, b, -⟩ := h1
    exact (Array.getElem?_eq_some_iff.mp b).1
  · exact (Array.getElem?_eq_some_iff.mp h1).1
/-- the world behind a cell made, its values by names -/
theorem XX.made {H H' : Heap} {locs : List Loc} {ls : Array Slot} {f : Nat → RV} {pc' cs' sl' : Nat} {st' : (Ob → Nat) → List Value} {p : Program} {l : Launch} {e : Env} {R : Room} {s : State} {m : MethodId} {args : Array Value} {below : List Frame} {meth : Method} {c : Code} {A : Nat → Prop} {Q : State → Prop} {E : Ev} (hW : Wd E V ad (nv ad κ) H) (hA : ∀ o, V o → A (ad o)) (hS : va_S A s.heap H locs) (hl : lv_has ls nL L) (hcl : clo V κ) (hno : ¬ V o) (hf : ∀ k o', f k ≠ rvO o') (hA2 : A H.size) (hA0 : ∀ q, A q → A0 E q)
    (e1 : ∀ ad', ad' o = H.size → cOK E ad' (fun k => rval ad' (f k)) o H') (z1 : H'.size = H.size + 1) (oq : ∀ q, q < H.size → H'[q]? = H[q]?)
    (kk : ∀ ad' : Ob → Nat, (∀ o', V o' → ad' o' = ad o') → clo (fun o' => V o' ∨ o' = o) (kN κ o f) → XX (p, l, e, R, s, m, args, below, meth, c, A, Q, E) nL (fun o' => V o' ∨ o' = o) ad' (nv ad' (kN κ o f)) cs' sl' pc' L (st' ad')) : W p l e R s m args below meth c H' locs cs' sl' Q (F0 m pc' ls (st' (fun o' => if o' = o then H.size else ad o'))) := by
  have hlt : ∀ o', V o' → ad o' < H.size := fun o' h' => hW.lt h'
  have hne : ∀ o', V o' → o' ≠ o := fun o' h' e => hno (e ▸ h')
  have hag : ∀ o', V o' → (fun o' => if o' = o then H.size else ad o') o' = ad o' := fun o' h' => if_neg (hne o' h')
  have hc2 := clo_N (o := o) hcl hf
  have hW2 := hW.mk (o := o) (f := fun k => rval (fun o' => if o' = o then H.size else ad o') (f k)) hno (e1 _ (if_pos rfl)) (hA0 _ hA2) oq hlt
  refine kk _ hag hc2 H' locs ls (hW2.co (fun _ h => h) (fun _ _ => rfl) (fun o' ho' k hk => ?_)) (fun o' ho' => ?_) ⟨by have := hS.1; omega, fun q h1 h2 => by rw [oq q (Nat.lt_of_lt_of_le h1 hS.1)]; exact hS.2.1 q h1 h2, hS.2.2⟩ hl
  · by_cases q : o' = o
    · simp only [if_pos q, nv, kN]
    · have hv := ho'.resolve_right q
      have := nv_ext hcl hag o' hv k hk
      simp only [if_neg q, nv, kN] at this ⊢
      exact this
  · by_cases q : o' = o
    · simp only [if_pos q]; exact hA2
    · simp only [if_neg q]; exact hA o' (ho'.resolve_right q)
theorem x_newO {C : String} {T : u_T} {N ci idx : Nat} (f : Nat → RV) (F : Fx Γ cc own nL ret P d mc ms) (dd : decode cc pc = .ok (.new idx, 3)) (hc : vwCl[ci]? = some (C, T, N)) (hcl : Cond.classLink own idx C ∈ wA) (hins : Cond.instantiable C N ∈ wA) (hini : Cond.initialized C ∈ wA) (hin : ∀ w ∈ u_ws C T N, w ∈ lw_tbl ∧ goodWord w = true) (ty0 : Nat → FieldType) (hty : ∀ k, k < N → parseFieldDescriptor (T k).2.2.1 = some (ty0 k)) (hdf : ∀ k, k < N → ∀ ad : Ob → Nat, defaultValue (ty0 k) = rval ad (f k)) (hf : ∀ k o', f k ≠ rvO o') (hclo : clo V κ) (hno : ¬ V o) (hs : shp o = .inl ci) (hmc : cs + 1 ≤ mc) (hms : sl + N ≤ ms)
    (kk : ∀ ad' : Ob → Nat, (∀ o', V o' → ad' o' = ad o') → clo (fun o' => V o' ∨ o' = o) (kN κ o f) → XX Γ nL (fun o' => V o' ∨ o' = o) ad' (nv ad' (kN κ o f)) (cs + 1) (sl + N) (pc + 3) L (.ref (ad' o) :: st)) : XX Γ nL V ad (nv ad κ) cs sl pc L st := by
  obtain ⟨p, l, e, R, s, m, args, below, meth, c, A, Q, E⟩ := Γ
  obtain ⟨hx, hb, hml, hown, hts, hlok, hr, hK, hA0, hR, hQ, hzz⟩ := F
  intro H locs ls hW hV hS hl
  have hKn := hK.1.1 ci _ hc
  have hin' : ∀ w ∈ u_ws C T N, w ∈ wA := fun w hw => wA_of (hin w hw).1 (hin w hw).2
  subst hR
  refine W.newcK hx hb hown (hts _ hcl) (hts _ hins) (hts _ hini) rfl dd hmc hms hKn.2.1 rfl fun H1 kC hkC e1 z1 o1 => ?_
  have hA2 : A H.size := hzz (by omega) _ hS.1
  have hm := XX.made (st' := fun ad' => .ref (ad' o) :: st) (f := f) hW hV hS hl hclo hno hf hA2 hA0 (fun ad' hh => by
    unfold cOK
    rw [hs, hh]
    exact ⟨_, hc, (u_born ty0 hts hin' hKn hkC e1 hty).to (fun k hk => hdf k hk ad')⟩) z1 o1 kk
  simp only [if_true] at hm
  exact hm
theorem x_newA {atype : ArrayType} {ti n : Nat} {z : Int} (f : RV) (F : Fx Γ cc own nL ret P d mc ms) (dd : decode cc pc = .ok (.newarray atype, 2)) (hat : newarray.typeOf atype = tyA ti) (ht : ti < 4) (hw : Cond.arrayClass (tyA ti) ∈ wA) (hdf : ∀ ad : Ob → Nat, defaultValue (tyA ti) = rval ad f) (hf : ∀ o', f ≠ rvO o') (hclo : clo V κ) (hno : ¬ V o) (hs : shp o = .inr (ti, n)) (hz : z = n) (hn : n ≤ 10000) (hmc : cs + 1 ≤ mc) (hms : sl + n ≤ ms)
    (kk : ∀ ad' : Ob → Nat, (∀ o', V o' → ad' o' = ad o') → clo (fun o' => V o' ∨ o' = o) (kN κ o (fun _ => f)) → XX Γ nL (fun o' => V o' ∨ o' = o) ad' (nv ad' (kN κ o (fun _ => f))) (cs + 1) (sl + n) (pc + 2) L (.ref (ad' o) :: st)) : XX Γ nL V ad (nv ad κ) cs sl pc L (.int (I z) :: st) := by
  obtain ⟨p, l, e, R, s, m, args, below, meth, c, A, Q, E⟩ := Γ
  obtain ⟨hx, hb, hml, hown, hts, hlok, hr, hK, hA0, hR, hQ, hzz⟩ := F
  intro H locs ls hW hV hS hl
  subst hR
  subst hz
  have hra := (hK.1.2 ti _ (tys_at (E := E) (by omega))).2
  have hbyt : n * componentBytes (newarray.typeOf atype) ≤ 536870912 := by
    have : componentBytes (newarray.typeOf atype) ≤ 8 := by cases atype <;> decide
    calc n * componentBytes (newarray.typeOf atype) ≤ 10000 * 8 := Nat.mul_le_mul hn this
      _ ≤ _ := by decide
  refine va_newaK hx hb (by rw [hat]; exact hts _ hw) rfl dd rfl (by rw [I_0, I_lt (by omega)]; omega) (by rw [I_clamp (by omega)]; omega) hbyt hmc hms rfl fun H1 cA e1 z1 o1 hAr hNm => ?_
  have hA2 : A H.size := hzz (by omega) _ hS.1
  have hcA : E.2.1 ti = cA := by
    rw [hat] at hNm
    rcases (show ti = 0 ∨ ti = 1 ∨ ti = 2 ∨ ti = 3 by omega) with rfl | rfl | rfl | rfl <;> exact Option.some.inj (hra.symm.trans hNm)
  have hm := XX.made (st' := fun ad' => .ref (ad' o) :: st) (f := fun _ => f) hW hV hS hl hclo hno (fun _ => hf) hA2 hA0 (fun ad' hh => by
    unfold cOK
    rw [hs, hh]
    show H1[H.size]? = some (arrV (E.2.1 ti) n _)
    rw [hcA, e1, hat]
    exact congrArg some (arrV_c (fun k _ => hdf ad'))) z1 o1 kk
  simp only [if_true] at hm
  exact hm
theorem x_anew {C : String} {idx ti n : Nat} {z : Int} (F : Fx Γ cc own nL ret P d mc ms) (dd : decode cc pc = .ok (.anewarray idx, 3)) (hat : tyA ti = .object C) (ht : ti < 8) (hcl : Cond.classLink own idx C ∈ wA) (hov : Cond.arrayOver (.object C) ∈ nestW) (hclo : clo V κ) (hno : ¬ V o) (hs : shp o = .inr (ti, n)) (hz : z = n) (hn : n ≤ 10000) (hmc : cs + 1 ≤ mc) (hms : sl + n ≤ ms)
    (kk : ∀ ad' : Ob → Nat, (∀ o', V o' → ad' o' = ad o') → clo (fun o' => V o' ∨ o' = o) (kN κ o (fun _ => rvN)) → XX Γ nL (fun o' => V o' ∨ o' = o) ad' (nv ad' (kN κ o (fun _ => rvN))) (cs + 1) (sl + n) (pc + 3) L (.ref (ad' o) :: st)) : XX Γ nL V ad (nv ad κ) cs sl pc L (.int (I z) :: st) := by
  obtain ⟨p, l, e, R, s, m, args, below, meth, c, A, Q, E⟩ := Γ
  obtain ⟨hx, hb, hml, hown, hts, hlok, hr, hK, hA0, hR, hQ, hzz⟩ := F
  intro H locs ls hW hV hS hl
  subst hR
  subst hz
  have hra := (hK.1.2 ti _ (tys_at (E := E) ht)).2
  rw [hat] at hra
  obtain ⟨kA', comp', g1, g2, g3, g4⟩ := hra
  have hcn : (I (n : Int)).toNatClampNeg = n := by rw [I_clamp (by omega)]; omega
  refine W.anew hx hb hown (hts _ hcl) (va_AO.use (hK.2.1 _ hov)) rfl dd rfl (by rw [I_0, I_lt (by omega)]; omega) (by rw [hcn]; omega) hmc (by rw [hcn]; exact hms) fun cA kA comp f1 f2 f3 f4 => ?_
  rw [hcn]
  generalize hH1 : H.push ({ cls := cA, slots := Array.replicate n .null, vm := .none } : Cell) = H1
  have z1 : H1.size = H.size + 1 := by rw [← hH1, Array.size_push]
  have e1 : H1[H.size]? = some (arrV cA n (fun _ => .null)) := by rw [← hH1, Array.getElem?_push_size, ← arrV_new]
  have o1 : ∀ q : Nat, q < H.size → H1[q]? = H[q]? := fun q hq => by rw [← hH1, Array.getElem?_push, if_neg (Nat.ne_of_lt hq)]
  have hA2 : A H.size := hzz (by omega) _ hS.1
  have hcA : E.2.1 ti = cA := Option.some.inj (g4.symm.trans f1)
  have hm := XX.made (st' := fun ad' => .ref (ad' o) :: st) (f := fun _ => rvN) hW hV hS hl hclo hno (fun _ _ h => by cases h) hA2 hA0 (fun ad' hh => by
    unfold cOK
    rw [hs, hh]
    show H1[H.size]? = some (arrV (E.2.1 ti) n _)
    rw [hcA, e1]
    rfl) z1 o1 kk
  simp only [if_true] at hm
  exact hm
theorem x_objI {idx : Nat} {a : Nat} (F : Fx Γ cc own nL ret P d mc ms) (dd : decode cc pc = .ok (.invokespecial idx, 3)) (hlk : Cond.methodLink own idx Lib.objectInit ∈ wA) (hd : 1 ≤ d) (hcat : Nat.ble ((st.map fun v => v.category).sum) 8 = true) (kk : XX Γ nL V ad ν cs sl (pc + 3) L st) : XX Γ nL V ad ν cs sl pc L (.ref a :: st) := by
  obtain ⟨p, l, e, R, s, m, args, below, meth, c, A, Q, E⟩ := Γ
  obtain ⟨hx, hb, hml, hown, hts, hlok, hr, hK, hA0, hR, hQ, hzz⟩ := F
  intro H locs ls hW hV hS hl
  subst hR
  have h2 := Nat.le_of_ble_eq_true hcat
  exact W.objInit hx hb hown (hts _ hlk) (hts _ kw_94) (hts _ kw_95) rfl (by rw [hml]; exact hl.1) rfl dd hd (by show _ + 12 ≤ 40 * d; show 0 + (st.map fun v => v.category).sum + 12 ≤ 40 * d; omega) (kk H locs ls hW hV hS hl)
end RAW
