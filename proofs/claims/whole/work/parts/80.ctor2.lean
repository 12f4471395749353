/-! ===== constructors: the state by slots done ===== -/
/-- M: made here; D: slots that are as at the start -/
noncomputable def kT (M : Ob → Prop) (D : Ob → Nat → Prop) (κ : Ka) : Ka := fun o k => cit (M o) (cit (D o k) (κ0 o k) (dfl o k)) (κ o k)
def kW (V M : Ob → Prop) : Ob → Prop := fun o => V o ∨ M o
def kOK (V M : Ob → Prop) (D : Ob → Nat → Prop) (κ : Ka) : Prop := clo (kW V M) (kT M D κ) ∧ ∀ o k, D o k → M o
theorem kT_d {M : Ob → Prop} {D : Ob → Nat → Prop} {κ : Ka} {o : Ob} {k : Nat} (h : M o) (h2 : D o k) : kT M D κ o k = κ0 o k := by unfold kT; rw [cit_t h, cit_t h2]
theorem kT_b {M : Ob → Prop} {D : Ob → Nat → Prop} {κ : Ka} {o : Ob} {k : Nat} (h : M o) (h2 : ¬ D o k) : kT M D κ o k = dfl o k := by unfold kT; rw [cit_t h, cit_f h2]
theorem kT_n {M : Ob → Prop} {D : Ob → Nat → Prop} {κ : Ka} {o : Ob} {k : Nat} (h : ¬ M o) : kT M D κ o k = κ o k := by unfold kT; rw [cit_f h]
/-- a new blank object -/
theorem kT_new {V M : Ob → Prop} {D : Ob → Nat → Prop} {κ : Ka} {o : Ob} {f : Nat → RV} (hk : kOK V M D κ) (hno : ¬ kW V M o) (hf : ∀ k, k < nsl o → f k = dfl o k) (hc : clo (fun o' => kW V M o' ∨ o' = o) (kN (kT M D κ) o f)) : kq (kW V (fun o' => M o' ∨ o' = o)) (kN (kT M D κ) o f) (kT (fun o' => M o' ∨ o' = o) D κ) ∧ kOK V (fun o' => M o' ∨ o' = o) D κ ∧ ∀ k, k < nsl o → kT (fun o' => M o' ∨ o' = o) D κ o k = dfl o k := by
  have hb : ∀ k, k < nsl o → kT (fun o' => M o' ∨ o' = o) D κ o k = dfl o k := fun k _ => kT_b (Or.inr rfl) (fun h => hno (Or.inr (hk.2 o k h)))
  have hq : kq (kW V (fun o' => M o' ∨ o' = o)) (kN (kT M D κ) o f) (kT (fun o' => M o' ∨ o' = o) D κ) := fun o' ho' k hk2 => by
    unfold kN
    by_cases e : o' = o
    · subst e
      rw [if_pos rfl, hb k hk2, hf k hk2]
    · rw [if_neg e]
      by_cases hM : M o'
      · unfold kT
        rw [cit_t hM, cit_t (Or.inl hM)]
      · rw [kT_n hM, kT_n (fun h => h.elim hM e)]
  exact ⟨hq, ⟨hc.co (fun o' => by unfold kW; rw [or_assoc]) hq, fun o' k h => Or.inl (hk.2 o' k h)⟩, hb⟩
/-- a slot set to what it is at the start -/
theorem kT_put {V M : Ob → Prop} {D : Ob → Nat → Prop} {κ : Ka} {o : Ob} {k : Nat} {r : RV} (hk : kOK V M D κ) (hM : M o) (hr : κ0 o k = r) (hr2 : ∀ o', r = rvO o' → kW V M o') : kq (kW V M) (kU (kT M D κ) o k r) (kT M (fun o' k' => D o' k' ∨ (o' = o ∧ k' = k)) κ) ∧ kOK V M (fun o' k' => D o' k' ∨ (o' = o ∧ k' = k)) κ := by
  have hq : kq (kW V M) (kU (kT M D κ) o k r) (kT M (fun o' k' => D o' k' ∨ (o' = o ∧ k' = k)) κ) := fun o' ho' k' hk2 => by
    unfold kU
    by_cases e : o' = o ∧ k' = k
    · rw [if_pos e]
      obtain ⟨rfl, rfl⟩ := e
      rw [kT_d hM (Or.inr ⟨rfl, rfl⟩), hr]
    · rw [if_neg e]
      by_cases h : M o'
      · unfold kT
        rw [cit_t h, cit_t h]
        by_cases h2 : D o' k'
        · rw [cit_t h2, cit_t (Or.inl h2)]
        · rw [cit_f h2, cit_f (fun z => z.elim h2 e)]
      · rw [kT_n h, kT_n h]
  exact ⟨hq, (clo_U hk.1 hr2).co (fun _ => Iff.rfl) hq, fun o' k' h => h.elim (hk.2 o' k') (fun e => e.1 ▸ hM)⟩
/-- other words for the same -/
theorem kT_co {V M M2 : Ob → Prop} {D D2 : Ob → Nat → Prop} {κ : Ka} (hk : kOK V M D κ) (hM : ∀ o, M2 o ↔ M o) (hD : ∀ o k, M o → (D2 o k ↔ D o k)) (hD2 : ∀ o k, D2 o k → M2 o) : kq (kW V M2) (kT M D κ) (kT M2 D2 κ) ∧ kOK V M2 D2 κ := by
  have hq : kq (kW V M2) (kT M D κ) (kT M2 D2 κ) := fun o _ k _ => by
    by_cases h : M o
    · unfold kT
      rw [cit_t h, cit_t ((hM o).mpr h)]
      by_cases h2 : D o k
      · rw [cit_t h2, cit_t ((hD o k h).mpr h2)]
      · rw [cit_f h2, cit_f (fun z => h2 ((hD o k h).mp z))]
    · rw [kT_n h, kT_n (fun z => h ((hM o).mp z))]
  exact ⟨hq, hk.1.co (fun o => by unfold kW; rw [hM o]) hq, hD2⟩
theorem nsl_inl {o : Ob} {ci : Nat} (h : shp o = .inl ci) : nsl o = [8, 2, 5, 4, 4, 3, 8, 14, 32].getD ci 0 := by unfold nsl; rw [h]
section CT2
variable {Γ : Ct} {cc : ByteArray} {own : String} {nL : Nat} {ret : Option FieldType} {P : Pq} {d mc ms : Nat} {V M V2 : Ob → Prop} {D : Ob → Nat → Prop} {ad ad2 : Ob → Nat} {ν ν2 : Mv} {κ : Ka} {cs sl pc : Nat} {L : List (Nat × Value)} {st st0 : List Value} {o o0 : Ob} {mi : Mi} {n idx d2 mc2 ms2 : Nat} {As : List Value} {P2 : Pq} {N1 : Ob → Prop}
theorem kt_new {C : String} {T : u_T} {N ci idx : Nat} (o : Ob) (F : Fx Γ cc own nL ret P d mc ms) (dd : decode cc pc = .ok (.new idx, 3)) (hc : vwCl[ci]? = some (C, T, N)) (hcl : Cond.classLink own idx C ∈ wA) (hins : Cond.instantiable C N ∈ wA) (hini : Cond.initialized C ∈ wA) (hin : ∀ w ∈ u_ws C T N, w ∈ lw_tbl ∧ goodWord w = true) (ty0 : Nat → FieldType) (hty : ∀ k, k < N → parseFieldDescriptor (T k).2.2.1 = some (ty0 k)) (hdf : ∀ k, k < N → ∀ ad : Ob → Nat, defaultValue (ty0 k) = rval ad (dfl o k)) (hk : kOK V M D κ) (hno : ¬ kW V M o) (hs : shp o = .inl ci) (hmc : cs + 1 ≤ mc) (hms : sl + N ≤ ms)
    (kk : ∀ ad' : Ob → Nat, (∀ o', kW V M o' → ad' o' = ad o') → kOK V (fun o' => M o' ∨ o' = o) D κ → (∀ k, k < nsl o → kT (fun o' => M o' ∨ o' = o) D κ o k = dfl o k) → XX Γ nL (kW V (fun o' => M o' ∨ o' = o)) ad' (nv ad' (kT (fun o' => M o' ∨ o' = o) D κ)) (cs + 1) (sl + N) (pc + 3) L (.ref (ad' o) :: st)) : XX Γ nL (kW V M) ad (nv ad (kT M D κ)) cs sl pc L st := by
  refine x_newO (o := o) (dfl o) F dd hc hcl hins hini hin ty0 hty hdf (fun k o' => dfl_no o k o') hk.1 hno hs hmc hms (fun ad' e1 c1 => ?_)
  obtain ⟨hq, h2, h3⟩ := kT_new hk hno (fun _ _ => rfl) c1
  exact XX.co (fun o' h => by unfold kW at h ⊢; rw [or_assoc]; exact h) (fun _ _ => rfl) (hq.nv ad') (kk ad' e1 h2 h3)
theorem kt_A {atype : ArrayType} {ti k1 : Nat} {z : Int} (o : Ob) (f : RV) (F : Fx Γ cc own nL ret P d mc ms) (dd : decode cc pc = .ok (.newarray atype, 2)) (hat : newarray.typeOf atype = tyA ti) (ht : ti < 4) (hw : Cond.arrayClass (tyA ti) ∈ wA) (hdf : ∀ ad : Ob → Nat, defaultValue (tyA ti) = rval ad f) (hf : ∀ o', f ≠ rvO o') (hd : ∀ k, dfl o k = f) (hk : kOK V M D κ) (hno : ¬ kW V M o) (hs : shp o = .inr (ti, k1)) (hz : z = k1) (hn : k1 ≤ 10000) (hmc : cs + 1 ≤ mc) (hms : sl + k1 ≤ ms)
    (kk : ∀ ad' : Ob → Nat, (∀ o', kW V M o' → ad' o' = ad o') → kOK V (fun o' => M o' ∨ o' = o) D κ → XX Γ nL (kW V (fun o' => M o' ∨ o' = o)) ad' (nv ad' (kT (fun o' => M o' ∨ o' = o) D κ)) (cs + 1) (sl + k1) (pc + 2) L (.ref (ad' o) :: st)) : XX Γ nL (kW V M) ad (nv ad (kT M D κ)) cs sl pc L (.int (I z) :: st) := by
  refine x_newA (o := o) f F dd hat ht hw hdf hf hk.1 hno hs hz hn hmc hms (fun ad' e1 c1 => ?_)
  obtain ⟨hq, h2, h3⟩ := kT_new hk hno (fun k _ => (hd k).symm) c1
  exact XX.co (fun o' h => by unfold kW at h ⊢; rw [or_assoc]; exact h) (fun _ _ => rfl) (hq.nv ad') (kk ad' e1 h2)
theorem kt_Q {C : String} {ti k1 : Nat} {z : Int} (o : Ob) (F : Fx Γ cc own nL ret P d mc ms) (dd : decode cc pc = .ok (.anewarray idx, 3)) (hat : tyA ti = .object C) (ht : ti < 8) (hcl : Cond.classLink own idx C ∈ wA) (hov : Cond.arrayOver (.object C) ∈ nestW) (hd : ∀ k, dfl o k = rvN) (hk : kOK V M D κ) (hno : ¬ kW V M o) (hs : shp o = .inr (ti, k1)) (hz : z = k1) (hn : k1 ≤ 10000) (hmc : cs + 1 ≤ mc) (hms : sl + k1 ≤ ms)
    (kk : ∀ ad' : Ob → Nat, (∀ o', kW V M o' → ad' o' = ad o') → kOK V (fun o' => M o' ∨ o' = o) D κ → XX Γ nL (kW V (fun o' => M o' ∨ o' = o)) ad' (nv ad' (kT (fun o' => M o' ∨ o' = o) D κ)) (cs + 1) (sl + k1) (pc + 3) L (.ref (ad' o) :: st)) : XX Γ nL (kW V M) ad (nv ad (kT M D κ)) cs sl pc L (.int (I z) :: st) := by
  refine x_anew (o := o) F dd hat ht hcl hov hk.1 hno hs hz hn hmc hms (fun ad' e1 c1 => ?_)
  obtain ⟨hq, h2, h3⟩ := kT_new hk hno (fun k _ => (hd k).symm) c1
  exact XX.co (fun o' h => by unfold kW at h ⊢; rw [or_assoc]; exact h) (fun _ _ => rfl) (hq.nv ad') (kk ad' e1 h2)
theorem kt_P {C : String} {Tf : u_T} {N ci : Nat} {k : Nat} {r : RV} {v : Value} (hM : M o) (hk0 : kOK V M D κ) (hr : κ0 o k = r) (hr2 : ∀ o', r = rvO o' → kW V M o') (hv : rval ad r = v) (F : Fx Γ cc own nL ret P d mc ms) (dd : decode cc pc = .ok (.putfield idx, 3)) (hc : vwCl[ci]? = some (C, Tf, N)) (hin : ∀ w ∈ u_ws C Tf N, w ∈ lw_tbl ∧ goodWord w = true) (ty0 : Nat → FieldType) (hty : ∀ k, k < N → parseFieldDescriptor (Tf k).2.2.1 = some (ty0 k)) (hnm : ∀ a, a < N → ∀ b, b < N → a ≠ b → (Tf a).2.1 ≠ (Tf b).2.1) (hk : k < N) (hlk : Cond.fieldLink own idx C (Tf k).2.1 (Tf k).2.2.1 ∈ wA) (hO : (Tf k).1 = C) (hfin : (Tf k).2.2.2 = false) (hs : shp o = .inl ci) (hn : narrow (ty0 k) v = v) (hfit : fits (ty0 k) v = true)
    (kk : kOK V M (fun o' k' => D o' k' ∨ (o' = o ∧ k' = k)) κ → XX Γ nL (kW V M) ad (nv ad (kT M (fun o' k' => D o' k' ∨ (o' = o ∧ k' = k)) κ)) cs sl (pc + 3) L st) : XX Γ nL (kW V M) ad (nv ad (kT M D κ)) cs sl pc L (v :: .ref (ad o) :: st) := by
  subst hv
  obtain ⟨hq, h2⟩ := kT_put hk0 hM hr hr2
  refine x_put (V := kW V M) (o := o) F dd hc hin ty0 hty hnm k hk hlk hO hfin (Or.inr hM) hs hn hfit ?_
  rw [upV_nv]
  exact XX.co (fun _ h => h) (fun _ _ => rfl) (hq.nv ad) (kk h2)
theorem kt_F {C : String} {Tf : u_T} {N ci : Nat} {k : Nat} {r : RV} {v : Value} (hM : M o) (hk0 : kOK V M D κ) (hr : κ0 o k = r) (hr2 : ∀ o', r = rvO o' → kW V M o') (hv : rval ad r = v) (F : Fx Γ cc own nL ret P d mc ms) (hin2 : Γ.2.2.2.2.2.2.2.2.1.name = "<init>") (dd : decode cc pc = .ok (.putfield idx, 3)) (hc : vwCl[ci]? = some (C, Tf, N)) (hin : ∀ w ∈ u_ws C Tf N, w ∈ lw_tbl ∧ goodWord w = true) (ty0 : Nat → FieldType) (hty : ∀ k, k < N → parseFieldDescriptor (Tf k).2.2.1 = some (ty0 k)) (hnm : ∀ a, a < N → ∀ b, b < N → a ≠ b → (Tf a).2.1 ≠ (Tf b).2.1) (hk : k < N) (hlk : Cond.fieldLink own idx C (Tf k).2.1 (Tf k).2.2.1 ∈ wA) (hO : (Tf k).1 = C) (hdecl : C = own) (hfin : (Tf k).2.2.2 = true) (hs : shp o = .inl ci) (hn : narrow (ty0 k) v = v) (hfit : fits (ty0 k) v = true)
    (kk : kOK V M (fun o' k' => D o' k' ∨ (o' = o ∧ k' = k)) κ → XX Γ nL (kW V M) ad (nv ad (kT M (fun o' k' => D o' k' ∨ (o' = o ∧ k' = k)) κ)) cs sl (pc + 3) L st) : XX Γ nL (kW V M) ad (nv ad (kT M D κ)) cs sl pc L (v :: .ref (ad o) :: st) := by
  subst hv
  obtain ⟨hq, h2⟩ := kT_put hk0 hM hr hr2
  refine x_putF (V := kW V M) (o := o) F hin2 dd hc hin ty0 hty hnm k hk hlk hO hdecl hfin (Or.inr hM) hs hn hfit ?_
  rw [upV_nv]
  exact XX.co (fun _ h => h) (fun _ _ => rfl) (hq.nv ad) (kk h2)
/-- aastore of an object -/
theorem x_aast {C : String} {T : u_T} {N ci ti n : Nat} {j : Int} {ov : Ob} (F : Fx Γ cc own nL ret P d mc ms) (dd : decode cc pc = .ok (.aastore, 1)) (ho : V o) (hs : shp o = .inr (ti, n)) (ht : ti < 8) (hat : tyA ti = .object C) (hov : V ov) (hsv : shp ov = .inl ci) (hc : vwCl[ci]? = some (C, T, N)) (hj : 0 ≤ j ∧ j < n ∧ n ≤ 2147483647) (kk : XX Γ nL V ad (upV ν o j.toNat (.ref (ad ov))) cs sl (pc + 1) L st) : XX Γ nL V ad ν cs sl pc L (.ref (ad ov) :: .int (I j) :: .ref (ad o) :: st) := by
  obtain ⟨p, l, e, R, s, m, args, below, meth, c, A, Q, E⟩ := Γ
  obtain ⟨hx, hb, hml, hown, hts, hlok, hr, hK, hA0, hR, hQ, hzz⟩ := F
  intro H locs ls hW hV hS hl
  have h1 := hW.1 o ho
  unfold cOK at h1
  rw [hs] at h1
  have g := hW.1 ov hov
  unfold cOK at g
  rw [hsv] at g
  obtain ⟨r, g1, cell, q1, q2, q3, q4⟩ := g
  have hr : r = (C, T, N) := Option.some.inj (g1.symm.trans hc)
  subst hr
  have hKn := hK.1.1 ci _ hc
  have hra := (hK.1.2 ti _ (tys_at (E := E) ht)).2
  rw [hat] at hra
  obtain ⟨kA, comp, k1, k2, k3, -⟩ := hra
  have hcomp : comp = E.1.1 ci := Option.some.inj (k3.symm.trans hKn.2.1)
  subst hcomp
  have hcls := hKn.2
  obtain ⟨kC, hkC, -⟩ := hKn.2.2
  have h2 := arr_in (ti := 0) (cA := E.2.1 ti) (f := ν o) hj
  refine W.aast hx hb h1 (fun q h => by cases h) (fun h => by cases h) k1 k2 rfl hkC ⟨by rw [I_0, I_lt (by omega)]; omega, by show _ < (arrV _ _ _).slots.size; rw [arrV_size, I_clamp (by omega)]; omega⟩ q1 (fun q h => by rw [q3] at h; cases h) (by rw [q2]; exact hkC) (by rw [q2]; exact va_assign hcls) rfl rfl dd fun H1 e1 z1 oq => ?_
  refine kk H1 _ ls ?_ hV (hS.cell (hV o ho) z1 oq) hl
  rw [← upV_eq (f := fun i => if i = j.toNat then (.ref (ad ov)) else ν o i) (fun i => rfl)]
  refine hW.set ho ?_ oq
  unfold cOK
  rw [hs]
  show H1[ad o]? = some (arrV _ n _)
  rw [e1, arrV_store, I_clamp (by omega)]
  congr 2
theorem kt_aa {C : String} {T : u_T} {N ci ti n : Nat} {j : Int} {ov : Ob} (hM : M o) (hk0 : kOK V M D κ) (hr : κ0 o j.toNat = rvO ov) (F : Fx Γ cc own nL ret P d mc ms) (dd : decode cc pc = .ok (.aastore, 1)) (hs : shp o = .inr (ti, n)) (ht : ti < 8) (hat : tyA ti = .object C) (hov : kW V M ov) (hsv : shp ov = .inl ci) (hc : vwCl[ci]? = some (C, T, N)) (hj : 0 ≤ j ∧ j < n ∧ n ≤ 2147483647)
    (kk : kOK V M (fun o' k' => D o' k' ∨ (o' = o ∧ k' = j.toNat)) κ → XX Γ nL (kW V M) ad (nv ad (kT M (fun o' k' => D o' k' ∨ (o' = o ∧ k' = j.toNat)) κ)) cs sl (pc + 1) L st) : XX Γ nL (kW V M) ad (nv ad (kT M D κ)) cs sl pc L (.ref (ad ov) :: .int (I j) :: .ref (ad o) :: st) := by
  obtain ⟨hq, h2⟩ := kT_put hk0 hM hr (fun o' e => by cases e; exact hov)
  refine x_aast (V := kW V M) (o := o) F dd (Or.inr hM) hs ht hat hov hsv hc hj ?_
  rw [show (.ref (ad ov) : Value) = rval ad (rvO ov) from rfl, upV_nv]
  exact XX.co (fun _ h => h) (fun _ _ => rfl) (hq.nv ad) (kk h2)
theorem kt_ca {n : Nat} {j z : Int} (hM : M o) (hk0 : kOK V M D κ) (hr : κ0 o j.toNat = rvI z) (F : Fx Γ cc own nL ret P d mc ms) (dd : decode cc pc = .ok (.castore, 1)) (hs : shp o = .inr (3, n)) (hj : 0 ≤ j ∧ j < n ∧ n ≤ 2147483647) (hx0 : narrow .char (.int (I z)) = .int (I z))
    (kk : kOK V M (fun o' k' => D o' k' ∨ (o' = o ∧ k' = j.toNat)) κ → XX Γ nL (kW V M) ad (nv ad (kT M (fun o' k' => D o' k' ∨ (o' = o ∧ k' = j.toNat)) κ)) cs sl (pc + 1) L st) : XX Γ nL (kW V M) ad (nv ad (kT M D κ)) cs sl pc L (.int (I z) :: .int (I j) :: .ref (ad o) :: st) := by
  obtain ⟨hq, h2⟩ := kT_put hk0 hM hr (fun o' e => by cases e)
  refine x_cast (V := kW V M) (o := o) F dd (Or.inr hM) hs hj ?_
  rw [hx0, show (.int (I z) : Value) = rval ad (rvI z) from rfl, upV_nv]
  exact XX.co (fun _ h => h) (fun _ _ => rfl) (hq.nv ad) (kk h2)
theorem kt_ia {n : Nat} {j z : Int} (hM : M o) (hk0 : kOK V M D κ) (hr : κ0 o j.toNat = rvI z) (F : Fx Γ cc own nL ret P d mc ms) (dd : decode cc pc = .ok (.iastore, 1)) (hs : shp o = .inr (0, n)) (hj : 0 ≤ j ∧ j < n ∧ n ≤ 2147483647)
    (kk : kOK V M (fun o' k' => D o' k' ∨ (o' = o ∧ k' = j.toNat)) κ → XX Γ nL (kW V M) ad (nv ad (kT M (fun o' k' => D o' k' ∨ (o' = o ∧ k' = j.toNat)) κ)) cs sl (pc + 1) L st) : XX Γ nL (kW V M) ad (nv ad (kT M D κ)) cs sl pc L (.int (I z) :: .int (I j) :: .ref (ad o) :: st) := by
  obtain ⟨hq, h2⟩ := kT_put hk0 hM hr (fun o' e => by cases e)
  refine x_iast (V := kW V M) (o := o) F dd (Or.inr hM) hs hj ?_
  rw [show (.int (I z) : Value) = rval ad (rvI z) from rfl, upV_nv]
  exact XX.co (fun _ h => h) (fun _ _ => rfl) (hq.nv ad) (kk h2)
/-- behind a constructor's call -/
theorem kT_call {ad' : Ob → Nat} (hk : kOK V M D κ) (hM : M o) (hNo : ∀ o', N1 o' → ¬ kW V M o') (hc : clo (fun o' => kW V M o' ∨ N1 o') (ovr (fun o' => o' = o ∨ N1 o') (kT M D κ))) (kk : kOK V (fun o' => M o' ∨ N1 o') (fun o' k' => D o' k' ∨ (o' = o ∨ N1 o')) κ → XX Γ nL (kW V (fun o' => M o' ∨ N1 o')) ad' (nv ad' (kT (fun o' => M o' ∨ N1 o') (fun o' k' => D o' k' ∨ (o' = o ∨ N1 o')) κ)) cs sl pc L st) : XX Γ nL (fun o' => kW V M o' ∨ N1 o') ad' (nv ad' (ovr (fun o' => o' = o ∨ N1 o') (kT M D κ))) cs sl pc L st := by
  have hq : kq (kW V (fun o' => M o' ∨ N1 o')) (ovr (fun o' => o' = o ∨ N1 o') (kT M D κ)) (kT (fun o' => M o' ∨ N1 o') (fun o' k' => D o' k' ∨ (o' = o ∨ N1 o')) κ) := fun o' ho' k hk2 => by
    unfold ovr
    by_cases h : o' = o ∨ N1 o'
    · rw [cit_t h]
      have hm : M o' ∨ N1 o' := h.imp (fun (e : o' = o) => e ▸ hM) id
      rw [kT_d hm (Or.inr h)]
    · rw [cit_f h]
      by_cases h2 : M o'
      · unfold kT
        rw [cit_t h2, cit_t (Or.inl h2)]
        by_cases h3 : D o' k
        · rw [cit_t h3, cit_t (Or.inl h3)]
        · rw [cit_f h3, cit_f (fun z => z.elim h3 h)]
      · rw [kT_n h2, kT_n (fun z => z.elim h2 (fun z => h (Or.inr z)))]
  refine XX.co (fun o' h => by unfold kW at h ⊢; rw [or_assoc]; exact h) (fun _ _ => rfl) (hq.nv ad') (kk ⟨hc.co (fun o' => by unfold kW; rw [or_assoc]) hq, fun o' k' h => ?_⟩)
  rcases h with h | rfl | h
  · exact Or.inl (hk.2 o' k' h)
  · exact Or.inl hM
  · exact Or.inr h
theorem kt_I (F : Fx Γ cc own nL ret P d mc ms) (dd : decode cc pc = .ok (.invokespecial idx, 3)) (hL : LkI own idx mi n) (hn : As.length = n) (hst : st0 = As.reverse ++ .ref (ad o) :: st) (hcat : Nat.ble ((st.map fun v => v.category).sum) 8 = true) (hd : d2 + 1 ≤ d) (hmc : cs + mc2 ≤ mc) (hms : sl + ms2 ≤ ms) (hzz : 0 < mc ∨ mc2 = 0) (hk : kOK V M D κ) (hM1 : M o) (hNo : ∀ o', N1 o' → ¬ kW V M o')
    (hM : ∀ (l : Launch) (E : Ev) (A : Nat → Prop), ctor l E d2 mi A (kW V M) ad (kT M D κ) N1 o (.ref (ad o) :: As) mc2 ms2) (kk : ∀ ad' : Ob → Nat, (∀ o', kW V M o' → ad' o' = ad o') → kOK V (fun o' => M o' ∨ N1 o') (fun o' k' => D o' k' ∨ (o' = o ∨ N1 o')) κ → XX Γ nL (kW V (fun o' => M o' ∨ N1 o')) ad' (nv ad' (kT (fun o' => M o' ∨ N1 o') (fun o' k' => D o' k' ∨ (o' = o ∨ N1 o')) κ)) (cs + mc2) (sl + ms2) (pc + 3) L st) : XX Γ nL (kW V M) ad (nv ad (kT M D κ)) cs sl pc L st0 := by
  refine x_callI F dd hL hn hst hcat hd hmc hms hzz hM ?_
  rintro v V' ad' ν' ⟨rfl, rfl, hag, hc, rfl⟩
  exact kT_call hk hM1 hNo hc (kk ad' hag)
theorem kt_IN {host : String} (F : Fx Γ cc own nL ret P d mc ms) (dd : decode cc pc = .ok (.invokespecial idx, 3)) (hL : LkIN own idx mi host n) (hn : As.length = n) (hst : st0 = As.reverse ++ .ref (ad o) :: st) (hcat : Nat.ble ((st.map fun v => v.category).sum) 8 = true) (hd : d2 + 1 ≤ d) (hmc : cs + mc2 ≤ mc) (hms : sl + ms2 ≤ ms) (hzz : 0 < mc ∨ mc2 = 0) (hk : kOK V M D κ) (hM1 : M o) (hNo : ∀ o', N1 o' → ¬ kW V M o')
    (hM : ∀ (l : Launch) (E : Ev) (A : Nat → Prop), ctor l E d2 mi A (kW V M) ad (kT M D κ) N1 o (.ref (ad o) :: As) mc2 ms2) (kk : ∀ ad' : Ob → Nat, (∀ o', kW V M o' → ad' o' = ad o') → kOK V (fun o' => M o' ∨ N1 o') (fun o' k' => D o' k' ∨ (o' = o ∨ N1 o')) κ → XX Γ nL (kW V (fun o' => M o' ∨ N1 o')) ad' (nv ad' (kT (fun o' => M o' ∨ N1 o') (fun o' k' => D o' k' ∨ (o' = o ∨ N1 o')) κ)) (cs + mc2) (sl + ms2) (pc + 3) L st) : XX Γ nL (kW V M) ad (nv ad (kT M D κ)) cs sl pc L st0 := by
  refine x_callIN F dd hL hn hst hcat hd hmc hms hzz hM ?_
  rintro v V' ad' ν' ⟨rfl, rfl, hag, hc, rfl⟩
  exact kT_call hk hM1 hNo hc (kk ad' hag)
theorem kt_0 (o0 : Ob) (hclo : clo V κ) (hV0 : V o0) (h0 : ∀ k, k < nsl o0 → κ o0 k = dfl o0 k) (kk : kOK V (fun o => o = o0) (fun _ _ => False) κ → XX Γ nL (kW V (fun o => o = o0)) ad (nv ad (kT (fun o => o = o0) (fun _ _ => False) κ)) cs sl pc L st) : XX Γ nL V ad (nv ad κ) cs sl pc L st := by
  have hiff : ∀ o, kW V (fun o => o = o0) o ↔ V o := fun o => ⟨fun h => h.elim id (fun e => e ▸ hV0), Or.inl⟩
  have hq : kq (kW V (fun o => o = o0)) κ (kT (fun o => o = o0) (fun _ _ => False) κ) := fun o' ho' k hk => by
    by_cases e : o' = o0
    · subst e
      rw [kT_b (M := fun o => o = o') (D := fun _ _ => False) rfl id, h0 k hk]
    · rw [kT_n (M := fun o => o = o0) e]
  exact XX.co (fun o h => (hiff o).mp h) (fun _ _ => rfl) (hq.nv ad) (kk ⟨hclo.co hiff hq, fun _ _ h => h.elim⟩)
theorem kt_R (F : Fx Γ cc own nL none (ctP V ad2 κ N1 o0) d mc ms) (dd : decode cc pc = .ok (.return_, 1)) (hV0 : V o0) (hN : ∀ o, M o ↔ (o = o0 ∨ N1 o)) (hT : ∀ o, M o → ∀ k, k < nsl o → ¬ D o k → κ0 o k = dfl o k) (hag : ∀ o, V o → ad o = ad2 o) (hk : kOK V M D κ) (hc : cs = mc) (hs : sl = ms) : XX Γ nL (kW V M) ad (nv ad (kT M D κ)) cs sl pc L [] := by
  have hiff : ∀ o, (V o ∨ N1 o) ↔ kW V M o := fun o => by
    unfold kW
    rw [hN o]
    exact ⟨fun h => h.imp id Or.inr, fun h => h.elim Or.inl (fun h => h.elim (fun (e : o = o0) => Or.inl (e ▸ hV0)) Or.inr)⟩
  have hq : kq (fun o => V o ∨ N1 o) (kT M D κ) (ovr (fun o => o = o0 ∨ N1 o) κ) := fun o' ho' k hk2 => by
    unfold ovr
    by_cases h : M o'
    · rw [cit_t ((hN o').mp h)]
      by_cases h2 : D o' k
      · rw [kT_d h h2]
      · rw [kT_b h h2, hT o' h k hk2 h2]
    · rw [kT_n h, cit_f (fun z => h ((hN o').mpr z))]
  exact XX.co (fun o h => (hiff o).mp h) (fun _ _ => rfl) (hq.nv ad) (x_vret F dd ⟨rfl, rfl, hag, hk.1.co hiff hq, rfl⟩ rfl hc hs)
theorem kt_co {M2 : Ob → Prop} {D2 : Ob → Nat → Prop} (hk : kOK V M D κ) (hM : ∀ o, M2 o ↔ M o) (hD : ∀ o k, M o → (D2 o k ↔ D o k)) (hD2 : ∀ o k, D2 o k → M2 o) (kk : kOK V M2 D2 κ → XX Γ nL (kW V M2) ad (nv ad (kT M2 D2 κ)) cs sl pc L st) : XX Γ nL (kW V M) ad (nv ad (kT M D κ)) cs sl pc L st := by
  obtain ⟨hq, h2⟩ := kT_co hk hM hD hD2
  exact XX.co (fun o h => by unfold kW at h ⊢; rw [← hM o]; exact h) (fun _ _ => rfl) (hq.nv ad) (kk h2)
end CT2
