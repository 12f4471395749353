/-! ===== calls on a part of the world: the rest stays; the law's own rows ===== -/
section FRM
variable {p : Program} {l : Launch} {e : Env} {R : Room} {s : State} {m : MethodId} {args : Array Value} {below : List Frame} {meth : Method} {c : Code} {H : Heap} {locs : List Loc} {cells slots : Nat} {Q : State → Prop} {pc : Nat} {ls : Array Slot} {rest st0 : List Value} {a : Array Value} {A A1 : Nat → Prop} {mc ms : Nat} {E : Ev} {P : Pq}
theorem q_backF (hr : va_Run p l e R s m args below meth c H locs cells slots mc ms (F0 m pc ls st0) rest (QG E P A1 a) A1) (hS : va_S A s.heap H locs) (hA : ∀ q, A1 q → A q)
    (kk : ∀ (v : Option Value) (V : Ob → Prop) (ad : Ob → Nat) (ν : Mv) (H1 : Heap) (locs1 : List Loc), P v V ad ν → Wd E V ad ν H1 → (∀ o, V o → A1 (ad o)) → (∀ q : Nat, q < H.size → ¬ A1 q → H1[q]? = H[q]?) → va_S A s.heap H1 locs1 → W p l e R s m args below meth c H1 locs1 (cells + mc) (slots + ms) Q (F0 m (pc + 3) ls (v.toList ++ rest))) : W p l e R s m args below meth c H locs cells slots Q (F0 m pc ls st0) := by
  intro T hT X
  obtain ⟨v, st₀, t, T', L, h0, X', hL, e1, e2, ⟨⟨v', V, ad, ν, hv, hP, hW, hV⟩, hz, hk⟩, st⟩ := hr T hT X
  cases hv
  rw [h0] at hz hk
  obtain ⟨t2, a1, b1⟩ := kk v V ad ν T'.heap (locs ++ L) hP (by rw [e1]; exact hW) hV (fun q h1 h2 => by rw [e1]; exact hk q h1 h2) ⟨Nat.le_trans hS.1 (by rw [e1]; exact hz), fun q h1 h2 => by rw [e1, hk q (Nat.lt_of_lt_of_le h1 hS.1) (fun z => h2 (hA q z))]; exact hS.2.1 q h1 h2, fun q hq => by
      rcases List.mem_append.mp hq with h | h
      · exact hS.2.2 q h
      · exact hA _ (hL q h)⟩ T' rfl X'
  exact ⟨t2, st t2 a1, b1⟩
theorem Wd.join {V V1 V' : Ob → Prop} {ad ad' ad2 : Ob → Nat} {ν ν' ν2 : Mv} {H H1 : Heap} (h : Wd E V ad ν H) (h1 : Wd E V' ad' ν' H1) (hA1 : ∀ q, A1 q → q < H.size → ∃ o, V1 o ∧ ad o = q) (hV1 : ∀ o, V1 o → V o) (hV' : ∀ o, V' o → A1 (ad' o)) (hk : ∀ q : Nat, q < H.size → ¬ A1 q → H1[q]? = H[q]?)
    (e1 : ∀ o, V' o → ad2 o = ad' o ∧ ∀ k, k < nsl o → ν' o k = ν2 o k) (e2 : ∀ o, V o → ¬ V1 o → ad2 o = ad o ∧ ∀ k, k < nsl o → ν o k = ν2 o k) : Wd E (fun o => V' o ∨ (V o ∧ ¬ V1 o)) ad2 ν2 H1 := by
  have g1 : Wd E V' ad2 ν2 H1 := h1.co (fun _ h => h) (fun o ho => (e1 o ho).1) (fun o ho k hk => (e1 o ho).2 k hk)
  have g0 : Wd E (fun o => V o ∧ ¬ V1 o) ad2 ν2 H := h.co (fun _ h => h.1) (fun o ho => (e2 o ho.1 ho.2).1) (fun o ho k hk => (e2 o ho.1 ho.2).2 k hk)
  have hn : ∀ o, V o → ¬ V1 o → ad o < H.size ∧ ¬ A1 (ad o) := fun o ho hn => ⟨h.lt ho, fun z => by
    obtain ⟨o3, h3, e3⟩ := hA1 _ z (h.lt ho)
    exact hn (h.2.1 o3 o (hV1 o3 h3) ho e3 ▸ h3)⟩
  refine ⟨fun o ho => ?_, fun o1 o2 a1 a2 he => ?_, fun o ho => ?_⟩
  · rcases ho with ho | ⟨ho, hn1⟩
    · exact g1.1 o ho
    · have b := g0.1 o ⟨ho, hn1⟩
      have hq : H1[ad2 o]? = H[ad2 o]? := by rw [(e2 o ho hn1).1]; exact hk _ (hn o ho hn1).1 (hn o ho hn1).2
      unfold cOK at b ⊢
      split
      · rename_i ci hs
        rw [hs] at b
        obtain ⟨r, a, b⟩ := b
        exact ⟨r, a, b.kept hq⟩
      · rename_i ti n hs
        rw [hs] at b
        rw [hq]
        exact b
  · rcases a1 with a1 | ⟨a1, n1⟩ <;> rcases a2 with a2 | ⟨a2, n2⟩
    · exact g1.2.1 o1 o2 a1 a2 he
    · exfalso
      rw [(e1 o1 a1).1, (e2 o2 a2 n2).1] at he
      exact (hn o2 a2 n2).2 (he ▸ hV' o1 a1)
    · exfalso
      rw [(e1 o2 a2).1, (e2 o1 a1 n1).1] at he
      exact (hn o1 a1 n1).2 (he.symm ▸ hV' o2 a2)
    · exact g0.2.1 o1 o2 ⟨a1, n1⟩ ⟨a2, n2⟩ he
  · rcases ho with ho | ho
    · exact g1.2.2 o ho
    · exact g0.2.2 o ho
end FRM
section FRX
variable {Γ : Ct} {cc : ByteArray} {own : String} {nL : Nat} {ret : Option FieldType} {P : Pq} {d mc ms : Nat} {V V1 : Ob → Prop} {ad : Ob → Nat} {ν ν1 : Mv} {cs sl pc : Nat} {L : List (Nat × Value)} {st st0 : List Value} {o : Ob} {mi : Mi} {C : String} {T : u_T} {N ci n idx d2 mc2 ms2 : Nat} {As : List Value} {P2 : Pq}
/-- a virtual call on the world V1, a part of V -/
theorem x_callVF (F : Fx Γ cc own nL ret P d mc ms) (dd : decode cc pc = .ok (.invokevirtual idx, 3)) (hL : LkV own idx mi C n) (hci : vwCl[ci]? = some (C, T, N)) (hsub : ∀ o, V1 o → V o) (ho : V1 o) (hs : shp o = .inl ci) (hn : As.length = n) (hst : st0 = As.reverse ++ .ref (ad o) :: st) (hcat : Nat.ble ((st.map fun v => v.category).sum) 8 = true) (hd : d2 + 1 ≤ d) (hmc : cs + mc2 ≤ mc) (hms : sl + ms2 ≤ ms)
    (hν : ∀ o, V1 o → ∀ k, k < nsl o → ν o k = ν1 o k)
    (hM : ∀ (l : Launch) (E : Ev) (A : Nat → Prop), ConG l E d2 mi.1 mi.2.1 mi.2.2.1 mi.2.2.2 A V1 ad ν1 mc2 ms2 (.ref (ad o) :: As) P2) (kk : ∀ (v : Option Value) (V' : Ob → Prop) (ad' : Ob → Nat) (ν' : Mv), P2 v V' ad' ν' → ∃ (ad2 : Ob → Nat) (ν2 : Mv), (∀ o, V' o → ad2 o = ad' o ∧ ∀ k, k < nsl o → ν' o k = ν2 o k) ∧ (∀ o, V o → ¬ V1 o → ad2 o = ad o ∧ ∀ k, k < nsl o → ν o k = ν2 o k) ∧ XX Γ nL (fun o => V' o ∨ (V o ∧ ¬ V1 o)) ad2 ν2 (cs + mc2) (sl + ms2) (pc + 3) L (v.toList ++ st)) : XX Γ nL V ad ν cs sl pc L st0 := by
  obtain ⟨p, l, e, R, s, m, args, below, meth, c, A, Q, E⟩ := Γ
  obtain ⟨hx, hb, hml, hown, hts, hlok, hr, hK, hA0, hR, hQ, hzz⟩ := F
  obtain ⟨w1, w2, w3, w4, w5, w6, w7, w8, w9⟩ := hL
  have w9 := Nat.le_of_ble_eq_true w9
  intro H locs ls hW hV hS hl
  have h1 := hW.1 o (hsub o ho)
  unfold cOK at h1
  rw [hs] at h1
  obtain ⟨r, h1, cell, q1, q2, q3, q4⟩ := h1
  have hrr : r = (C, T, N) := Option.some.inj (h1.symm.trans hci)
  subst hrr
  subst hR
  have hfc := (hK.1.1 ci _ hci).2.1
  have hW1 : Wd E V1 ad ν1 H := hW.co hsub (fun _ _ => rfl) hν
  have hAA : ∀ q, ((∃ o, V1 o ∧ ad o = q) ∨ (0 < mc2 ∧ H.size ≤ q)) → A q := fun q h => by
    rcases h with ⟨o', h1', rfl⟩ | ⟨h1', h2'⟩
    · exact hV o' (hsub o' h1')
    · exact hzz (by omega) q (Nat.le_trans hS.1 h2')
  have CB : CallB (rmD d mc ms) s args own idx mi.1 mi.2.1 mi.2.2.1 mi.2.2.2 (Cond.code mi.1 mi.2.1 mi.2.2.1 mi.2.2.2 :: wA) (rmD d2 mc2 ms2) mc2 ms2 n := callB_of n hts (gi_code w5) rfl rfl rfl (by rw [w6]; exact hts _ w4) (hts _ w1) ⟨w7.1, w7.2, w8⟩ ⟨hd, by show 8 + (mi.2.2.1 + 11) + 40 * d2 ≤ 40 * d; omega⟩
  refine q_backF (A1 := fun q => (∃ o, V1 o ∧ ad o = q) ∨ (0 < mc2 ∧ H.size ≤ q)) (va_runV (As := As) (rest := st) (b := ad o) ⟨hx, hb, hml, hown, hts⟩ (hM l E (fun q => (∃ o, V1 o ∧ ad o = q) ∨ (0 < mc2 ∧ H.size ≤ q)) (fun o' ho' => Or.inl ⟨o', ho', rfl⟩) (fun q hq => hA0 q (hAA q hq))) ⟨CB, hts _ w2, hts _ w3⟩ ⟨PcG.blind, ⟨cell, q1, by rw [q3]; rfl, by rw [q2]; exact hfc⟩, fun U hU hw => ⟨rfl, by rw [hU]; exact hW1, hK.next hA0 hS hU hw, fun hz q hq => Or.inr ⟨hz, by rw [← hU]; exact hq⟩⟩⟩ rfl hn hl.1 hst (lv_room (Nat.le_of_ble_eq_true hcat)) dd ⟨hmc, hms⟩) hS hAA ?_
  intro v V' ad' ν' H1 locs1 hP hW1' hV1' hk1 hS1
  obtain ⟨ad2, ν2, e1, e2, kk⟩ := kk v V' ad' ν' hP
  refine kk H1 locs1 ls (hW.join hW1' (A1 := fun q => (∃ o, V1 o ∧ ad o = q) ∨ (0 < mc2 ∧ H.size ≤ q)) (fun q hq hlt => hq.elim id (fun h => by omega)) hsub hV1' hk1 e1 e2) (fun o' ho' => ?_) hS1 hl
  rcases ho' with ho' | ⟨ho', hn'⟩
  · rw [(e1 o' ho').1]
    exact hAA _ (hV1' o' ho')
  · rw [(e2 o' ho' hn').1]
    exact hV o' ho'
/-- a constructor's call on the world V1, a part of V -/
theorem x_callIF (F : Fx Γ cc own nL ret P d mc ms) (dd : decode cc pc = .ok (.invokespecial idx, 3)) (hL : LkI own idx mi n) (hsub : ∀ o, V1 o → V o) (hn : As.length = n) (hst : st0 = As.reverse ++ .ref (ad o) :: st) (hcat : Nat.ble ((st.map fun v => v.category).sum) 8 = true) (hd : d2 + 1 ≤ d) (hmc : cs + mc2 ≤ mc) (hms : sl + ms2 ≤ ms)
    (hν : ∀ o, V1 o → ∀ k, k < nsl o → ν o k = ν1 o k)
    (hM : ∀ (l : Launch) (E : Ev) (A : Nat → Prop), ConG l E d2 mi.1 mi.2.1 mi.2.2.1 mi.2.2.2 A V1 ad ν1 mc2 ms2 (.ref (ad o) :: As) P2) (kk : ∀ (v : Option Value) (V' : Ob → Prop) (ad' : Ob → Nat) (ν' : Mv), P2 v V' ad' ν' → ∃ (ad2 : Ob → Nat) (ν2 : Mv), (∀ o, V' o → ad2 o = ad' o ∧ ∀ k, k < nsl o → ν' o k = ν2 o k) ∧ (∀ o, V o → ¬ V1 o → ad2 o = ad o ∧ ∀ k, k < nsl o → ν o k = ν2 o k) ∧ XX Γ nL (fun o => V' o ∨ (V o ∧ ¬ V1 o)) ad2 ν2 (cs + mc2) (sl + ms2) (pc + 3) L (v.toList ++ st)) : XX Γ nL V ad ν cs sl pc L st0 := by
  obtain ⟨p, l, e, R, s, m, args, below, meth, c, A, Q, E⟩ := Γ
  obtain ⟨hx, hb, hml, hown, hts, hlok, hr, hK, hA0, hR, hQ, hzz⟩ := F
  obtain ⟨w1, w2, w4, w5, w7, w8, w9, w10, w11⟩ := hL
  have w9 := Nat.le_of_ble_eq_true w9
  intro H locs ls hW hV hS hl
  subst hR
  have hW1 : Wd E V1 ad ν1 H := hW.co hsub (fun _ _ => rfl) hν
  have hAA : ∀ q, ((∃ o, V1 o ∧ ad o = q) ∨ (0 < mc2 ∧ H.size ≤ q)) → A q := fun q h => by
    rcases h with ⟨o', h1', rfl⟩ | ⟨h1', h2'⟩
    · exact hV o' (hsub o' h1')
    · exact hzz (by omega) q (Nat.le_trans hS.1 h2')
  have CB : CallB (rmD d mc ms) s args own idx mi.1 mi.2.1 mi.2.2.1 mi.2.2.2 (Cond.code mi.1 mi.2.1 mi.2.2.1 mi.2.2.2 :: wA) (rmD d2 mc2 ms2) mc2 ms2 n := callB_of n hts (gi_code w5) rfl rfl rfl (hts _ w4) (hts _ w1) ⟨w7.1, w7.2, w8⟩ ⟨hd, by show 8 + (mi.2.2.1 + 11) + 40 * d2 ≤ 40 * d; omega⟩
  have hM' := hM l E (fun q => (∃ o, V1 o ∧ ad o = q) ∨ (0 < mc2 ∧ H.size ≤ q)) (fun o' ho' => Or.inl ⟨o', ho', rfl⟩) (fun q hq => hA0 q (hAA q hq))
  rw [w11] at CB hM'
  refine q_backF (A1 := fun q => (∃ o, V1 o ∧ ad o = q) ∨ (0 < mc2 ∧ H.size ≤ q)) (va_runI (As := As) (rest := st) (b := ad o) ⟨hx, hb, hml, hown, hts⟩ hM' ⟨CB, w10, hts _ w2⟩ ⟨PcG.blind, fun U hU hw => ⟨rfl, by rw [hU]; exact hW1, hK.next hA0 hS hU hw, fun hz q hq => Or.inr ⟨hz, by rw [← hU]; exact hq⟩⟩⟩ rfl hn hl.1 hst (lv_room (Nat.le_of_ble_eq_true hcat)) dd ⟨hmc, hms⟩) hS hAA ?_
  intro v V' ad' ν' H1 locs1 hP hW1' hV1' hk1 hS1
  obtain ⟨ad2, ν2, e1, e2, kk⟩ := kk v V' ad' ν' hP
  refine kk H1 locs1 ls (hW.join hW1' (A1 := fun q => (∃ o, V1 o ∧ ad o = q) ∨ (0 < mc2 ∧ H.size ≤ q)) (fun q hq hlt => hq.elim id (fun h => by omega)) hsub hV1' hk1 e1 e2) (fun o' ho' => ?_) hS1 hl
  rcases ho' with ho' | ⟨ho', hn'⟩
  · rw [(e1 o' ho').1]
    exact hAA _ (hV1' o' ho')
  · rw [(e2 o' ho' hn').1]
    exact hV o' ho'
/-- an object made: its cell blank, all values as they are -/
theorem x_newR (f : Nat → RV) (F : Fx Γ cc own nL ret P d mc ms) (dd : decode cc pc = .ok (.new idx, 3)) (hc : vwCl[ci]? = some (C, T, N)) (hcl : Cond.classLink own idx C ∈ wA) (hins : Cond.instantiable C N ∈ wA) (hini : Cond.initialized C ∈ wA) (hin : ∀ w ∈ u_ws C T N, w ∈ lw_tbl ∧ goodWord w = true) (ty0 : Nat → FieldType) (hty : ∀ k, k < N → parseFieldDescriptor (T k).2.2.1 = some (ty0 k)) (hdf : ∀ k, k < N → ∀ ad : Ob → Nat, defaultValue (ty0 k) = rval ad (f k)) (hno : ¬ V o) (hs : shp o = .inl ci) (hmc : cs + 1 ≤ mc) (hms : sl + N ≤ ms)
    (kk : ∀ ad' : Ob → Nat, (∀ o', o' ≠ o → ad' o' = ad o') → XX Γ nL (fun o' => V o' ∨ o' = o) ad' (fun o' => if o' = o then (fun k => rval ad' (f k)) else ν o') (cs + 1) (sl + N) (pc + 3) L (.ref (ad' o) :: st)) : XX Γ nL V ad ν cs sl pc L st := by
  obtain ⟨p, l, e, R, s, m, args, below, meth, c, A, Q, E⟩ := Γ
  obtain ⟨hx, hb, hml, hown, hts, hlok, hr, hK, hA0, hR, hQ, hzz⟩ := F
  intro H locs ls hW hV hS hl
  have hKn := hK.1.1 ci _ hc
  have hin' : ∀ w ∈ u_ws C T N, w ∈ wA := fun w hw => wA_of (hin w hw).1 (hin w hw).2
  subst hR
  refine W.newcK hx hb hown (hts _ hcl) (hts _ hins) (hts _ hini) rfl dd hmc hms hKn.2.1 rfl fun H1 kC hkC e1 z1 o1 => ?_
  have hA2 : A H.size := hzz (by omega) _ hS.1
  have hW2 := hW.mk (o := o) (f := fun k => rval (fun o' => if o' = o then H.size else ad o') (f k)) hno (by
    unfold cOK
    rw [hs]
    simp only [if_true]
    exact ⟨_, hc, (u_born ty0 hts hin' hKn hkC e1 hty).to (fun k hk => hdf k hk _)⟩) (hA0 _ hA2) o1 (fun o' h' => hW.lt h')
  have hm := kk (fun o' => if o' = o then H.size else ad o') (fun o' h' => if_neg h') H1 locs ls hW2 (fun o' ho' => ?_) ⟨by have := hS.1; omega, fun q h1 h2 => by rw [o1 q (Nat.lt_of_lt_of_le h1 hS.1)]; exact hS.2.1 q h1 h2, hS.2.2⟩ hl
  · simp only [if_true] at hm
    exact hm
  · by_cases q : o' = o
    · simp only [if_pos q]; exact hA2
    · simp only [if_neg q]; exact hV o' (ho'.resolve_right q)
/-- two ints the same -/
theorem x_icmp_same {x : Int32} {off : Int} {tgt : Nat} (F : Fx Γ cc own nL ret P d mc ms) (dd : decode cc pc = .ok (.if_icmp .eq off, 3)) (ht : (pc : Int) + off = (tgt : Int)) (k : XX Γ nL V ad ν cs sl tgt L st) : XX Γ nL V ad ν cs sl pc L (.int x :: .int x :: st) := by
  obtain ⟨p, l, e, R, s, m, args, below, meth, c, A, Q, E⟩ := Γ
  obtain ⟨hx, hb, hml, hown, hts, hlk, hr, hK, hA0, hR, hQ, hzz⟩ := F
  intro H locs ls hW hV hS hl
  exact lv_icmp_eq hx hb dd ht (fun _ => k H locs ls hW hV hS hl) (fun hh => absurd rfl hh)
theorem x_lcmp_same {x : Int64} (F : Fx Γ cc own nL ret P d mc ms) (dd : decode cc pc = .ok (.lcmp, 1)) (k : XX Γ nL V ad ν cs sl (pc + 1) L (.int (I 0) :: st)) : XX Γ nL V ad ν cs sl pc L (.long x :: .long x :: st) := by
  refine r_lcmp F dd ?_
  rw [show lg_cmp x x = I 0 by unfold lg_cmp; simp [I]]
  exact k
theorem r_lshl {x : Int64} {y : Int32} (F : Fx Γ cc own nL ret P d mc ms) (dd : decode cc pc = .ok (.lshl, 1)) (k : ∀ z : Int64, z = x <<< (y.toInt64 &&& 63) → XX Γ nL V ad ν cs sl (pc + 1) L (.long z :: st)) : XX Γ nL V ad ν cs sl pc L (.int y :: .long x :: st) := by
  obtain ⟨p, l, e, R, s, m, args, below, meth, c, A, Q, E⟩ := Γ
  obtain ⟨hx, hb, hml, hown, hts, hlk, hr, hK, hA0, hR, hQ, hzz⟩ := F
  intro H locs ls hW hV hS hl
  exact lv_lshl hx hb dd rfl (k _ rfl H locs ls hW hV hS hl)
/-- the script: its cell stands below -/
def Scr (Γ : Ct) (b L : Nat) (xs : Nat → Int32) : Prop := match Γ with
  | (_, _, _, _, s, _, _, _, _, _, A, _, _) => va_X b L xs s s.heap ∧ b < s.heap.size ∧ ¬ A b
theorem x_sld {b n : Nat} {xs : Nat → Int32} {j : Int} (F : Fx Γ cc own nL ret P d mc ms) (hX : Scr Γ b n xs) (dd : decode cc pc = .ok (.iaload, 1)) (hj : 0 ≤ j ∧ j < n ∧ n ≤ 2147483647) (k : XX Γ nL V ad ν cs sl (pc + 1) L (.int (I (xs j.toNat).toInt) :: st)) : XX Γ nL V ad ν cs sl pc L (.int (I j) :: .ref b :: st) := by
  obtain ⟨p, l, e, R, s, m, args, below, meth, c, A, Q, E⟩ := Γ
  obtain ⟨hx, hb, hml, hown, hts, hlk, hr, hK, hA0, hR, hQ, hzz⟩ := F
  obtain ⟨x1, x2, x3⟩ := hX
  intro H locs ls hW hV hS hl
  have hc : (I j).toNatClampNeg = j.toNat := I_clamp (by omega)
  refine va_sld hx hb x1 x2 x3 hS ?_ dd ?_
  · rintro (h | h)
    · rw [I_0, I_lt (by omega)] at h
      omega
    · rw [hc] at h
      omega
  · rw [hc, ← I_of (xs j.toNat)]
    exact k H locs ls hW hV hS hl
theorem x_scl {b n : Nat} {xs : Nat → Int32} (F : Fx Γ cc own nL ret P d mc ms) (hX : Scr Γ b n xs) (dd : decode cc pc = .ok (.arraylength, 1)) (k : XX Γ nL V ad ν cs sl (pc + 1) L (.int (I (n : Int)) :: st)) : XX Γ nL V ad ν cs sl pc L (.ref b :: st) := by
  obtain ⟨p, l, e, R, s, m, args, below, meth, c, A, Q, E⟩ := Γ
  obtain ⟨hx, hb, hml, hown, hts, hlk, hr, hK, hA0, hR, hQ, hzz⟩ := F
  obtain ⟨x1, x2, x3⟩ := hX
  intro H locs ls hW hV hS hl
  refine va_slen hx hb x1 x2 x3 hS dd ?_
  rw [← I_nat]
  exact k H locs ls hW hV hS hl
end FRX
/-! the law's world: the class's cells by μc, the reference's by μm -/
def VL (nh : Int) (o : Ob) : Prop := VC nh o ∨ VM o
def mx (μc μm : Me) : Me := fun o => cond (Nat.ble 30 o.1) (μm o) (μc o)
theorem VC_lt {nh : Int} : ∀ o : Ob, VC nh o → Nat.ble 30 o.1 = false := by
  intro o h
  cases hb : Nat.ble 30 o.1 with
  | false => rfl
  | true =>
    have h2 := Nat.le_of_ble_eq_true hb
    obtain ⟨t, i, j⟩ := o
    have h2 : 30 ≤ t := h2
    obtain ⟨t, rfl⟩ : ∃ u, t = u + 30 := ⟨t - 30, by omega⟩
    exact h.elim
theorem VM_ge {o : Ob} (h : VM o) : Nat.ble 30 o.1 = true := Nat.ble_eq_true_of_le h.1
theorem mx_c {μc μm : Me} {o : Ob} (h : Nat.ble 30 o.1 = false) : mx μc μm o = μc o := by unfold mx; rw [h]; rfl
theorem mx_m {μc μm : Me} {o : Ob} (h : Nat.ble 30 o.1 = true) : mx μc μm o = μm o := by unfold mx; rw [h]; rfl
theorem vl_o {ad : Ob → Nat} {μ μ' : Me} {o : Ob} (h : μ o = μ' o) (k : Nat) : vl ad μ o k = vl ad μ' o k := by unfold vl; rw [h]
section LCALL
variable {Γ : Ct} {cc : ByteArray} {own : String} {nL : Nat} {ret : Option FieldType} {P : Pq} {d mc ms : Nat} {nh : Int} {ad : Ob → Nat} {μc μm : Me} {cs sl pc : Nat} {L : List (Nat × Value)} {st st0 : List Value} {mi : Mi} {n idx d2 : Nat} {As : List Value} {P1 : Option Value → Me → Prop}
theorem lc_C (F : Fx Γ cc own nL ret P d mc ms) (dd : decode cc pc = .ok (.invokevirtual idx, 3)) (hL : LkV own idx mi "GatesBent" n) (hn : As.length = n) (hst : st0 = As.reverse ++ .ref (ad (0, 0, 0)) :: st) (hcat : Nat.ble ((st.map fun v => v.category).sum) 8 = true) (hd : d2 + 1 ≤ d) (hmc : cs ≤ mc) (hms : sl ≤ ms)
    (hM : ∀ (l : Launch) (E : Ev) (A : Nat → Prop), Con l E d2 mi A (VC nh) ad μc (.ref (ad (0, 0, 0)) :: As) P1) (kk : ∀ (v : Option Value) (μ' : Me), P1 v μ' → XX Γ nL (VL nh) ad (vl ad (mx μ' μm)) cs sl (pc + 3) L (v.toList ++ st)) : XX Γ nL (VL nh) ad (vl ad (mx μc μm)) cs sl pc L st0 := by
  refine x_callVF (V1 := VC nh) (ν1 := vl ad μc) (mc2 := 0) (ms2 := 0) (ci := 7) F dd hL rfl (fun o h => Or.inl h) (v_0 ⟨rfl, rfl⟩) rfl hn hst hcat hd hmc hms (fun o ho k _ => vl_o (mx_c (VC_lt o ho)) k) hM ?_
  rintro v V' ad' ν' ⟨h1, h2, μ', h3, h4⟩
  subst h1 h2 h3
  refine ⟨ad', vl ad' (mx μ' μm), fun o ho => ⟨rfl, fun k _ => (vl_o (mx_c (VC_lt o ho)) k).symm⟩, fun o ho hn1 => ⟨rfl, fun k _ => ?_⟩, ?_⟩
  · have hm : VM o := ho.resolve_left hn1
    rw [vl_o (mx_m (VM_ge hm)) k, vl_o (mx_m (VM_ge hm)) k]
  · refine XX.co (fun o ho => ?_) (fun _ _ => rfl) (fun _ _ _ _ => rfl) (kk v μ' h4)
    rcases ho with ho | ho
    · exact Or.inl ho
    · exact Or.inr ⟨Or.inr ho, fun z => by have := VC_lt o z; rw [VM_ge ho] at this; cases this⟩
theorem lc_M (F : Fx Γ cc own nL ret P d mc ms) (dd : decode cc pc = .ok (.invokevirtual idx, 3)) (hL : LkV own idx mi "GatesBentModel" n) (hn : As.length = n) (hst : st0 = As.reverse ++ .ref (ad (30, 0, 0)) :: st) (hcat : Nat.ble ((st.map fun v => v.category).sum) 8 = true) (hd : d2 + 1 ≤ d) (hmc : cs ≤ mc) (hms : sl ≤ ms)
    (hM : ∀ (l : Launch) (E : Ev) (A : Nat → Prop), Con l E d2 mi A VM ad μm (.ref (ad (30, 0, 0)) :: As) P1) (kk : ∀ (v : Option Value) (μ' : Me), P1 v μ' → XX Γ nL (VL nh) ad (vl ad (mx μc μ')) cs sl (pc + 3) L (v.toList ++ st)) : XX Γ nL (VL nh) ad (vl ad (mx μc μm)) cs sl pc L st0 := by
  refine x_callVF (V1 := VM) (ν1 := vl ad μm) (mc2 := 0) (ms2 := 0) (ci := 8) F dd hL rfl (fun o h => Or.inr h) (vm_ok (k := 30) rfl) rfl hn hst hcat hd hmc hms (fun o ho k _ => vl_o (mx_m (VM_ge ho)) k) hM ?_
  rintro v V' ad' ν' ⟨h1, h2, μ', h3, h4⟩
  subst h1 h2 h3
  refine ⟨ad', vl ad' (mx μc μ'), fun o ho => ⟨rfl, fun k _ => (vl_o (mx_m (VM_ge ho)) k).symm⟩, fun o ho hn1 => ⟨rfl, fun k _ => ?_⟩, ?_⟩
  · have hm : VC nh o := ho.resolve_right hn1
    rw [vl_o (mx_c (VC_lt o hm)) k, vl_o (mx_c (VC_lt o hm)) k]
  · refine XX.co (fun o ho => ?_) (fun _ _ => rfl) (fun _ _ _ _ => rfl) (kk v μ' h4)
    rcases ho with ho | ho
    · exact Or.inr ⟨Or.inl ho, fun z => by have := VC_lt o ho; rw [VM_ge z] at this; cases this⟩
    · exact Or.inl ho
end LCALL
