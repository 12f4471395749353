/-! ===== Strings that stand below: rows ===== -/
abbrev gE (Γ : Ct) : Ev := Γ.2.2.2.2.2.2.2.2.2.2.2.2
def stA (E : Ev) (i : Nat) : Nat := E.2.2.2.1 i
def stV (E : Ev) (i : Nat) : Nat := E.2.2.2.2 i
def stN (i : Nat) : Int := ((strLen.getD i 0 : Nat) : Int)
def stC (i : Nat) (j : Int) : Int := ((strByt.getD i []).getD j.toNat 0).toInt
theorem conE {l : Launch} {E : Ev} {d : Nat} {mi : Mi} {A : Nat → Prop} {V : Ob → Prop} {ad : Ob → Nat} {μ : Me} {av : List Value} {P1 : Option Value → Me → Prop} {own : String}
    (hy : plainName mi.1.cls = true) (ho : mi.1.cls = own) (hn : Nat.ble (lg_sl av).length mi.2.2.1 = true) {L : List (Nat × Value)} (hL : lv_args 0 av = L)
    (body : ∀ Γ : Ct, Fx Γ mi.2.1 own mi.2.2.1 mi.2.2.2 (nP V ad P1) d 0 0 → gE Γ = E → XX Γ mi.2.2.1 V ad (vl ad μ) 0 0 0 L []) : Con l E d mi A V ad μ av P1 :=
  conG hy ho (Nat.le_of_ble_eq_true hn) hL (fun Γ F _ h => body Γ F h)
section STR
variable {Γ : Ct} {cc : ByteArray} {own : String} {nL : Nat} {ret : Option FieldType} {P : Pq} {d mc ms : Nat} {V : Ob → Prop} {ad : Ob → Nat} {ν : Mv} {cs sl pc : Nat} {L : List (Nat × Value)} {st st0 : List Value} {mi : Mi} {C : String} {n idx d2 mc2 ms2 : Nat} {As : List Value} {P2 : Pq} {i : Nat}
theorem x_ldcS {tx : String} (F : Fx Γ cc "GatesBent$Reader" nL ret P d mc ms) (dd : decode cc pc = .ok (.ldc idx, 2)) (hi : strW[i]? = some (idx, tx)) (k : XX Γ nL V ad ν cs sl (pc + 2) L (.ref (stA (gE Γ) i) :: st)) : XX Γ nL V ad ν cs sl pc L st := by
  obtain ⟨p, l, e, R, s, m, args, below, meth, c, A, Q, E⟩ := Γ
  obtain ⟨hx, hb, hml, hown, hts, hlok, hr, hK, hA0, hR, hQ, hzz⟩ := F
  intro H locs ls hW hV hS hl
  exact va_ldcS hx hb hown (hK.2.2.1 i _ hi) dd (k H locs ls hW hV hS hl)
theorem x_sval (F : Fx Γ cc "java/lang/String" nL ret P d mc ms) (dd : decode cc pc = .ok (.getfield 9, 3)) (hi : i < 6) (k : XX Γ nL V ad ν cs sl (pc + 3) L (.ref (stV (gE Γ) i) :: st)) : XX Γ nL V ad ν cs sl pc L (.ref (stA (gE Γ) i) :: st) := by
  obtain ⟨p, l, e, R, s, m, args, below, meth, c, A, Q, E⟩ := Γ
  obtain ⟨hx, hb, hml, hown, hts, hlok, hr, hK, hA0, hR, hQ, hzz⟩ := F
  intro H locs ls hW hV hS hl
  exact vk_getf hx hb ((hK.2.2.2.1.1 i hi).2.2.1.narrow hA0) hS hown (hts _ kw_1236) (fun x h => h) dd (k H locs ls hW hV hS hl)
theorem x_scod (F : Fx Γ cc "java/lang/String" nL ret P d mc ms) (dd : decode cc pc = .ok (.getfield 15, 3)) (hi : i < 6) (k : XX Γ nL V ad ν cs sl (pc + 3) L (.int (I 0) :: st)) : XX Γ nL V ad ν cs sl pc L (.ref (stA (gE Γ) i) :: st) := by
  obtain ⟨p, l, e, R, s, m, args, below, meth, c, A, Q, E⟩ := Γ
  obtain ⟨hx, hb, hml, hown, hts, hlok, hr, hK, hA0, hR, hQ, hzz⟩ := F
  intro H locs ls hW hV hS hl
  exact vk_getf hx hb ((hK.2.2.2.1.1 i hi).2.1.narrow hA0) hS hown (hts _ kw_1237) (fun x h => h) dd (k H locs ls hW hV hS hl)
theorem x_slen (F : Fx Γ cc own nL ret P d mc ms) (dd : decode cc pc = .ok (.arraylength, 1)) (hi : i < 6) (k : XX Γ nL V ad ν cs sl (pc + 1) L (.int (I (stN i)) :: st)) : XX Γ nL V ad ν cs sl pc L (.ref (stV (gE Γ) i) :: st) := by
  obtain ⟨p, l, e, R, s, m, args, below, meth, c, A, Q, E⟩ := Γ
  obtain ⟨hx, hb, hml, hown, hts, hlok, hr, hK, hA0, hR, hQ, hzz⟩ := F
  intro H locs ls hW hV hS hl
  exact va_tlen hx hb ((hK.2.2.2.1.1 i hi).2.2.2.narrow hA0) hS (I_nat).symm dd (k H locs ls hW hV hS hl)
theorem x_sbal {j : Int} (F : Fx Γ cc own nL ret P d mc ms) (dd : decode cc pc = .ok (.baload, 1)) (hi : i < 6) (hj : 0 ≤ j ∧ j < stN i ∧ stN i ≤ 2147483647) (k : XX Γ nL V ad ν cs sl (pc + 1) L (.int (I (stC i j)) :: st)) : XX Γ nL V ad ν cs sl pc L (.int (I j) :: .ref (stV (gE Γ) i) :: st) := by
  obtain ⟨p, l, e, R, s, m, args, below, meth, c, A, Q, E⟩ := Γ
  obtain ⟨hx, hb, hml, hown, hts, hlok, hr, hK, hA0, hR, hQ, hzz⟩ := F
  intro H locs ls hW hV hS hl
  have hn : (I j).toNatClampNeg = j.toNat := by
    show (I j).toInt.toNat = _
    rw [I_toInt (by omega)]
  refine va_tb hx hb ((hK.2.2.2.1.1 i hi).2.2.2.narrow hA0) hS (v := .int (I (stC i j))) (fun q => ?_) ?_ dd (k H locs ls hW hV hS hl)
  · rcases q with q | q
    · have := Int32.lt_iff_toInt_lt.mp q
      rw [I_toInt (by omega)] at this
      simp at this
      omega
    · rw [hn] at q
      unfold stN at hj
      omega
  · rw [hn]
    unfold stC
    rw [I_of]
theorem x_gcs (F : Fx Γ cc "java/lang/String" nL ret P d mc ms) (dd : decode cc pc = .ok (.getstatic 38, 3)) (k : XX Γ nL V ad ν cs sl (pc + 3) L (.int (I 1) :: st)) : XX Γ nL V ad ν cs sl pc L st := by
  obtain ⟨p, l, e, R, s, m, args, below, meth, c, A, Q, E⟩ := Γ
  obtain ⟨hx, hb, hml, hown, hts, hlok, hr, hK, hA0, hR, hQ, hzz⟩ := F
  intro H locs ls hW hV hS hl
  exact va_gets hx hb (hK.2.2.2.2.1.narrow hA0) hS hown (hts _ kw_517) (fun x h => h) dd (k H locs ls hW hV hS hl)
theorem x_gsio (F : Fx Γ cc "java/lang/String" nL ret P d mc ms) (dd : decode cc pc = .ok (.getstatic 1053, 3)) (k : ∀ v : Value, (v = .null ∨ ∃ t, v = .ref t) → XX Γ nL V ad ν cs sl (pc + 3) L (v :: st)) : XX Γ nL V ad ν cs sl pc L st := by
  obtain ⟨p, l, e, R, s, m, args, below, meth, c, A, Q, E⟩ := Γ
  obtain ⟨hx, hb, hml, hown, hts, hlok, hr, hK, hA0, hR, hQ, hzz⟩ := F
  intro H locs ls hW hV hS hl
  rcases hK.2.2.2.2.2 with h | ⟨t, h⟩
  · exact va_gets hx hb (h.narrow hA0) hS hown (hts _ kw_533) (fun x h => h) dd (k .null (Or.inl rfl) H locs ls hW hV hS hl)
  · exact va_gets hx hb (h.narrow hA0) hS hown (hts _ kw_533) (fun x h => h) dd (k (.ref t) (Or.inr ⟨t, rfl⟩) H locs ls hW hV hS hl)
/-- a call on a String -/
theorem x_callSV (F : Fx Γ cc own nL ret P d mc ms) (dd : decode cc pc = .ok (.invokevirtual idx, 3)) (hL : LkV own idx mi "java/lang/String" n) (hi : i < 6) (hn : As.length = n) (hst : st0 = As.reverse ++ .ref (stA (gE Γ) i) :: st) (hcat : Nat.ble ((st.map fun v => v.category).sum) 8 = true) (hd : Nat.ble (d2 + 1) d = true) (hmc : Nat.ble (cs + mc2) mc = true) (hms : Nat.ble (sl + ms2) ms = true)
    (hM : ∀ (l : Launch) (A : Nat → Prop), ConG l (gE Γ) d2 mi.1 mi.2.1 mi.2.2.1 mi.2.2.2 A V ad ν mc2 ms2 (.ref (stA (gE Γ) i) :: As) P2) (kk : ∀ (v : Option Value) (V' : Ob → Prop) (ad' : Ob → Nat) (ν' : Mv), P2 v V' ad' ν' → XX Γ nL V' ad' ν' (cs + mc2) (sl + ms2) (pc + 3) L (v.toList ++ st)) : XX Γ nL V ad ν cs sl pc L st0 := by
  obtain ⟨p, l, e, R, s, m, args, below, meth, c, A, Q, E⟩ := Γ
  obtain ⟨hx, hb, hml, hown, hts, hlok, hr, hK, hA0, hR, hQ, hzz⟩ := F
  obtain ⟨w1, w2, w3, w4, w5, w6, w7, w8, w9⟩ := hL
  have hd := Nat.le_of_ble_eq_true hd
  have hmc := Nat.le_of_ble_eq_true hmc
  have hms := Nat.le_of_ble_eq_true hms
  have w9 := Nat.le_of_ble_eq_true w9
  intro H locs ls hW hV hS hl
  subst hR
  obtain ⟨cell, q1, q2, q3⟩ := vk_recv (i := i) (hK.2.2.2.1.narrow hA0) hi hS
  have CB : CallB (rmD d mc ms) s args own idx mi.1 mi.2.1 mi.2.2.1 mi.2.2.2 (Cond.code mi.1 mi.2.1 mi.2.2.1 mi.2.2.2 :: wA) (rmD d2 mc2 ms2) mc2 ms2 n := callB_of n hts (gi_code w5) rfl rfl rfl (by rw [w6]; exact hts _ w4) (hts _ w1) ⟨w7.1, w7.2, w8⟩ ⟨hd, by show 8 + (mi.2.2.1 + 11) + 40 * d2 ≤ 40 * d; omega⟩
  refine q_back (va_runV (As := As) (rest := st) (b := stA E i) ⟨hx, hb, hml, hown, hts⟩ (hM l A hV hA0) ⟨CB, hts _ w2, hts _ w3⟩ ⟨PcG.blind, ⟨cell, q1, q2, q3⟩, fun U hU hw => ⟨rfl, by rw [hU]; exact hW, hK.next hA0 hS hU hw, fun hz q hq => hzz (by omega) q (Nat.le_trans hS.1 (by rw [← hU]; exact hq))⟩⟩ rfl hn hl.1 hst (lv_room (Nat.le_of_ble_eq_true hcat)) dd ⟨hmc, hms⟩) hS ?_
  intro v V' ad' ν' H1 locs1 hP hW1 hV1 hS1
  exact kk v V' ad' ν' hP H1 locs1 ls hW1 hV1 hS1 hl
/-- calls whose contract speaks of the Strings -/
theorem x_callVE {o : Ob} {T : u_T} {N ci : Nat} (F : Fx Γ cc own nL ret P d mc ms) (dd : decode cc pc = .ok (.invokevirtual idx, 3)) (hL : LkV own idx mi C n) (hci : vwCl[ci]? = some (C, T, N)) (ho : V o) (hs : shp o = .inl ci) (hn : As.length = n) (hst : st0 = As.reverse ++ .ref (ad o) :: st) (hcat : Nat.ble ((st.map fun v => v.category).sum) 8 = true) (hd : Nat.ble (d2 + 1) d = true) (hmc : Nat.ble (cs + mc2) mc = true) (hms : Nat.ble (sl + ms2) ms = true)
    (hM : ∀ (l : Launch) (A : Nat → Prop), ConG l (gE Γ) d2 mi.1 mi.2.1 mi.2.2.1 mi.2.2.2 A V ad ν mc2 ms2 (.ref (ad o) :: As) P2) (kk : ∀ (v : Option Value) (V' : Ob → Prop) (ad' : Ob → Nat) (ν' : Mv), P2 v V' ad' ν' → XX Γ nL V' ad' ν' (cs + mc2) (sl + ms2) (pc + 3) L (v.toList ++ st)) : XX Γ nL V ad ν cs sl pc L st0 := by
  obtain ⟨p, l, e, R, s, m, args, below, meth, c, A, Q, E⟩ := Γ
  obtain ⟨hx, hb, hml, hown, hts, hlok, hr, hK, hA0, hR, hQ, hzz⟩ := F
  obtain ⟨w1, w2, w3, w4, w5, w6, w7, w8, w9⟩ := hL
  have hd := Nat.le_of_ble_eq_true hd
  have hmc := Nat.le_of_ble_eq_true hmc
  have hms := Nat.le_of_ble_eq_true hms
  have w9 := Nat.le_of_ble_eq_true w9
  intro H locs ls hW hV hS hl
  have h1 := hW.1 o ho
  unfold cOK at h1
  rw [hs] at h1
  obtain ⟨r, h1, cell, q1, q2, q3, q4⟩ := h1
  have hrr : r = (C, T, N) := Option.some.inj (h1.symm.trans hci)
  subst hrr
  subst hR
  have hfc := (hK.1.1 ci _ hci).2.1
  have CB : CallB (rmD d mc ms) s args own idx mi.1 mi.2.1 mi.2.2.1 mi.2.2.2 (Cond.code mi.1 mi.2.1 mi.2.2.1 mi.2.2.2 :: wA) (rmD d2 mc2 ms2) mc2 ms2 n := callB_of n hts (gi_code w5) rfl rfl rfl (by rw [w6]; exact hts _ w4) (hts _ w1) ⟨w7.1, w7.2, w8⟩ ⟨hd, by show 8 + (mi.2.2.1 + 11) + 40 * d2 ≤ 40 * d; omega⟩
  refine q_back (va_runV (As := As) (rest := st) (b := ad o) ⟨hx, hb, hml, hown, hts⟩ (hM l A hV hA0) ⟨CB, hts _ w2, hts _ w3⟩ ⟨PcG.blind, ⟨cell, q1, by rw [q3]; rfl, by rw [q2]; exact hfc⟩, fun U hU hw => ⟨rfl, by rw [hU]; exact hW, hK.next hA0 hS hU hw, fun hz q hq => hzz (by omega) q (Nat.le_trans hS.1 (by rw [← hU]; exact hq))⟩⟩ rfl hn hl.1 hst (lv_room (Nat.le_of_ble_eq_true hcat)) dd ⟨hmc, hms⟩) hS ?_
  intro v V' ad' ν' H1 locs1 hP hW1 hV1 hS1
  exact kk v V' ad' ν' hP H1 locs1 ls hW1 hV1 hS1 hl
theorem x_callSE (F : Fx Γ cc own nL ret P d mc ms) (dd : decode cc pc = .ok (.invokestatic idx, 3)) (hL : LkS own idx mi n) (hn : As.length = n) (hst : st0 = As.reverse ++ st) (hcat : Nat.ble ((st.map fun v => v.category).sum) 8 = true) (hd : Nat.ble (d2 + 1) d = true) (hmc : Nat.ble (cs + mc2) mc = true) (hms : Nat.ble (sl + ms2) ms = true)
    (hM : ∀ (l : Launch) (A : Nat → Prop), ConG l (gE Γ) d2 mi.1 mi.2.1 mi.2.2.1 mi.2.2.2 A V ad ν mc2 ms2 As P2) (kk : ∀ (v : Option Value) (V' : Ob → Prop) (ad' : Ob → Nat) (ν' : Mv), P2 v V' ad' ν' → XX Γ nL V' ad' ν' (cs + mc2) (sl + ms2) (pc + 3) L (v.toList ++ st)) : XX Γ nL V ad ν cs sl pc L st0 := by
  obtain ⟨p, l, e, R, s, m, args, below, meth, c, A, Q, E⟩ := Γ
  obtain ⟨hx, hb, hml, hown, hts, hlok, hr, hK, hA0, hR, hQ, hzz⟩ := F
  obtain ⟨w1, w2, w4, w5, w7, w8, w9⟩ := hL
  have hd := Nat.le_of_ble_eq_true hd
  have hmc := Nat.le_of_ble_eq_true hmc
  have hms := Nat.le_of_ble_eq_true hms
  have w9 := Nat.le_of_ble_eq_true w9
  intro H locs ls hW hV hS hl
  subst hR
  have CB : CallB (rmD d mc ms) s args own idx mi.1 mi.2.1 mi.2.2.1 mi.2.2.2 (Cond.code mi.1 mi.2.1 mi.2.2.1 mi.2.2.2 :: wA) (rmD d2 mc2 ms2) mc2 ms2 n := callB_of n hts (gi_code w5) rfl rfl rfl (hts _ w4) (hts _ w1) ⟨w7.1, w7.2, w8⟩ ⟨hd, by show 8 + (mi.2.2.1 + 11) + 40 * d2 ≤ 40 * d; omega⟩
  refine q_back (va_runS (As := As) (rest := st) ⟨hx, hb, hml, hown, hts⟩ (hM l A hV hA0) ⟨CB, hts _ w2⟩ ⟨PcG.blind, fun U hU hw => ⟨rfl, by rw [hU]; exact hW, hK.next hA0 hS hU hw, fun hz q hq => hzz (by omega) q (Nat.le_trans hS.1 (by rw [← hU]; exact hq))⟩⟩ rfl hn hl.1 hst (lv_room (Nat.le_of_ble_eq_true hcat)) dd ⟨hmc, hms⟩) hS ?_
  intro v V' ad' ν' H1 locs1 hP hW1 hV1 hS1
  exact kk v V' ad' ν' hP H1 locs1 ls hW1 hV1 hS1 hl
end STR
