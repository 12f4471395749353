/-! ===== the law: calls by kinds; house ===== -/
section LCK
variable {Γ : Ct} {cc : ByteArray} {own : String} {nL : Nat} {ret : Option FieldType} {P : Pq} {d mc ms : Nat} {nh : Int} {ad : Ob → Nat} {μc μm : Me} {cs sl pc : Nat} {L : List (Nat × Value)} {st st0 : List Value} {mi : Mi} {n idx d2 : Nat} {As : List Value} {Q1 : Int → Me → Prop}
theorem lc_Ci (F : Fx Γ cc own nL ret P d mc ms) (dd : decode cc pc = .ok (.invokevirtual idx, 3)) (hL : LkV own idx mi "GatesBent" n) (hn : As.length = n) (hst : st0 = As.reverse ++ .ref (ad (0, 0, 0)) :: st) (hcat : Nat.ble ((st.map fun v => v.category).sum) 8 = true) (hd : d2 + 1 ≤ d) (hmc : cs ≤ mc) (hms : sl ≤ ms)
    (hM : ∀ (l : Launch) (E : Ev) (A : Nat → Prop), Con l E d2 mi A (VC nh) ad μc (.ref (ad (0, 0, 0)) :: As) (pi Q1)) (kk : ∀ (z : Int) (μ' : Me), Q1 z μ' → XX Γ nL (VL nh) ad (vl ad (mx μ' μm)) cs sl (pc + 3) L (.int (I z) :: st)) : XX Γ nL (VL nh) ad (vl ad (mx μc μm)) cs sl pc L st0 :=
  lc_C F dd hL hn hst hcat hd hmc hms hM (by rintro v μ' ⟨z, rfl, h⟩; exact kk z μ' h)
theorem lc_Cl (F : Fx Γ cc own nL ret P d mc ms) (dd : decode cc pc = .ok (.invokevirtual idx, 3)) (hL : LkV own idx mi "GatesBent" n) (hn : As.length = n) (hst : st0 = As.reverse ++ .ref (ad (0, 0, 0)) :: st) (hcat : Nat.ble ((st.map fun v => v.category).sum) 8 = true) (hd : d2 + 1 ≤ d) (hmc : cs ≤ mc) (hms : sl ≤ ms)
    (hM : ∀ (l : Launch) (E : Ev) (A : Nat → Prop), Con l E d2 mi A (VC nh) ad μc (.ref (ad (0, 0, 0)) :: As) (pl Q1)) (kk : ∀ (z : Int) (μ' : Me), Q1 z μ' → XX Γ nL (VL nh) ad (vl ad (mx μ' μm)) cs sl (pc + 3) L (.long (J z) :: st)) : XX Γ nL (VL nh) ad (vl ad (mx μc μm)) cs sl pc L st0 :=
  lc_C F dd hL hn hst hcat hd hmc hms hM (by rintro v μ' ⟨z, rfl, h⟩; exact kk z μ' h)
theorem lc_Mi (F : Fx Γ cc own nL ret P d mc ms) (dd : decode cc pc = .ok (.invokevirtual idx, 3)) (hL : LkV own idx mi "GatesBentModel" n) (hn : As.length = n) (hst : st0 = As.reverse ++ .ref (ad (30, 0, 0)) :: st) (hcat : Nat.ble ((st.map fun v => v.category).sum) 8 = true) (hd : d2 + 1 ≤ d) (hmc : cs ≤ mc) (hms : sl ≤ ms)
    (hM : ∀ (l : Launch) (E : Ev) (A : Nat → Prop), Con l E d2 mi A VM ad μm (.ref (ad (30, 0, 0)) :: As) (pi Q1)) (kk : ∀ (z : Int) (μ' : Me), Q1 z μ' → XX Γ nL (VL nh) ad (vl ad (mx μc μ')) cs sl (pc + 3) L (.int (I z) :: st)) : XX Γ nL (VL nh) ad (vl ad (mx μc μm)) cs sl pc L st0 :=
  lc_M F dd hL hn hst hcat hd hmc hms hM (by rintro v μ' ⟨z, rfl, h⟩; exact kk z μ' h)
theorem lc_Ml (F : Fx Γ cc own nL ret P d mc ms) (dd : decode cc pc = .ok (.invokevirtual idx, 3)) (hL : LkV own idx mi "GatesBentModel" n) (hn : As.length = n) (hst : st0 = As.reverse ++ .ref (ad (30, 0, 0)) :: st) (hcat : Nat.ble ((st.map fun v => v.category).sum) 8 = true) (hd : d2 + 1 ≤ d) (hmc : cs ≤ mc) (hms : sl ≤ ms)
    (hM : ∀ (l : Launch) (E : Ev) (A : Nat → Prop), Con l E d2 mi A VM ad μm (.ref (ad (30, 0, 0)) :: As) (pl Q1)) (kk : ∀ (z : Int) (μ' : Me), Q1 z μ' → XX Γ nL (VL nh) ad (vl ad (mx μc μ')) cs sl (pc + 3) L (.long (J z) :: st)) : XX Γ nL (VL nh) ad (vl ad (mx μc μm)) cs sl pc L st0 :=
  lc_M F dd hL hn hst hcat hd hmc hms hM (by rintro v μ' ⟨z, rfl, h⟩; exact kk z μ' h)
theorem J_of (w : Int64) : J w.toInt = w := Int64.ofInt_toInt w
theorem x_lJ {V : Ob → Prop} {ν : Mv} {w : Int64} (k : XX Γ nL V ad ν cs sl pc L (.long (J w.toInt) :: st)) : XX Γ nL V ad ν cs sl pc L (.long w :: st) := by rw [J_of] at k; exact k
end LCK
theorem skn_lo {o o' : Ob} {k : Nat} (h : skn o k = .inr o') : Nat.ble 30 o'.1 = Nat.ble 30 o.1 := by
  obtain ⟨t, i, j⟩ := o
  unfold skn at h
  dsimp only at h
  split at h <;> (try split at h) <;> cases h <;> rfl
theorem vl_tag {ad ad2 : Ob → Nat} {μ μ2 : Me} {o : Ob} (k : Nat) (ha : ∀ o' : Ob, Nat.ble 30 o'.1 = Nat.ble 30 o.1 → ad o' = ad2 o') (hm : μ o = μ2 o) : vl ad μ o k = vl ad2 μ2 o k := by
  rw [vl_sk, vl_sk, hm]
  cases hs : skn o k with
  | inl t =>
    rcases skn_inl hs with ⟨h1, h2⟩ | ⟨rfl, h2⟩
    · rcases (show t = 0 ∨ t = 1 by omega) with rfl | rfl <;> rfl
    · show hvl ad _ = hvl ad2 _
      unfold hvl
      split
      · rfl
      · rw [ha (12, μ2 o k, 0) ?_]
        have : o.1 = 1 ∨ o.1 = 15 ∨ o.1 = 17 := by omega
        rcases this with h | h | h <;> rw [h] <;> rfl
  | inr o' =>
    show Value.ref (ad o') = Value.ref (ad2 o')
    rw [ha o' (skn_lo hs)]
def adL (ad ad' : Ob → Nat) : Ob → Nat := fun o => cond (Nat.ble 30 o.1) (ad o) (ad' o)
theorem adL_c {ad ad' : Ob → Nat} {o : Ob} (h : Nat.ble 30 o.1 = false) : adL ad ad' o = ad' o := by unfold adL; rw [h]; rfl
theorem adL_m {ad ad' : Ob → Nat} {o : Ob} (h : Nat.ble 30 o.1 = true) : adL ad ad' o = ad o := by unfold adL; rw [h]; rfl
section LHO
variable {Γ : Ct} {cc : ByteArray} {own : String} {nL : Nat} {ret : Option FieldType} {P : Pq} {d mc ms : Nat} {nh hc im tl : Int} {ad : Ob → Nat} {μc μm : Me} {cs sl pc : Nat} {L : List (Nat × Value)} {st st0 : List Value} {n idx d2 : Nat} {T K tx sT ln it : Tn} {Hm : Int → Hs} {Lb : List Int}
theorem lc_house (F : Fx Γ cc own nL ret P d mc ms) (dd : decode cc pc = .ok (.invokevirtual idx, 3)) (hL : LkV own idx m_X7_house "GatesBent" 0) (hst : st0 = .ref (ad (0, 0, 0)) :: st) (hcat : Nat.ble ((st.map fun v => v.category).sum) 8 = true) (hd : 19 ≤ d) (hmc : cs + 3 ≤ mc) (hms : sl + 205 ≤ ms)
    (hX : TX μc tx tl) (h0 : 0 ≤ hc ∧ hc ≤ 6) (h6 : μc (0, 0, 0) 6 = hc) (hnh : nh = hc ∨ (nh = hc + 1 ∧ hc < 6)) (h17 : ∀ k, 0 ≤ k → k < 6 → μc (17, 0, 0) k = if k < nh then k else 7)
    (kk : ∀ (ad2 : Ob → Nat) (μ' : Me) (nh' : Int), ad2 (0, 0, 0) = ad (0, 0, 0) → ad2 (30, 0, 0) = ad (30, 0, 0) → (hc = 6 ∧ nh' = nh ∧ μ' = μc ∨ hc < 6 ∧ nh' = hc + 1 ∧ ∃ μ1, HOn μc μ1 hc ∧ HOt μ1 μ' hc tx tl) → XX Γ nL (VL nh') ad2 (vl ad2 (mx μ' μm)) (cs + 3) (sl + 205) (pc + 3) L (.int (I (houseZ hc tx tl)) :: st)) : XX Γ nL (VL nh) ad (vl ad (mx μc μm)) cs sl pc L st0 := by
  refine x_callVF (V1 := VC nh) (ν1 := vl ad μc) (mc2 := 3) (ms2 := 205) (ci := 7) (As := []) F dd hL rfl (fun o h => Or.inl h) (v_0 ⟨rfl, rfl⟩) rfl rfl hst hcat hd hmc hms (fun o ho k _ => vl_o (mx_c (VC_lt o ho)) k) (c_X7_house hX h0 h6 hnh h17) ?_
  rintro v V' ad' ν' ⟨μ', nh', h1, h2, h3, h4, h5⟩
  subst h1 h2 h3
  refine ⟨adL ad ad', vl (adL ad ad') (mx μ' μm), fun o ho => ⟨adL_c (VC_lt o ho), fun k _ => vl_tag k (fun o' ho' => (adL_c (ho'.trans (VC_lt o ho))).symm) (mx_c (VC_lt o ho)).symm⟩, fun o ho hn1 => ?_, ?_⟩
  · have hm : VM o := ho.resolve_left hn1
    refine ⟨adL_m (VM_ge hm), fun k _ => vl_tag k (fun o' ho' => (adL_m (ho'.trans (VM_ge hm))).symm) ?_⟩
    rw [mx_m (VM_ge hm), mx_m (VM_ge hm)]
  · refine XX.co (fun o ho => ?_) (fun _ _ => rfl) (fun _ _ _ _ => rfl) (kk (adL ad ad') μ' nh' ?_ rfl h5)
    · rcases ho with ho | ho
      · exact Or.inl ho
      · exact Or.inr ⟨Or.inr ho, fun z => by have := VC_lt o z; rw [VM_ge ho] at this; cases this⟩
    · rw [adL_c rfl]
      exact h4 _ (v_0 ⟨rfl, rfl⟩)
/-- the reference's names, taken as ints -/
def n38 (μ : Me) : Me := fun o k => if o.1 = 38 then (I (μ o k)).toInt else μ o k
theorem law_n38 {V : Ob → Prop} (k : XX Γ nL V ad (vl ad (mx μc (n38 μm))) cs sl pc L st) : XX Γ nL V ad (vl ad (mx μc μm)) cs sl pc L st := by
  refine XX.co (fun _ h => h) (fun _ _ => rfl) (fun o _ j _ => ?_) k
  by_cases h : o.1 = 38
  · have hs : skn o j = .inl 0 := by
      obtain ⟨t, i, u⟩ := o
      have h : t = 38 := h
      subst h
      rfl
    have hb : Nat.ble 30 o.1 = true := by rw [h]; rfl
    rw [vl_sk, vl_sk, hs, mx_m hb, mx_m hb]
    show Value.int (I (μm o j)) = Value.int (I (n38 μm o j))
    unfold n38
    rw [if_pos h, I_of]
  · refine vl_o ?_ j
    unfold mx
    have e : n38 μm o = μm o := by funext q; unfold n38; rw [if_neg h]
    rw [e]
theorem n38_o {o : Ob} (h : o.1 ≠ 38) : n38 μm o = μm o := by funext q; unfold n38; rw [if_neg h]
theorem IM.n38 (h : IM μm hc im tl T K tx sT ln it Hm Lb) : IM (n38 μm) hc im tl T K tx sT ln it Hm Lb := by
  obtain ⟨a1, a2, a3, a4, a5, a6, a7, a8, a9, a10⟩ := h
  have f : ∀ j : Nat, j ≠ 38 → Jvm.Pilot.CGatesBentLaw_law_r3804_2b00ad.n38 μm (j, 0, 0) = μm (j, 0, 0) := fun j hj => n38_o hj
  exact ⟨TN_fr a1 (f 31 (by decide)), by rw [f 30 (by decide)]; exact a2, fun k x y => by rw [f 33 (by decide)]; exact a3 k x y, TXm_fr a4 (by rw [f 30 (by decide)]) (f 34 (by decide)), TPM_fr a5 (f 47 (by decide)) (f 48 (by decide)) (f 49 (by decide)), BTm_fr a6 (by rw [f 30 (by decide)]) (f 46 (by decide)), by rw [f 30 (by decide)]; exact a7, MS_fr a8 (f 39 (by decide)) (f 40 (by decide)), MA_fr a9 (f 44 (by decide)) (f 45 (by decide)), fun r x y => MH_fr (a10 r x y) (f 35 (by decide)) (f 36 (by decide))⟩
theorem NM_n38 (h : MS μm) : NM (n38 μm) (n38 μm (38, 0, 0)) := by
  refine ⟨MS_fr h (n38_o (by simp)) (n38_o (by simp)), fun k x y => ⟨rfl, ?_⟩⟩
  unfold n38
  rw [if_pos rfl]
  exact i32_rg _
theorem HRel_h {μ μ' : Me} {nh nh' r : Int} {S : Hs} (h : HRel μ nh r S) (hn : nh ≤ nh' ∨ hR r < nh') (e2 : μ' (12, hR r, 0) = μ (12, hR r, 0)) (e3 : μ' (13, hR r, 0) = μ (13, hR r, 0)) (e4 : μ' (14, hR r, 0) = μ (14, hR r, 0)) : HRel μ' nh' r S := by
  obtain ⟨a1, a2, a3, a4, a5⟩ := h
  refine ⟨by omega, ?_, ?_, by rw [e2]; exact a4, by rw [e2]; exact a5⟩
  · unfold HouseOK at a2 ⊢
    rw [e2, e3, e4]
    exact a2
  · intro vals
    rw [← a3 vals]
    unfold bonH
    rw [e2, e3, e4]
/-- the class's cells behind a House made -/
theorem IC.mk {μ1 : Me} (h : IC μc nh hc im tl T K tx sT ln it Hm Lb) (hP : IP nh hc im T K sT ln it Hm Lb) (h6 : hc < 6) (e : HOn μc μ1 hc) : IC μ1 (hc + 1) hc im tl T K tx sT ln it Hm Lb := by
  obtain ⟨a1, a2, a3, a4, a5, a6, a7, a8, a9⟩ := h
  obtain ⟨⟨p1, p2, p3⟩, ⟨p4, p5, p6⟩, p7, p8, p9, p10, p11, p12⟩ := hP
  obtain ⟨e1, e2, e3⟩ := e
  have g : ∀ o : Ob, o.1 ≠ 1 → o.1 ≠ 15 → o.1 ≠ 17 → ¬ ((o.1 = 12 ∨ o.1 = 13 ∨ o.1 = 14) ∧ o.2.1 = hc) → μ1 o = μc o := fun o h1 h2 h3 h4 => by
    funext k
    exact e1 o k (by unfold isH; omega) h4
  have hr : ∀ r : Int, 0 ≤ r → r ≤ hc → hR r < 8 ∧ hR r ≠ hc := fun r x y => by unfold hR; split <;> omega
  have s7 : ∀ (t : Int) (X : Tn), TR μc t X → 0 ≤ X 78 → X 78 ≤ hc → TR μ1 t X := fun t X hX x y => by
    obtain ⟨b1, b2, b3, b4⟩ := hX
    have hh := hr (X 78) x y
    refine ⟨fun q u v => GR_fr (b1 q u v) (g _ (by simp) (by simp) (by simp) (by simp)) (g _ (by simp) (by simp) (by simp) (by simp)), fun q u v => CR_fr (b2 q u v) (g _ (by simp) (by simp) (by simp) (by simp)) (g _ (by simp) (by simp) (by simp) (by simp)), ?_, RR_fr b4 (fun o ho ht => g o (by omega) (by omega) (by omega) (by omega))⟩
    obtain ⟨c1, c2, c3⟩ := b3
    refine ⟨by rw [e1 _ _ (by unfold isH; simp) (by simp)]; exact c1, by rw [e1 _ _ (by unfold isH; simp) (by simp)]; exact c2, ?_⟩
    rw [e2 _ _ (by unfold isH; simp) (by omega) (by omega) (by simp)]
    exact c3
  have i78 := p1.2.2.2.2.1.1
  have k78 := p4.2.2.2.2.1.1
  refine ⟨s7 0 T a1 i78 p3, by rw [g (0, 0, 0) (by simp) (by simp) (by simp) (by simp)]; exact a2, s7 1 K a3 k78 p6, TX_fr a4 (e1 _ _ (by unfold isH; simp) (by simp)) (g _ (by simp) (by simp) (by simp) (by simp)), TPR_fr a5 (fun o ho => g o (by unfold tapeO at ho; omega) (by unfold tapeO at ho; omega) (by unfold tapeO at ho; omega) (by unfold tapeO at ho; omega)), BT_fr a6 (by rw [g (0, 0, 0) (by simp) (by simp) (by simp) (by simp)]) (g _ (by simp) (by simp) (by simp) (by simp)), by rw [g (0, 0, 0) (by simp) (by simp) (by simp) (by simp)]; exact a7, fun k x y => ?_, fun r x y => ?_⟩
  · by_cases hk : k = hc
    · rw [hk, e3, if_pos (by omega)]
    · have h17 := a8 k x y
      have hv : μc (17, 0, 0) k < 8 ∧ μc (17, 0, 0) k ≠ hc := by rw [h17]; split <;> omega
      rw [e2 _ _ (by unfold isH; simp) hv.1 hv.2 (by simp; omega), h17]
      by_cases hk2 : k < hc
      · rw [if_pos (by omega), if_pos (by omega)]
      · rw [if_neg (by omega), if_neg (by omega)]
  · have hh := hr r x y
    exact HRel_h (a9 r x y) (by omega) (g _ (by simp) (by simp) (by simp) (by simp; omega)) (g _ (by simp) (by simp) (by simp) (by simp; omega)) (g _ (by simp) (by simp) (by simp) (by simp; omega))
theorem up78_TI (h : TI T) (hz : 0 ≤ hc ∧ hc ≤ 6) : TI (upT T 78 hc) := by
  have e : ∀ k, k ≠ 78 → upT T 78 hc k = T k := fun k hk => by rw [upT_i, if_neg hk]
  obtain ⟨i1, i2, i3, i4, i5, i6⟩ := h
  refine ⟨fun q a b => ?_, fun p a b => ?_, by rw [e 76 (by omega)]; exact i3, by rw [e 77 (by omega)]; exact i4, by rw [upT_i, if_pos rfl]; exact hz, RI_up i6 (by rw [e 76 (by omega)]; omega) (fun k hk => e k (by omega))⟩
  · have g1 := i1 q a b
    refine ⟨by rw [e _ (by omega)]; exact g1.1, fun k x y => by rw [e _ (by omega)]; exact g1.2 k x y⟩
  · obtain ⟨c1, c2, c3, c4, c5, c6, c7⟩ := i2 p a b
    unfold CI
    rw [e 77 (by omega), e _ (by omega), e _ (by omega), e _ (by omega), e _ (by omega), e _ (by omega), e _ (by omega)]
    exact ⟨c1, c2, c3, c4, c5, c6, fun k x y => by rw [e _ (by omega)]; exact c7 k x y⟩
end LHO
