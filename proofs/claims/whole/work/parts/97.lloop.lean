/-! ===== the law: its loop, its start ===== -/
section LLOOP
variable {Γ : Ct} {P : Pq} {b n : Nat} {xs : Nat → Int32}
set_option maxHeartbeats 1000000 in
theorem law_loop (F : Fx Γ cL_law "GatesBentLaw" 4 (some .boolean) P 2000 600000 7302250) (hS : Scr Γ b n xs) (hn : n ≤ 3072) (hP : ∀ V ad ν, P (some (.int (I 1))) V ad ν) : ∀ (m : Nat) (i nh : Int) (ad : Ob → Nat) (μc μm : Me) (cs sl : Nat), 0 ≤ i → (n : Int) < i + 6 * m → i ≤ n → (cs : Int) ≤ 1000 + i → (sl : Int) ≤ 100000 + 35 * i → INV μc μm nh → XX Γ 4 (VL nh) ad (vl ad (mx μc μm)) cs sl 18 [(0, .ref b), (1, .ref (ad (0, 0, 0))), (2, .ref (ad (30, 0, 0))), (3, .int (I i))] [] := by
  intro m
  induction m with
  | zero =>
    intro i nh ad μc μm cs sl h0 h1 h2
    omega
  | succ m ih =>
    intro i nh ad μc μm cs sl h0 h1 h2 hcs hsl hI
    refine x_iload_n (i := 3) (pc := 18) F dL_law_18 rfl rfl ?_
    refine x_aload_n (i := 0) (pc := 19) F dL_law_19 rfl rfl ?_
    refine x_scl (pc := 20) F hS dL_law_20 ?_
    refine x_bipush (pc := 21) F dL_law_21 (by decide) ?_
    refine x_isub (pc := 23) F dL_law_23 ?_
    refine x_icmp_gt (tgt := 1351) (pc := 24) F dL_law_24 rfl (by omega) (fun h24 => ?_) (fun h24 => ?_)
    · refine x_iconst (pc := 1351) F dL_law_1351 ?_
      refine x_wid (cs' := 600000) (sl' := 7302250) (by omega) (by omega) ?_
      exact x_zret (b := true) (pc := 1352) F dL_law_1352 (hP _ _ _) rfl rfl rfl
    · have hi : 0 ≤ i ∧ i + 6 ≤ n ∧ n ≤ 3072 := ⟨h0, by omega, hn⟩
      have nx : ∀ (nh : Int) (ad : Ob → Nat) (μc μm : Me) (cs sl : Nat), INV μc μm nh → (cs : Int) ≤ 1000 + i + 6 → (sl : Int) ≤ 100000 + 35 * i + 210 → XX Γ 4 (VL nh) ad (vl ad (mx μc μm)) cs sl 1345 [(0, .ref b), (1, .ref (ad (0, 0, 0))), (2, .ref (ad (30, 0, 0))), (3, .int (I i))] [] := by
        intro nh ad μc μm cs sl hI' c1 c2
        refine x_iinc (pc := 1345) F dL_law_1345 rfl rfl ?_
        refine x_goto (tgt := 18) (pc := 1348) F dL_law_1348 rfl ?_
        refine x_sub (L' := [(0, .ref b), (1, .ref (ad (0, 0, 0))), (2, .ref (ad (30, 0, 0))), (3, .int (I (i + 6)))]) ⟨rfl, rfl, rfl, rfl, trivial⟩ ?_
        exact ih (i + 6) nh ad μc μm cs sl (by omega) (by omega) (by omega) (by omega) (by omega) hI'
      have n0 : LN0 Γ nh i ad cs sl b := fun μc' μm' hI' => nx nh ad μc' μm' cs sl hI' (by omega) (by omega)
      have k1 : cs ≤ 500000 := by omega
      have k2 : sl ≤ 7000000 := by omega
      refine x_aload_n (i := 0) (pc := 27) F dL_law_27 rfl rfl ?_
      refine x_iload_n (i := 3) (pc := 28) F dL_law_28 rfl rfl ?_
      refine x_sld (pc := 29) F hS dL_law_29 (by omega) ?_
      refine x_bipush (pc := 30) F dL_law_30 (by decide) ?_
      refine r_iand (pc := 32) F dL_law_32 (I_of _).symm ?_
      refine x_tab (ts := [184, 237, 270, 313, 356, 389, 412, 455, 478, 491, 514, 537, 570, 613, 656, 715, 728, 771, 815, 849, 882, 905, 938, 951, 984, 997, 1010, 1053, 1076, 1109, 1132, 1175, 1248, 1282]) (dt := 1345) (pc := 33) F dL_law_33 rfl rfl (i32_rg _) ⟨fun _ => ?_, fun _ => ?_, fun _ => ?_, fun _ => ?_, fun _ => ?_, fun _ => ?_, fun _ => ?_, fun _ => ?_, fun _ => ?_, fun _ => ?_, fun _ => ?_, fun _ => ?_, fun _ => ?_, fun _ => ?_, fun _ => ?_, fun _ => ?_, fun _ => ?_, fun _ => ?_, fun _ => ?_, fun _ => ?_, fun _ => ?_, fun _ => ?_, fun _ => ?_, fun _ => ?_, fun _ => ?_, fun _ => ?_, fun _ => ?_, fun _ => ?_, fun _ => ?_, fun _ => ?_, fun _ => ?_, fun _ => ?_, fun _ => ?_, fun _ => ?_, trivial⟩ (fun _ => ?_)
      · exact law_0 F hS hi k1 k2 hI n0
      · exact law_1 F hS hi k1 k2 hI n0
      · exact law_2 F hS hi k1 k2 hI n0
      · exact law_3 F hS hi k1 k2 hI n0
      · exact law_4 F hS hi k1 k2 hI n0
      · exact law_5 F hS hi k1 k2 hI n0
      · exact law_6 F hS hi k1 k2 hI n0
      · exact law_7 F hS hi k1 k2 hI n0
      · exact law_8 F hS hi k1 k2 hI (fun nh' ad2 μc' μm' hI' => nx nh' ad2 μc' μm' (cs + 3) (sl + 205) hI' (by omega) (by omega))
      · exact law_9 F hS hi k1 k2 hI n0
      · exact law_10 F hS hi k1 k2 hI n0
      · exact law_11 F hS hi k1 k2 hI n0
      · exact law_12 F hS hi k1 k2 hI n0
      · exact law_13 F hS hi k1 k2 hI n0
      · exact law_14 F hS hi k1 k2 hI n0
      · exact law_15 F hS hi k1 k2 hI n0
      · exact law_16 F hS hi k1 k2 hI n0
      · exact law_17 F hS hi k1 k2 hI n0
      · exact law_18 F hS hi k1 k2 hI n0
      · exact law_19 F hS hi k1 k2 hI n0
      · exact law_20 F hS hi k1 k2 hI n0
      · exact law_21 F hS hi k1 k2 hI n0
      · exact law_22 F hS hi k1 k2 hI n0
      · exact law_23 F hS hi k1 k2 hI n0
      · exact law_24 F hS hi k1 k2 hI n0
      · exact law_25 F hS hi k1 k2 hI n0
      · exact law_26 F hS hi k1 k2 hI n0
      · exact law_27 F hS hi k1 k2 hI n0
      · exact law_28 F hS hi k1 k2 hI n0
      · exact law_29 F hS hi k1 k2 hI n0
      · exact law_30 F hS hi k1 k2 hI n0
      · exact law_31 F hS hi k1 k2 hI n0
      · exact law_32 F hS hi k1 k2 hI n0
      · exact law_33 F hS hi k1 k2 hI n0
      · exact nx nh ad μc μm cs sl hI (by omega) (by omega)
end LLOOP
def K00 : Tn := fun _ => 0
theorem TR_00 {t : Int} (ht : t = 0 ∨ t = 1) : TR mu0 t K00 := by
  refine ⟨fun g _ _ => ⟨rfl, fun k _ _ => rfl⟩, fun p _ _ => ⟨rfl, rfl, rfl, rfl, rfl, rfl, rfl, fun k _ _ => rfl⟩, ⟨rfl, rfl, rfl⟩, ⟨rfl, fun k _ _ => ⟨rfl, rfl, rfl⟩⟩, ⟨rfl, fun k _ _ => ⟨rfl, rfl⟩⟩, rfl, fun k _ _ => ⟨rfl, rfl⟩⟩
theorem TI_00 : TI K00 := by
  have e : ∀ k, K00 k = 0 := fun _ => rfl
  unfold TI GI CI RI
  simp only [e]
  refine ⟨fun g _ _ => ⟨by omega, fun k _ _ => by omega⟩, fun p _ _ => ⟨by omega, by omega, by omega, by omega, by omega, by omega, fun k _ _ => by omega⟩, by omega, by omega, by omega, by omega, fun k x y => by omega, by omega, fun k x y => by omega, by omega, fun k x y => by omega⟩
def Hm0 : Int → Hs := fun _ => (fun _ => 0, 10, 0)
theorem INV_0 : INV mu0 mu0 0 := by
  refine ⟨0, 0, 0, K00, K00, K00, fun _ => -1, K00, K00, Hm0, [], ⟨TR_00 (Or.inl rfl), rfl, TR_00 (Or.inr rfl), ⟨⟨rfl, by omega, by omega⟩, fun k x y => by omega⟩, fun t _ _ => ⟨rfl, rfl, fun k _ _ => rfl⟩, ⟨rfl, fun i hi => absurd hi (Nat.not_lt_zero i)⟩, rfl, fun k x y => ?_, fun r x y => ?_⟩, ⟨fun k _ _ => rfl, rfl, fun k _ _ => rfl, ⟨⟨rfl, by omega, by omega⟩, fun k x y => by omega⟩, fun t _ _ => ⟨rfl, rfl, fun k _ _ => rfl⟩, ⟨rfl, fun i hi => absurd hi (Nat.not_lt_zero i)⟩, rfl, ⟨fun k _ _ => rfl, fun w k hw hk => ?_⟩, ⟨fun j hj => ?_, fun j hj => ?_⟩, fun r x y => Or.inl ⟨by omega, rfl⟩⟩, ⟨TI_00, by decide, by decide⟩, ⟨TI_00, by decide, by decide⟩, Or.inl rfl, fun t _ _ => ⟨by show -1 ≤ (-1 : Int) ∧ (-1 : Int) ≤ 4; omega, by show 0 ≤ (0 : Int) ∧ (0 : Int) ≤ 60; omega, fun _ => rfl, fun k _ _ => by show -9223372036854775808 ≤ (0 : Int) ∧ (0 : Int) < 9223372036854775808; omega⟩, by decide, by omega, Or.inl rfl, fun r => ⟨fun vals => by show -9900 ≤ (0 : Int) ∧ (0 : Int) ≤ 9900; omega, by show 0 ≤ (10 : Int) ∧ (10 : Int) ≤ 99; omega, by show 0 ≤ (0 : Int) ∧ (0 : Int) ≤ 99; omega⟩⟩
  · show (7 : Int) = if k < 0 then k else 7
    rw [if_neg (by omega)]
  · have hr : r = 0 := by omega
    subst hr
    refine ⟨Or.inr rfl, ⟨by decide, by decide, fun i x y => absurd (show i < 0 from y) (by omega), fun vals m hm => ?_, by decide, by decide, by decide, by decide⟩, fun vals => rfl, rfl, rfl⟩
    have hm : m ≤ 0 := hm
    have : m = 0 := by omega
    subst this
    exact Nat.zero_le _
  · show (wdL ((6 * (w : Int) + k) / 6)).getD ((6 * (w : Int) + k) % 6).toNat 0 = (wdL (w : Int)).getD k 0
    rw [show (6 * (w : Int) + k) / 6 = w by omega, show ((6 * (w : Int) + k) % 6).toNat = k by omega]
  · show bodL.getD ((j : Int)).toNat 0 = bodL.getD j 0
    rfl
  · show abvL.getD ((j : Int)).toNat 0 = abvL.getD j 0
    rfl
theorem mx_00 : mx mu0 mu0 = mu0 := by
  funext o
  unfold mx
  cases Nat.ble 30 o.1 <;> rfl
theorem VC_0 {nh : Int} (o : Ob) (h : VC nh o) (h0 : o.1 = 0) : o = (0, 0, 0) := by
  obtain ⟨t, q, r⟩ := o
  have h0 : t = 0 := h0
  subst h0
  obtain ⟨h1, h2⟩ := (show q = 0 ∧ r = 0 from h)
  rw [h1, h2]
section LSTART
variable {Γ : Ct} {P : Pq} {b n : Nat} {xs : Nat → Int32} {ad : Ob → Nat} {ν : Mv}
theorem law_start (F : Fx Γ cL_law "GatesBentLaw" 4 (some .boolean) P 2000 600000 7302250) (hS : Scr Γ b n xs) (hn : n ≤ 3072) (hP : ∀ V ad ν, P (some (.int (I 1))) V ad ν) : XX Γ 4 (fun _ => False) ad ν 0 0 0 [(0, .ref b)] [] := by
  refine XX.co (V2 := fun _ => False) (ad2 := ad) (ν2 := nv ad dfl) (fun _ h => h) (fun _ _ => rfl) (fun _ h => h.elim) ?_
  refine x_newO (o := (0, 0, 0)) (ci := 7) (dfl (0, 0, 0)) (pc := 0) F dL_law_0 rfl kw_88 kw_89 kw_72 inx7 tyX7 tyX7_ok (dfX7 0 0) (fun k o' => dfl_no _ k o') (fun _ h => h.elim) (fun h => h) rfl (by omega) (by omega) ?_
  intro a1 e1 c1
  refine x_dup (pc := 3) F dL_law_3 rfl ?_
  refine x_callI (o := (0, 0, 0)) (As := []) (pc := 4) F dL_law_4 lk_L_9 rfl rfl rfl (by omega) (by omega) (by omega) (by omega) (c_X7_init (Or.inr rfl) (fun o h z => z.elim id (fun e => h.2 (by rw [e]))) c1 (fun k _ => by unfold kN; rw [if_pos rfl])) ?_
  rintro v V' ad' ν' ⟨h1, h2, hag, hc2, h3⟩
  subst h1 h2 h3
  rw [← hag (0, 0, 0) (Or.inr rfl)]
  refine x_astore_n (i := 1) (pc := 7) F dL_law_7 rfl rfl ?_
  refine x_newO (o := (30, 0, 0)) (ci := 8) (dfl (30, 0, 0)) (pc := 8) F dL_law_8 rfl kw_820 kw_821 kw_80 inx8 tyX8 tyX8_ok (dfX8 0 0) (fun k o' => dfl_no _ k o') hc2 ?_ rfl (by omega) (by omega) ?_
  · rintro ((h | h) | h)
    · exact h
    · cases h
    · exact h.1.elim
  intro a2 e2 c2
  rw [← e2 (0, 0, 0) (Or.inl (Or.inr rfl))]
  refine x_dup (pc := 11) F dL_law_11 rfl ?_
  refine x_callI (o := (30, 0, 0)) (As := []) (pc := 12) F dL_law_12 lk_L_12 rfl rfl rfl (by omega) (by omega) (by omega) (by omega) (c_X8_init (Or.inr rfl) c2 (fun k _ => by unfold kN; rw [if_pos rfl]) ?_) ?_
  · intro o ho hz
    have ho := Nat.le_of_ble_eq_true ho
    rcases hz with ((hz | hz) | hz) | hz
    · exact hz
    · rw [hz] at ho; exact absurd ho (by decide)
    · have hb := VC_lt o hz.1
      rw [Nat.ble_eq_true_of_le (by omega)] at hb
      cases hb
    · rw [hz] at ho; exact absurd ho (by decide)
  rintro v V' ad3 ν' ⟨h1, h2, hag3, hc3, h3⟩
  subst h1 h2 h3
  rw [← hag3 (0, 0, 0) (Or.inl (Or.inl (Or.inr rfl))), ← hag3 (30, 0, 0) (Or.inr rfl)]
  refine x_astore_n (i := 2) (pc := 15) F dL_law_15 rfl rfl ?_
  refine x_iconst (pc := 16) F dL_law_16 ?_
  refine x_istore_n (i := 3) (pc := 17) F dL_law_17 rfl rfl ?_
  refine x_sub (L' := [(0, .ref b), (1, .ref (ad3 (0, 0, 0))), (2, .ref (ad3 (30, 0, 0))), (3, .int (I 0))]) ⟨rfl, rfl, rfl, rfl, trivial⟩ ?_
  refine XX.co (V2 := VL 0) (ad2 := ad3) (ν2 := vl ad3 (mx mu0 mu0)) (fun o ho => ?_) (fun _ _ => rfl) (fun o ho k _ => ?_) (law_loop F hS hn hP 513 0 0 ad3 mu0 mu0 _ _ (by omega) (by omega) (by omega) (by omega) (by omega) INV_0)
  · rcases ho with ho | ho
    · refine Or.inl (Or.inl ?_)
      by_cases h0 : o.1 = 0
      · exact Or.inl (Or.inr (VC_0 o ho h0))
      · exact Or.inr ⟨ho, h0⟩
    · rcases (NM2_iff o).mp ho with h | h
      · exact Or.inl (Or.inr h)
      · exact Or.inr h
  · rw [mx_00, ← congrFun (congrFun (nv_κ0 ad3) o) k]
    unfold nv
    congr 1
    unfold ovr kN
    rcases ho with ho | ho
    · have hb := VC_lt o ho
      have hne : ¬ (o = (30, 0, 0) ∨ NM2 o) := by
        rintro (z | z)
        · rw [z] at hb; cases hb
        · have hv := (NM2_iff o).mpr (Or.inr z)
          rw [VM_ge hv] at hb
          cases hb
      rw [cit_f hne, if_neg (fun z => hne (Or.inl z))]
      by_cases h0 : o.1 = 0
      · exact cit_t (Or.inl (VC_0 o ho h0))
      · exact cit_t (Or.inr ⟨ho, h0⟩)
    · exact cit_t ((NM2_iff o).mp ho)
end LSTART
