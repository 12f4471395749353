/-! ===== the class: house ===== -/
/-- what the reading of a House does to the cells, the House's cells being there -/
def HOt (μ μ' : Me) (hc : Int) (tx : Tn) (tl : Int) : Prop := μ' (15, 0, 0) 1 = 0 ∧ (∀ k, k ≠ 6 → μ' (0, 0, 0) k = μ (0, 0, 0) k) ∧ μ' (0, 0, 0) 6 = (if (rdS tx tl).1 = true then hc + 1 else hc) ∧ (∀ k, k ≠ 7 → μ' (1, 0, 0) k = μ (1, 0, 0) k) ∧ μ' (1, 0, 0) 7 = (if (rdS tx tl).1 = true then hc else μ (1, 0, 0) 7) ∧ (∀ o, o ≠ (0, 0, 0) → o ≠ (1, 0, 0) → o ≠ (15, 0, 0) → o ≠ (12, hc, 0) → o ≠ (13, hc, 0) → o ≠ (14, hc, 0) → μ' o = μ o) ∧ ((rdS tx tl).1 = true → HC μ' hc (rdS tx tl).2.2.1 ∧ μ' (12, hc, 0) 3 = (rdS tx tl).2.2.2.2.1 ∧ μ' (12, hc, 0) 4 = (rdS tx tl).2.2.2.2.2)
section CHO
variable {Γ : Ct} {P : Pq} {ad : Ob → Nat} {μ : Me} {tx : Tn} {tl hc nh : Int}
theorem x_ifnn {own : String} {cc : ByteArray} {nL : Nat} {ret : Option FieldType} {d mc ms cs sl pc : Nat} {V : Ob → Prop} {ν : Mv} {L : List (Nat × Value)} {st : List Value} {a : Nat} {off : Int} {tgt : Nat} (F : Fx Γ cc own nL ret P d mc ms) (dd : decode cc pc = .ok (.ifnonnull off, 3)) (ht : (pc : Int) + off = (tgt : Int)) (k : XX Γ nL V ad ν cs sl tgt L st) : XX Γ nL V ad ν cs sl pc L (.ref a :: st) := by
  obtain ⟨p, l, e, R, s, m, args, below, meth, c, A, Q, E⟩ := Γ
  obtain ⟨hx, hb, hml, hown, hts, hlk, hr, hK, hA0, hR, hQ, hzz⟩ := F
  intro H locs ls hW hV hS hl
  exact lv_ifnonnull hx hb dd ht (k H locs ls hW hV hS hl)
theorem x_ifnu {own : String} {cc : ByteArray} {nL : Nat} {ret : Option FieldType} {d mc ms cs sl pc : Nat} {V : Ob → Prop} {ν : Mv} {L : List (Nat × Value)} {st : List Value} {off : Int} (F : Fx Γ cc own nL ret P d mc ms) (dd : decode cc pc = .ok (.ifnonnull off, 3)) (k : XX Γ nL V ad ν cs sl (pc + 3) L st) : XX Γ nL V ad ν cs sl pc L (.null :: st) := by
  obtain ⟨p, l, e, R, s, m, args, below, meth, c, A, Q, E⟩ := Γ
  obtain ⟨hx, hb, hml, hown, hts, hlk, hr, hK, hA0, hR, hQ, hzz⟩ := F
  intro H locs ls hW hV hS hl
  have k := k H locs ls hW hV hS hl
  intro T hT X
  obtain ⟨t, a, b⟩ := k T hT X
  refine ⟨t, ?_, b⟩
  jvm_step X.here [X.here.top, hx, hb, dd, Value.isRef]
  exact a
set_option maxRecDepth 20000 in
theorem X7_house_t (F : Fx Γ cX7_house "GatesBent" 3 (some .int) P 18 3 205) (hX : TX μ tx tl) (h0 : 0 ≤ hc ∧ hc < 6) (h6 : μ (0, 0, 0) 6 = hc) (h17 : μ (17, 0, 0) hc = hc) (hP : ∀ μ', HOt μ μ' hc tx tl → P (some (.int (I (houseZ hc tx tl)))) (VC (hc + 1)) ad (vl ad μ')) : XX Γ 3 (VC (hc + 1)) ad (vl ad μ) 3 205 42 [(0, .ref (ad (0, 0, 0)))] [] := by
  have hz : houseZ hc tx tl = if (rdS tx tl).1 = true then hc else -10 - (rdS tx tl).2.1 := by unfold houseZ; rw [if_neg (by omega)]
  rw [hz] at hP
  have hgr := gd_rd (tx := tx) hX.1.2.1
  refine x_aload_n (i := 0) (pc := 42) F dX7_house_42 rfl rfl ?_
  refine gf_X7_20 (pc := 43) F dX7_house_43 (v_0 (by omega)) ?_
  refine x_aload_n (i := 0) (pc := 46) F dX7_house_46 rfl rfl ?_
  refine gf_X7_169 (pc := 47) F dX7_house_47 (v_0 (by omega)) ?_
  rw [h6]
  refine tq_ha (pc := 50) F dX7_house_50 (v_17 (by omega)) (by omega) ?_
  rw [h17, hvl_r (by omega)]
  refine x_astore_n (i := 1) (pc := 51) F dX7_house_51 rfl rfl ?_
  refine x_aload_n (i := 0) (pc := 52) F dX7_house_52 rfl rfl ?_
  refine gf_X7_12 (pc := 53) F dX7_house_53 (v_0 (by omega)) ?_
  refine x_aload_n (i := 1) (pc := 56) F dX7_house_56 rfl rfl ?_
  refine x_V1z (ci := 3) (pc := 57) F dX7_house_57 lk_X7_172 rfl (v_15 (by omega)) rfl rfl (c_X3_readHouse (h := hc) hX (by omega)) rfl rfl rfl ?_
  rintro z μ2 ⟨rfl, q1, ⟨q2, q3⟩, q4⟩
  refine x_istore_n (i := 2) (pc := 60) F dX7_house_60 rfl rfl ?_
  refine x_aload_n (i := 0) (pc := 61) F dX7_house_61 rfl rfl ?_
  refine gf_X7_12 (pc := 62) F dX7_house_62 (v_0 (by omega)) ?_
  refine x_iconst (pc := 65) F dX7_house_65 ?_
  refine pf_X7_162 (pc := 66) F dX7_house_66 (v_15 (by omega)) ?_
  generalize hm3 : upM μ2 (15, 0, 0) 1 0 = μ3
  have g1 : μ3 (15, 0, 0) 1 = 0 := by rw [← hm3, upM_i, if_pos rfl]
  have g2 : μ3 (15, 0, 0) 2 = (rdS tx tl).2.1 := by rw [← hm3, upM_i, if_neg (by decide), q1]
  have go : ∀ o, o ≠ (15, 0, 0) → μ3 o = μ2 o := fun o ho => by rw [← hm3, upM_ne ho]
  refine x_iload_n (i := 2) (pc := 69) F dX7_house_69 rfl rfl ?_
  refine x_if_neB (tgt := 84) (pc := 70) F dX7_house_70 rfl (fun h70 => ?_) (fun h70 => ?_)
  · try simp only [decide_eq_true_eq, decide_eq_false_iff_not, Bool.and_eq_true, Bool.or_eq_true, Bool.not_eq_true', Bool.not_eq_false', Bool.and_eq_false_iff, Bool.or_eq_false_iff] at h70
    have hR := q4 h70
    refine x_aload_n (i := 0) (pc := 84) F dX7_house_84 rfl rfl ?_
    refine gf_X7_62 (pc := 85) F dX7_house_85 (v_0 (by omega)) ?_
    refine x_aload_n (i := 1) (pc := 88) F dX7_house_88 rfl rfl ?_
    refine pf_X7_179 (pc := 89) F dX7_house_89 (v_1 (by omega)) (hvl_r (by omega)).symm rfl ?_
    generalize hm4 : upM μ3 (1, 0, 0) 7 hc = μ4
    have g3 : μ4 (1, 0, 0) 7 = hc := by rw [← hm4, upM_i, if_pos rfl]
    have g4 : ∀ k, k ≠ 7 → μ4 (1, 0, 0) k = μ (1, 0, 0) k := fun k hk => by rw [← hm4, upM_i, if_neg hk, go _ (by simp), q3 _ (by simp) (by simp) (by simp) (by simp)]
    have go4 : ∀ o, o ≠ (1, 0, 0) → μ4 o = μ3 o := fun o ho => by rw [← hm4, upM_ne ho]
    have g6 : μ4 (0, 0, 0) 6 = hc := by rw [go4 _ (by simp), go _ (by simp), q3 _ (by simp) (by simp) (by simp) (by simp), h6]
    refine x_aload_n (i := 0) (pc := 92) F dX7_house_92 rfl rfl ?_
    refine x_dup (pc := 93) F dX7_house_93 rfl ?_
    refine gf_X7_169 (pc := 94) F dX7_house_94 (v_0 (by omega)) ?_
    refine x_iconst (pc := 97) F dX7_house_97 ?_
    refine x_iadd (pc := 98) F dX7_house_98 ?_
    rw [g6]
    refine pf_X7_169 (pc := 99) F dX7_house_99 (v_0 (by omega)) ?_
    refine x_aload_n (i := 0) (pc := 102) F dX7_house_102 rfl rfl ?_
    refine gf_X7_169 (pc := 103) F dX7_house_103 (v_0 (by omega)) ?_
    rw [upM_i, if_pos rfl]
    refine x_iconst (pc := 106) F dX7_house_106 ?_
    refine x_isub (pc := 107) F dX7_house_107 ?_
    rw [if_pos h70] at hP
    rw [show hc + 1 - 1 = hc by omega]
    refine x_iret (pc := 108) F dX7_house_108 (hP _ ⟨?_, fun k hk => ?_, ?_, fun k hk => ?_, ?_, fun o h1 h2 h3 h4 h5 h7 => ?_, fun _ => ⟨⟨?_, fun i hi => ?_⟩, ?_, ?_⟩⟩) rfl rfl rfl
    · rw [upM_ne (by simp), go4 _ (by simp), g1]
    · rw [upM_i, if_neg hk, go4 _ (by simp), go _ (by simp), q3 _ (by simp) (by simp) (by simp) (by simp)]
    · rw [upM_i, if_pos rfl, if_pos h70]
    · rw [upM_ne (by simp), g4 k hk]
    · rw [upM_ne (by simp), g3, if_pos h70]
    · rw [upM_ne h1, go4 o h2, go o h3, q3 o h3 h4 h5 h7]
    · rw [upM_ne (by simp), go4 _ (by simp), go _ (by simp)]; exact hR.1.2.2.2.1.1
    · rw [upM_ne (by simp), go4 _ (by simp), go _ (by simp), upM_ne (by simp), go4 _ (by simp), go _ (by simp)]; exact hR.1.2.2.2.1.2 i hi
    · rw [upM_ne (by simp), go4 _ (by simp), go _ (by simp)]; exact hR.2.1
    · rw [upM_ne (by simp), go4 _ (by simp), go _ (by simp)]; exact hR.2.2
  · try simp only [decide_eq_true_eq, decide_eq_false_iff_not, Bool.and_eq_true, Bool.or_eq_true, Bool.not_eq_true', Bool.not_eq_false', Bool.and_eq_false_iff, Bool.or_eq_false_iff] at h70
    refine x_bipush (pc := 73) F dX7_house_73 (by decide) ?_
    refine x_aload_n (i := 0) (pc := 75) F dX7_house_75 rfl rfl ?_
    refine gf_X7_12 (pc := 76) F dX7_house_76 (v_0 (by omega)) ?_
    refine gf_X7_176 (pc := 79) F dX7_house_79 (v_15 (by omega)) ?_
    rw [g2]
    refine x_isub (pc := 82) F dX7_house_82 ?_
    rw [if_neg (by rw [h70]; decide)] at hP
    refine x_iret (pc := 83) F dX7_house_83 (hP μ3 ⟨g1, fun k hk => by rw [go _ (by simp), q3 _ (by simp) (by simp) (by simp) (by simp)], ?_, fun k hk => by rw [go _ (by simp), q3 _ (by simp) (by simp) (by simp) (by simp)], ?_, fun o h1 h2 h3 h4 h5 h7 => by rw [go o h3, q3 o h3 h4 h5 h7], fun z => absurd z (by rw [h70]; decide)⟩) rfl rfl rfl
    · rw [if_neg (by rw [h70]; decide), go _ (by simp), q3 _ (by simp) (by simp) (by simp) (by simp), h6]
    · rw [if_neg (by rw [h70]; decide), go _ (by simp), q3 _ (by simp) (by simp) (by simp) (by simp)]
/-! the House made: names pushed aside -/
def shf (hc z : Int) : Int := if 8 ≤ z then z + 1 else if z = hc then 8 else z
def isH (o : Ob) (k : Int) : Prop := (o.1 = 1 ∧ k = 7) ∨ (o.1 = 15 ∧ k = 3) ∨ o.1 = 17
def muH (μ : Me) (hc : Int) : Me := fun o k => if (o.1 = 12 ∨ o.1 = 13 ∨ o.1 = 14) ∧ o.2.1 = hc then mu0 o k else if (o.1 = 1 ∧ k = 7) ∨ (o.1 = 15 ∧ k = 3) ∨ o.1 = 17 then shf hc (μ o k) else μ o k
def adH (ad ad' : Ob → Nat) (hc : Int) : Ob → Nat := fun o => if (o.1 = 12 ∨ o.1 = 13 ∨ o.1 = 14) ∧ o.2.1 = hc ∧ o.2.2 = 0 then ad' o else if o.1 = 12 ∧ o.2.1 = 8 ∧ o.2.2 = 0 then ad (12, hc, 0) else if o.1 = 12 ∧ 9 ≤ o.2.1 ∧ o.2.2 = 0 then ad (12, o.2.1 - 1, 0) else ad o
theorem adH_n {ad' : Ob → Nat} {o : Ob} (h : (o.1 = 12 ∨ o.1 = 13 ∨ o.1 = 14) ∧ o.2.1 = hc ∧ o.2.2 = 0) : adH ad ad' hc o = ad' o := by unfold adH; rw [if_pos h]
theorem adH_o {ad' : Ob → Nat} {o : Ob} (h : o.1 ≠ 12 ∧ ((o.1 = 13 ∨ o.1 = 14) → o.2.1 ≠ hc)) : adH ad ad' hc o = ad o := by unfold adH; rw [if_neg (by omega), if_neg (by omega), if_neg (by omega)]
theorem adH_k {ad' : Ob → Nat} {o : Ob} (h : o.2.1 ≠ hc ∧ o.2.1 < 8) : adH ad ad' hc o = ad o := by unfold adH; rw [if_neg (by omega), if_neg (by omega), if_neg (by omega)]
theorem hvl_H {ad' : Ob → Nat} (h : 0 ≤ hc ∧ hc < 6) (z : Int) : hvl ad z = hvl (adH ad ad' hc) (shf hc z) := by
  unfold shf
  split
  · rw [hvl_r (by omega), hvl_r (by omega)]
    unfold adH
    rw [if_neg (by simp <;> omega), if_neg (by simp <;> omega), if_pos (by simp <;> omega)]
    simp
  · split
    · rw [hvl_r (by omega), hvl_r (by omega)]
      unfold adH
      rw [if_neg (by simp <;> omega), if_pos (by simp)]
      subst_vars
      rfl
    · by_cases h7 : z = 7
      · subst h7; rfl
      · rw [hvl_r (by omega), hvl_r (by omega), adH_k (by simp <;> omega)]
theorem skn_inr {o o' : Ob} {k : Nat} (h : skn o k = .inr o') : o'.1 ≠ 12 ∧ ((o'.1 = 13 ∨ o'.1 = 14) → o.1 = 12 ∧ o'.2.1 = o.2.1) := by
  obtain ⟨t, i, j⟩ := o
  unfold skn at h
  dsimp only at h
  split at h <;> (try split at h) <;> cases h <;> simp
theorem skn_inl {o : Ob} {k t : Nat} (h : skn o k = .inl t) : (t < 2 ∧ ¬ ((o.1 = 1 ∧ (k : Int) = 7) ∨ (o.1 = 15 ∧ (k : Int) = 3) ∨ o.1 = 17)) ∨ (t = 2 ∧ ((o.1 = 1 ∧ (k : Int) = 7) ∨ (o.1 = 15 ∧ (k : Int) = 3) ∨ o.1 = 17)) := by
  obtain ⟨tg, i, j⟩ := o
  unfold skn at h
  dsimp only at h
  split at h <;> (try split at h) <;> cases h <;> simp_all <;> omega
theorem vl_sk (ad : Ob → Nat) (μ : Me) (o : Ob) (k : Nat) : vl ad μ o k = vof ad (mpn ad (skn o k)) (μ o k) := by unfold vl; rw [sk_n]
/-- the old cells read as before -/
theorem vl_H {ad' : Ob → Nat} (h : 0 ≤ hc ∧ hc < 6) {o : Ob} (ho : VC hc o) (k : Nat) : vl ad μ o k = vl (adH ad ad' hc) (muH μ hc) o k := by
  have hn : ¬ ((o.1 = 12 ∨ o.1 = 13 ∨ o.1 = 14) ∧ o.2.1 = hc) := by
    rintro ⟨h1, h2⟩
    obtain ⟨t, i, j⟩ := o
    rcases h1 with h1 | h1 | h1 <;>
    · have h1 : t = _ := h1
      subst h1
      have h3 : (0 ≤ i ∧ i < hc ∨ i = 6) ∧ j = 0 := ho
      have h2 : i = hc := h2
      omega
  rw [vl_sk, vl_sk]
  unfold muH
  rw [if_neg hn]
  cases hs : skn o k with
  | inl t =>
    rcases skn_inl hs with ⟨h1, h2⟩ | ⟨rfl, h2⟩
    · rw [if_neg h2]
      rcases (show t = 0 ∨ t = 1 by omega) with rfl | rfl <;> rfl
    · rw [if_pos h2]
      exact hvl_H h _
  | inr o' =>
    obtain ⟨h1, h2⟩ := skn_inr hs
    show Value.ref (ad o') = Value.ref (adH ad ad' hc o')
    rw [adH_o ⟨h1, fun h3 h4 => hn ⟨Or.inl (h2 h3).1, by rw [← (h2 h3).2]; exact h4⟩⟩]
theorem VC_s : ∀ o : Ob, VC (hc + 1) o → (o = (12, hc, 0) ∨ o = (13, hc, 0) ∨ o = (14, hc, 0)) ∨ (VC hc o ∧ o ≠ (12, hc, 0))
  | (0, _, _), h => Or.inr ⟨h, fun z => by cases z⟩
  | (1, _, _), h => Or.inr ⟨h, fun z => by cases z⟩
  | (2, _, _), h => Or.inr ⟨h, fun z => by cases z⟩
  | (3, _, _), h => Or.inr ⟨h, fun z => by cases z⟩
  | (4, _, _), h => Or.inr ⟨h, fun z => by cases z⟩
  | (5, _, _), h => Or.inr ⟨h, fun z => by cases z⟩
  | (6, _, _), h => Or.inr ⟨h, fun z => by cases z⟩
  | (7, _, _), h => Or.inr ⟨h, fun z => by cases z⟩
  | (8, _, _), h => Or.inr ⟨h, fun z => by cases z⟩
  | (9, _, _), h => Or.inr ⟨h, fun z => by cases z⟩
  | (10, _, _), h => Or.inr ⟨h, fun z => by cases z⟩
  | (11, _, _), h => Or.inr ⟨h, fun z => by cases z⟩
  | (12, q, r), h => by
    have h : (0 ≤ q ∧ q < hc + 1 ∨ q = 6) ∧ r = 0 := h
    obtain ⟨h, rfl⟩ := h
    by_cases e : q = hc
    · subst e; simp
    · exact Or.inr ⟨(⟨by omega, rfl⟩ : (0 ≤ q ∧ q < hc ∨ q = 6) ∧ (0 : Int) = 0), fun z => by simp at z <;> exact e z⟩
  | (13, q, r), h => by
    have h : (0 ≤ q ∧ q < hc + 1 ∨ q = 6) ∧ r = 0 := h
    obtain ⟨h, rfl⟩ := h
    by_cases e : q = hc
    · subst e; simp
    · exact Or.inr ⟨(⟨by omega, rfl⟩ : (0 ≤ q ∧ q < hc ∨ q = 6) ∧ (0 : Int) = 0), fun z => by simp at z <;> exact e z⟩
  | (14, q, r), h => by
    have h : (0 ≤ q ∧ q < hc + 1 ∨ q = 6) ∧ r = 0 := h
    obtain ⟨h, rfl⟩ := h
    by_cases e : q = hc
    · subst e; simp
    · exact Or.inr ⟨(⟨by omega, rfl⟩ : (0 ≤ q ∧ q < hc ∨ q = 6) ∧ (0 : Int) = 0), fun z => by simp at z <;> exact e z⟩
  | (15, _, _), h => Or.inr ⟨h, fun z => by cases z⟩
  | (16, _, _), h => Or.inr ⟨h, fun z => by cases z⟩
  | (17, _, _), h => Or.inr ⟨h, fun z => by cases z⟩
  | (18, _, _), h => Or.inr ⟨h, fun z => by cases z⟩
  | (19, _, _), h => Or.inr ⟨h, fun z => by cases z⟩
  | (20, _, _), h => Or.inr ⟨h, fun z => by cases z⟩
  | (21, _, _), h => Or.inr ⟨h, fun z => by cases z⟩
  | (22, _, _), h => Or.inr ⟨h, fun z => by cases z⟩
  | (23, _, _), h => Or.inr ⟨h, fun z => by cases z⟩
  | (_ + 24, _, _), h => h.elim
theorem VC_ad {ad' : Ob → Nat} (h : 0 ≤ hc ∧ hc < 6) {o : Ob} (ho : VC hc o) : adH ad ad' hc o = ad o := by
  by_cases h1 : o.1 = 12 ∨ o.1 = 13 ∨ o.1 = 14
  · obtain ⟨t, i, j⟩ := o
    refine adH_k ?_
    rcases h1 with h1 | h1 | h1 <;>
    · have h1 : t = _ := h1
      subst h1
      have h3 : (0 ≤ i ∧ i < hc ∨ i = 6) ∧ j = 0 := ho
      show i ≠ hc ∧ i < 8
      omega
  · exact adH_o ⟨fun z => h1 (Or.inl z), fun z => absurd (Or.inr z) h1⟩
/-- the cells behind the making -/
def HOn (μ μ1 : Me) (hc : Int) : Prop := (∀ o k, ¬ isH o k → ¬ ((o.1 = 12 ∨ o.1 = 13 ∨ o.1 = 14) ∧ o.2.1 = hc) → μ1 o k = μ o k) ∧ (∀ o k, isH o k → μ o k < 8 → μ o k ≠ hc → ¬ (o = (17, 0, 0) ∧ k = hc) → μ1 o k = μ o k) ∧ μ1 (17, 0, 0) hc = hc
theorem muH_n : HOn μ (upM (muH μ hc) (17, 0, 0) hc hc) hc := by
  refine ⟨fun o k h1 h2 => ?_, fun o k h1 h2 h3 h4 => ?_, by rw [upM_i, if_pos rfl]⟩
  · unfold upM
    rw [if_neg (fun z => h1 (Or.inr (Or.inr (by rw [z.1]))))]
    unfold muH
    rw [if_neg h2]
    exact if_neg h1
  · unfold upM
    rw [if_neg h4]
    unfold muH
    have hn : ¬ ((o.1 = 12 ∨ o.1 = 13 ∨ o.1 = 14) ∧ o.2.1 = hc) := by unfold isH at h1; omega
    rw [if_neg hn]
    refine (if_pos h1).trans ?_
    unfold shf
    rw [if_neg (by omega), if_neg h3]
def housePq (nh : Int) (ad : Ob → Nat) (μ : Me) (hc tl : Int) (tx : Tn) : Pq := fun v V' ad' ν' => ∃ (μ' : Me) (nh' : Int), v = some (.int (I (houseZ hc tx tl))) ∧ V' = VC nh' ∧ ν' = vl ad' μ' ∧ (∀ o, VC nh o → ad' o = ad o) ∧ (hc = 6 ∧ nh' = nh ∧ μ' = μ ∨ hc < 6 ∧ nh' = hc + 1 ∧ ∃ μ1, HOn μ μ1 hc ∧ HOt μ1 μ' hc tx tl)
set_option maxRecDepth 20000 in
theorem c_X7_house (hX : TX μ tx tl) (h0 : 0 ≤ hc ∧ hc ≤ 6) (hc6 : μ (0, 0, 0) 6 = hc) (hnh : nh = hc ∨ (nh = hc + 1 ∧ hc < 6)) (h17 : ∀ k, 0 ≤ k → k < 6 → μ (17, 0, 0) k = if k < nh then k else 7) (l : Launch) (E : Ev) (A : Nat → Prop) : ConG l E 18 m_X7_house.1 m_X7_house.2.1 m_X7_house.2.2.1 m_X7_house.2.2.2 A (VC nh) ad (vl ad μ) 3 205 [.ref (ad (0, 0, 0))] (housePq nh ad μ hc tl tx) := by
  refine conG (own := "GatesBent") (by decide +kernel) rfl (Nat.le_of_ble_eq_true rfl) rfl (fun Γ F _ _ => ?_)
  refine x_aload_n (i := 0) (pc := 0) F dX7_house_0 rfl rfl ?_
  refine gf_X7_169 (pc := 1) F dX7_house_1 (v_0 (by omega)) ?_
  rw [hc6]
  refine x_bipush (pc := 4) F dX7_house_4 (by decide) ?_
  refine x_icmp_lt (tgt := 12) (pc := 6) F dX7_house_6 rfl (by omega) (fun h6 => ?_) (fun h6 => ?_)
  · refine x_aload_n (i := 0) (pc := 12) F dX7_house_12 rfl rfl ?_
    refine gf_X7_20 (pc := 13) F dX7_house_13 (v_0 (by omega)) ?_
    refine x_aload_n (i := 0) (pc := 16) F dX7_house_16 rfl rfl ?_
    refine gf_X7_169 (pc := 17) F dX7_house_17 (v_0 (by omega)) ?_
    rw [hc6]
    refine tq_ha (pc := 20) F dX7_house_20 (v_17 (by omega)) (by omega) ?_
    have hz100 : hsz hc = 100 := by unfold hsz; rw [if_neg (by omega)]
    rcases hnh with hnh | ⟨hnh, h6'⟩
    · subst hnh
      rw [h17 nh (by omega) (by omega), if_neg (by omega), show hvl ad 7 = .null from rfl]
      refine x_ifnu (pc := 21) F dX7_house_21 ?_
      refine x_aload_n (i := 0) (pc := 24) F dX7_house_24 rfl rfl ?_
      refine gf_X7_20 (pc := 25) F dX7_house_25 (v_0 (by omega)) ?_
      refine x_aload_n (i := 0) (pc := 28) F dX7_house_28 rfl rfl ?_
      refine gf_X7_169 (pc := 29) F dX7_house_29 (v_0 (by omega)) ?_
      rw [hc6]
      refine x_newR (o := (12, nh, 0)) (ci := 2) (dfl (12, nh, 0)) (pc := 32) F dX7_house_32 rfl kw_119 kw_191 kw_76 inx2 tyX2 tyX2_ok (dfX2 nh 0) (fun (h : (0 ≤ nh ∧ nh < nh ∨ nh = 6) ∧ (0 : Int) = 0) => by omega) rfl (by omega) (by omega) ?_
      intro a1 e1
      refine x_dup (pc := 35) F dX7_house_35 rfl ?_
      refine x_bipush (pc := 36) F dX7_house_36 (by decide) ?_
      refine x_callIF (V1 := fun o => o = (12, nh, 0)) (ν1 := nv a1 dfl) (o := (12, nh, 0)) (As := [.int (I 100)]) (pc := 38) F dX7_house_38 lk_X7_56 (fun o h => Or.inr h) rfl rfl rfl (by omega) (by omega) (by omega) (fun o h k _ => ?_) (c_X2_init (t := nh) (z := 100) rfl (fun o _ k _ o' e => absurd e (dfl_no o k o')) (fun k _ => rfl) (by simp) (by simp) (by rw [hz100]; rfl)) ?_
      · subst h
        rw [if_pos rfl]
        rfl
      rintro v V' ad' ν' ⟨h1, h2, hag, hc2, h3⟩
      subst h1 h2 h3
      have hg : ∀ o, VC nh o → adH ad ad' nh o = ad o := fun o ho => VC_ad (by omega) ho
      refine ⟨adH ad ad' nh, vl (adH ad ad' nh) (muH μ nh), fun o ho => ?_, fun o ho hn1 => ?_, ?_⟩
      · have ht : (o.1 = 12 ∨ o.1 = 13 ∨ o.1 = 14) ∧ o.2.1 = nh ∧ o.2.2 = 0 := by rcases ho with rfl | rfl | rfl <;> simp
        refine ⟨adH_n ht, fun k hk => ?_⟩
        have e0 : nv ad' (ovr (fun o' => o' = (12, nh, 0) ∨ (o' = (13, nh, 0) ∨ o' = (14, nh, 0))) dfl) o k = nv ad' κ0 o k := by unfold nv ovr; rw [cit_t ho]
        rw [e0, nv_κ0, vl_sk, vl_sk]
        unfold muH
        rw [if_pos ⟨ht.1, ht.2.1⟩]
        rcases ho with rfl | rfl | rfl
        · have hk : k < 5 := hk
          rcases (show k = 0 ∨ k = 1 ∨ k = 2 ∨ k = 3 ∨ k = 4 by omega) with rfl | rfl | rfl | rfl | rfl
          · show Value.ref (ad' (13, nh, 0)) = Value.ref (adH ad ad' nh (13, nh, 0))
            rw [adH_n (by simp)]
          · show Value.ref (ad' (14, nh, 0)) = Value.ref (adH ad ad' nh (14, nh, 0))
            rw [adH_n (by simp)]
          · rfl
          · rfl
          · rfl
        · rfl
        · rfl
      · have hv : VC nh o := ho.resolve_right hn1
        refine ⟨by rw [hg o hv, e1 o hn1], fun k _ => ?_⟩
        rw [if_neg hn1]
        exact vl_H (by omega) hv k
      · refine XX.co (V2 := VC (nh + 1)) (ad2 := adH ad ad' nh) (ν2 := vl (adH ad ad' nh) (muH μ nh)) (fun o ho => ?_) (fun _ _ => rfl) (fun _ _ _ _ => rfl) ?_
        · rcases VC_s o ho with h | h
          · exact Or.inl h
          · exact Or.inr ⟨Or.inl h.1, h.2⟩
        · have q1 : a1 (12, nh, 0) = adH ad ad' nh (12, nh, 0) := (hag _ rfl).symm.trans (adH_n (by simp)).symm
          have q2 : ad (17, 0, 0) = adH ad ad' nh (17, 0, 0) := (hg _ (v_17 (by omega))).symm
          have q3 : ad (0, 0, 0) = adH ad ad' nh (0, 0, 0) := (hg _ (v_0 (by omega))).symm
          rw [q1, q2, q3]
          generalize adH ad ad' nh = ad2 at hg
          refine x_aast (V := VC (nh + 1)) (o := (17, 0, 0)) (ci := 2) (ti := 6) (n := 6) (j := nh) (ov := (12, nh, 0)) (pc := 41) F dX7_house_41 (v_17 (by omega)) rfl (by decide) rfl (v_12 (by omega)) rfl rfl (by omega) ?_
          rw [upV_vl (z := nh) (by show hvl ad2 nh = _; rw [hvl_r (by omega)]), show ((nh.toNat : Nat) : Int) = nh by omega]
          have hn := muH_n (μ := μ) (hc := nh)
          generalize upM (muH μ nh) (17, 0, 0) nh nh = μ1 at hn
          refine x_wid (cs' := 3) (sl' := 205) (by omega) (by omega) ?_
          refine X7_house_t F ⟨?_, fun k x y => ?_⟩ (by omega) ?_ hn.2.2 (fun μ' h => ⟨μ', nh + 1, rfl, rfl, rfl, hg, Or.inr ⟨by omega, rfl, μ1, hn, h⟩⟩)
          · rw [hn.1 _ _ (by unfold isH; simp) (by simp)]; exact hX.1
          · rw [hn.1 _ _ (by unfold isH; simp) (by simp)]; exact hX.2 k x y
          · rw [hn.1 _ _ (by unfold isH; simp) (by simp)]; exact hc6
    · subst hnh
      rw [h17 hc (by omega) (by omega), if_pos (by omega), hvl_r (by omega)]
      refine x_ifnn (tgt := 42) (pc := 21) F dX7_house_21 rfl ?_
      refine x_wid (cs' := 3) (sl' := 205) (by omega) (by omega) ?_
      exact X7_house_t F hX (by omega) hc6 (by rw [h17 hc (by omega) (by omega), if_pos (by omega)]) (fun μ' h => ⟨μ', hc + 1, rfl, rfl, rfl, fun _ _ => rfl, Or.inr ⟨by omega, rfl, μ, ⟨fun _ _ _ _ => rfl, fun _ _ _ _ _ _ => rfl, by rw [h17 hc (by omega) (by omega), if_pos (by omega)]⟩, h⟩⟩)
  · refine x_bipush (pc := 9) F dX7_house_9 (by decide) ?_
    refine x_wid (cs' := 3) (sl' := 205) (by omega) (by omega) ?_
    refine x_iret (pc := 11) F dX7_house_11 ⟨μ, nh, ?_, rfl, rfl, fun _ _ => rfl, Or.inl ⟨by omega, rfl, rfl⟩⟩ rfl rfl rfl
    unfold houseZ
    rw [if_pos (by omega)]
end CHO
