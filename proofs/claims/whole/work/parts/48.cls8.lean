/-! ===== lookupswitch; the class: acts ===== -/
def lsT (pc : Nat) : List (Int × Int) → List Nat → Prop
  | p :: ps, t :: ts => (pc : Int) + p.2 = (t : Int) ∧ lsT pc ps ts
  | [], [] => True
  | _, _ => False
def lsK (a : Int) (K : Nat → Prop) : List (Int × Int) → List Nat → Prop
  | p :: ps, t :: ts => (a = p.1 → K t) ∧ lsK a K ps ts
  | _, _ => True
def lsN (a : Int) : List (Int × Int) → Prop
  | [] => True
  | p :: ps => a ≠ p.1 ∧ lsN a ps
theorem ls_go {pc dt : Nat} {dflt a : Int} {K : Nat → Prop} : ∀ (ps : List (Int × Int)) (ts : List Nat), lsT pc ps ts → (pc : Int) + dflt = (dt : Int) → lsK a K ps ts → (lsN a ps → K dt) → ∃ t : Nat, (pc : Int) + Op.lookupswitch.offset ps dflt a = (t : Int) ∧ K t
  | [], _, _, hd, _, hn => ⟨dt, hd, hn trivial⟩
  | p :: ps, [], h, _, _, _ => h.elim
  | (k, o) :: ps, t :: ts, h, hd, hk, hn => by
    rw [Op.lookupswitch.offset_cons]
    by_cases e : k = a
    · rw [if_pos e]
      exact ⟨t, h.1, hk.1 e.symm⟩
    · rw [if_neg e]
      exact ls_go ps ts h.2 hd hk.2 (fun hh => hn ⟨fun q => e q.symm, hh⟩)
section LSW
variable {Γ : Ct} {cc : ByteArray} {own : String} {nL : Nat} {ret : Option FieldType} {P : Pq} {d mc ms : Nat} {V : Ob → Prop} {ad : Ob → Nat} {ν : Mv} {cs sl pc : Nat} {L : List (Nat × Value)} {st : List Value} {a : Int}
theorem x_lsw {dflt : Int} {ps : Array (Int × Int)} {len dt : Nat} {ts : List Nat} (F : Fx Γ cc own nL ret P d mc ms) (dd : decode cc pc = .ok (.lookupswitch dflt ps, len)) (hp : (ps.toList.zip (ps.toList.drop 1)).all (fun (a, next) => a.1 < next.1) = true) (ht : lsT pc ps.toList ts) (hdt : (pc : Int) + dflt = (dt : Int)) (hg : -2147483648 ≤ a ∧ a < 2147483648)
    (hk : lsK a (fun t => XX Γ nL V ad ν cs sl t L st) ps.toList ts) (hd : lsN a ps.toList → XX Γ nL V ad ν cs sl dt L st) : XX Γ nL V ad ν cs sl pc L (.int (I a) :: st) := by
  obtain ⟨t, h1, h2⟩ := ls_go (K := fun t => XX Γ nL V ad ν cs sl t L st) ps.toList ts ht hdt hk hd
  exact x_lookup F dd hg hp rfl h1 h2
end LSW
def wkF (num v fr x : Int) : Int := if fr = 2 ∨ fr = 5 then x * 3 + num else if fr = 4 then -(x + num) else if fr = 6 then ix (x + num) v else x + num
def wkL (fr : Int) : List Int := if fr = 2 ∨ fr = 5 then [30, 10] else if fr = 4 then [50, 10] else if fr = 6 then [71, 10] else [10]
def kn0 (num v kd x : Int) : Int := wkF num v kd x - v
def knF (num v kd fr x : Int) : Int := if fr = 1 then ix (kn0 num v kd x) 6 else if fr = 4 then ix (kn0 num v kd (x + 1)) 6 else if fr = 6 then kn0 num v kd x + wkF num v 3 2 else kn0 num v kd x
def knL (kd fr : Int) : List Int := if fr = 1 then 20 :: 11 :: wkL kd else if fr = 4 then 51 :: 20 :: 11 :: wkL kd else if fr = 6 then 70 :: 11 :: (wkL kd ++ wkL 3) else 11 :: wkL kd
def te0 (num v kd x : Int) : Int := knF num v kd kd x * 2
def teF (num v kd fr x : Int) : Int := if fr = 3 ∨ fr = 6 then te0 num v kd x + knF num v kd kd 1 else if fr = 5 then te0 num v kd (x - num) else te0 num v kd x
def teLs (kd fr : Int) : List Int := if fr = 3 ∨ fr = 6 then 40 :: 12 :: (knL kd kd ++ knL kd kd) else if fr = 5 then 60 :: 12 :: knL kd kd else 12 :: knL kd kd
theorem wkL_len (fr : Int) : (wkL fr).length ≤ 2 := by unfold wkL; (repeat' split) <;> simp
theorem knL_len (kd fr : Int) : (knL kd fr).length ≤ 6 := by
  have h1 := wkL_len kd
  have h2 := wkL_len 3
  unfold knL
  (repeat' split) <;> simp only [List.length_cons, List.length_append] <;> omega
theorem teL_len (kd fr : Int) : (teLs kd fr).length ≤ 14 := by
  have h1 := knL_len kd kd
  unfold teLs
  (repeat' split) <;> simp only [List.length_cons, List.length_append] <;> omega
def actZ (T : Tn) (c a x : Int) : Int := if 0 ≤ c ∧ c < T 76 then (if a = 0 then wkF c (T (17 + 10 * c)) (T (16 + 10 * c)) x else if a = 1 then knF c (T (17 + 10 * c)) (T (16 + 10 * c)) (T (16 + 10 * c)) x else if a = 2 then teF c (T (17 + 10 * c)) (T (16 + 10 * c)) (T (16 + 10 * c)) x else 0) else 0
def actL (T : Tn) (c a : Int) : List Int := if 0 ≤ c ∧ c < T 76 then (if a = 0 then wkL (T (16 + 10 * c)) else if a = 1 then knL (T (16 + 10 * c)) (T (16 + 10 * c)) else if a = 2 then teLs (T (16 + 10 * c)) (T (16 + 10 * c)) else []) else []
theorem actL_len (T : Tn) (c a : Int) : (actL T c a).length ≤ 14 := by
  have h1 := wkL_len (T (16 + 10 * c))
  have h2 := knL_len (T (16 + 10 * c)) (T (16 + 10 * c))
  have h3 := teL_len (T (16 + 10 * c)) (T (16 + 10 * c))
  unfold actL
  (repeat' split) <;> first | omega | simp
/-- the bodies that ran are L -/
def BT (μ : Me) (L : List Int) : Prop := μ (0, 0, 0) 8 = L.length ∧ ∀ i : Nat, i < L.length → μ (18, 0, 0) i = L.getD i 0
def FRa (μ μ' : Me) : Prop := (∀ k, k ≠ 8 → μ' (0, 0, 0) k = μ (0, 0, 0) k) ∧ ∀ o, o ≠ (0, 0, 0) → o ≠ (18, 0, 0) → μ' o = μ o
theorem FRa.trans {μ μ1 μ2 : Me} (h : FRa μ μ1) (h2 : FRa μ1 μ2) : FRa μ μ2 := ⟨fun k hk => by rw [h2.1 k hk, h.1 k hk], fun o a b => by rw [h2.2 o a b, h.2 o a b]⟩
theorem FRa.refl (μ : Me) : FRa μ μ := ⟨fun _ _ => rfl, fun _ _ _ => rfl⟩
theorem BT_push {μ : Me} {L : List Int} {b : Int} (h : BT μ L) : BT (upM (upM μ (18, 0, 0) (μ (0, 0, 0) 8) b) (0, 0, 0) 8 (μ (0, 0, 0) 8 + 1)) (L ++ [b]) := by
  obtain ⟨h1, h2⟩ := h
  refine ⟨?_, fun i hi => ?_⟩
  · rw [upM_i, if_pos rfl, h1, List.length_append]
    simp
  · rw [upM_ne (by simp), upM_i, h1]
    rw [List.length_append] at hi
    simp only [List.length_singleton] at hi
    by_cases e : i < L.length
    · rw [if_neg (by omega), h2 i e]
      simp only [List.getD_eq_getElem?_getD]
      rw [List.getElem?_append_left e]
    · rw [if_pos (by omega)]
      simp only [List.getD_eq_getElem?_getD]
      rw [List.getElem?_append_right (by omega), show i - L.length = 0 by omega]
      rfl
section ACTS
variable {ad : Ob → Nat} {μ : Me} {nh : Int} {T : Tn} {num v kd c : Int} {L : List Int}
set_option maxRecDepth 20000 in
theorem c_X7_startBody (b : Int) (hL : BT μ L) (hl : L.length < 20) (l : Launch) (E : Ev) (A : Nat → Prop) : Con l E 1 m_X7_startBody A (VC nh) ad μ [.ref (ad (0, 0, 0)), .int (I b)] (pv fun μ' => BT μ' (L ++ [b]) ∧ FRa μ μ') := by
  have h1 := hL.1
  refine con (own := RX7) (by decide +kernel) rfl rfl rfl (fun Γ F => ?_)
  refine x_aload_n (i := 0) (pc := 0) F dX7_startBody_0 rfl rfl ?_
  refine gf_X7_304 (pc := 1) F dX7_startBody_1 (v_0 (by omega)) ?_
  refine x_bipush (pc := 4) F dX7_startBody_4 (by decide) ?_
  refine x_icmp_ge (tgt := 19) (pc := 6) F dX7_startBody_6 rfl (by omega) (fun h6 => ?_) (fun h6 => ?_)
  · exfalso; omega
  · refine x_aload_n (i := 0) (pc := 9) F dX7_startBody_9 rfl rfl ?_
    refine gf_X7_24 (pc := 10) F dX7_startBody_10 (v_0 (by omega)) ?_
    refine x_aload_n (i := 0) (pc := 13) F dX7_startBody_13 rfl rfl ?_
    refine gf_X7_304 (pc := 14) F dX7_startBody_14 (v_0 (by omega)) ?_
    refine x_iload_n (i := 1) (pc := 17) F dX7_startBody_17 rfl rfl ?_
    refine tq_ias (pc := 18) F dX7_startBody_18 (v_18 (by omega)) rfl (fun _ => rfl) (by omega) ?_
    refine x_aload_n (i := 0) (pc := 19) F dX7_startBody_19 rfl rfl ?_
    refine x_dup (pc := 20) F dX7_startBody_20 rfl ?_
    refine gf_X7_304 (pc := 21) F dX7_startBody_21 (v_0 (by omega)) ?_
    rw [show upM μ (18, 0, 0) (μ (0, 0, 0) 8) b (0, 0, 0) 8 = μ (0, 0, 0) 8 from by rw [upM_ne (by simp)]]
    refine x_iconst (pc := 24) F dX7_startBody_24 ?_
    refine x_iadd (pc := 25) F dX7_startBody_25 ?_
    refine pf_X7_304 (pc := 26) F dX7_startBody_26 (v_0 (by omega)) ?_
    refine tq_retv (pc := 29) F dX7_startBody_29 ?_ rfl rfl rfl
    exact ⟨BT_push hL, fun k hk => by rw [upM_i, if_neg hk, upM_ne (by simp)], fun o a b => by rw [upM_ne a, upM_ne b]⟩
/-- comer c of now, as acts see it -/
def AC (μ : Me) (c num v kd : Int) : Prop := (0 ≤ c ∧ c < 6) ∧ (0 ≤ kd ∧ kd ≤ 6) ∧ μ (4, 0, c) 0 = num ∧ μ (4, 0, c) 1 = kd ∧ μ (4, 0, c) 2 = v
theorem AC.fr {μ' : Me} (h : AC μ c num v kd) (f : FRa μ μ') : AC μ' c num v kd := by
  obtain ⟨h0, h1, h2, h3, h4⟩ := h
  have e := f.2 (4, 0, c) (by simp) (by simp)
  exact ⟨h0, h1, by rw [e]; exact h2, by rw [e]; exact h3, by rw [e]; exact h4⟩
set_option maxRecDepth 20000 in
theorem c_walks0 (fr x dp : Int) (hf : fr = 0 ∨ fr = 1 ∨ fr = 3) (hd : 0 ≤ dp ∧ dp ≤ 16) (hC : AC μ c num v kd) (hL : BT μ L) (hl : L.length < 20) (l : Launch) (E : Ev) (A : Nat → Prop) : Con l E 2 m_X7_walks A (VC nh) ad μ [.ref (ad (0, 0, 0)), .ref (ad (4, 0, c)), .int (I fr), .int (I x), .int (I dp)] (pi fun z μ' => z = wkF num v fr x ∧ BT μ' (L ++ wkL fr) ∧ FRa μ μ') := by
  obtain ⟨hc0, hkd, e0, e1, e2⟩ := id hC
  refine con (own := RX7) (by decide +kernel) rfl rfl rfl (fun Γ F => ?_)
  refine x_iload (i := 4) (pc := 0) F dX7_walks_0 rfl ?_
  refine x_bipush (pc := 2) F dX7_walks_2 (by decide) ?_
  refine x_icmp_le (tgt := 9) (pc := 4) F dX7_walks_4 rfl (by omega) (fun h4 => ?_) (fun h4 => ?_)
  · refine x_iload_n (i := 2) (pc := 9) F dX7_walks_9 rfl rfl ?_
    refine x_tab (ts := [44, 106, 64, 44, 83]) (dt := 106) (pc := 10) F dX7_walks_10 rfl rfl (by omega) ⟨fun h10 => ?_, fun h10 => ?_, fun h10 => ?_, fun h10 => ?_, fun h10 => ?_, trivial⟩ (fun h10 => ?_)
    · exfalso; omega
    · refine x_aload_n (i := 0) (pc := 106) F dX7_walks_106 rfl rfl ?_
      refine x_bipush (pc := 107) F dX7_walks_107 (by decide) ?_
      refine x_V1v (ci := 7) (pc := 109) F dX7_walks_109 lk_X7_316 rfl (v_0 (by omega)) rfl rfl (c_X7_startBody 10 hL (by omega)) rfl rfl rfl ?_
      rintro μ1 ⟨b1, b2⟩
      refine x_iload_n (i := 3) (pc := 112) F dX7_walks_112 rfl rfl ?_
      refine x_aload_n (i := 1) (pc := 113) F dX7_walks_113 rfl rfl ?_
      refine gf_X7_269 (pc := 114) F dX7_walks_114 (v_4 (by omega)) ?_
      rw [(hC.fr b2).2.2.1]
      refine x_iadd (pc := 117) F dX7_walks_117 ?_
      refine tq_reti (pc := 118) F dX7_walks_118 ?_ rfl rfl rfl
      refine ⟨?_, ?_, b2⟩
      · unfold wkF; rw [if_neg (by omega), if_neg (by omega), if_neg (by omega)]
      · unfold wkL; rw [if_neg (by omega), if_neg (by omega), if_neg (by omega)]; exact b1
    · exfalso; omega
    · exfalso; omega
    · exfalso; omega
    · refine x_aload_n (i := 0) (pc := 106) F dX7_walks_106 rfl rfl ?_
      refine x_bipush (pc := 107) F dX7_walks_107 (by decide) ?_
      refine x_V1v (ci := 7) (pc := 109) F dX7_walks_109 lk_X7_316 rfl (v_0 (by omega)) rfl rfl (c_X7_startBody 10 hL (by omega)) rfl rfl rfl ?_
      rintro μ1 ⟨b1, b2⟩
      refine x_iload_n (i := 3) (pc := 112) F dX7_walks_112 rfl rfl ?_
      refine x_aload_n (i := 1) (pc := 113) F dX7_walks_113 rfl rfl ?_
      refine gf_X7_269 (pc := 114) F dX7_walks_114 (v_4 (by omega)) ?_
      rw [(hC.fr b2).2.2.1]
      refine x_iadd (pc := 117) F dX7_walks_117 ?_
      refine tq_reti (pc := 118) F dX7_walks_118 ?_ rfl rfl rfl
      refine ⟨?_, ?_, b2⟩
      · unfold wkF; rw [if_neg (by omega), if_neg (by omega), if_neg (by omega)]
      · unfold wkL; rw [if_neg (by omega), if_neg (by omega), if_neg (by omega)]; exact b1
  · exfalso; omega
set_option maxRecDepth 20000 in
theorem c_walks (fr x dp : Int) (hf : 0 ≤ fr ∧ fr ≤ 6) (hd : 0 ≤ dp ∧ dp ≤ 15) (hC : AC μ c num v kd) (hL : BT μ L) (hl : L.length < 18) (l : Launch) (E : Ev) (A : Nat → Prop) : Con l E 3 m_X7_walks A (VC nh) ad μ [.ref (ad (0, 0, 0)), .ref (ad (4, 0, c)), .int (I fr), .int (I x), .int (I dp)] (pi fun z μ' => z = wkF num v fr x ∧ BT μ' (L ++ wkL fr) ∧ FRa μ μ') := by
  obtain ⟨hc0, hkd, e0, e1, e2⟩ := id hC
  have hll : ∀ b : Int, (L ++ [b]).length < 20 := fun b => by rw [List.length_append]; simp only [List.length_singleton]; omega
  refine con (own := RX7) (by decide +kernel) rfl rfl rfl (fun Γ F => ?_)
  refine x_iload (i := 4) (pc := 0) F dX7_walks_0 rfl ?_
  refine x_bipush (pc := 2) F dX7_walks_2 (by decide) ?_
  refine x_icmp_le (tgt := 9) (pc := 4) F dX7_walks_4 rfl (by omega) (fun h4 => ?_) (fun h4 => ?_)
  · refine x_iload_n (i := 2) (pc := 9) F dX7_walks_9 rfl rfl ?_
    refine x_tab (ts := [44, 106, 64, 44, 83]) (dt := 106) (pc := 10) F dX7_walks_10 rfl rfl (by omega) ⟨fun h10 => ?_, fun h10 => ?_, fun h10 => ?_, fun h10 => ?_, fun h10 => ?_, trivial⟩ (fun h10 => ?_)
    · refine x_aload_n (i := 0) (pc := 44) F dX7_walks_44 rfl rfl ?_
      refine x_bipush (pc := 45) F dX7_walks_45 (by decide) ?_
      refine x_V1v (ci := 7) (pc := 47) F dX7_walks_47 lk_X7_316 rfl (v_0 (by omega)) rfl rfl (c_X7_startBody 30 hL (by omega)) rfl rfl rfl ?_
      rintro μ1 ⟨b1, b2⟩
      refine x_aload_n (i := 0) (pc := 50) F dX7_walks_50 rfl rfl ?_
      refine x_aload_n (i := 1) (pc := 51) F dX7_walks_51 rfl rfl ?_
      refine x_iconst (pc := 52) F dX7_walks_52 ?_
      refine x_iload_n (i := 3) (pc := 53) F dX7_walks_53 rfl rfl ?_
      refine x_iconst (pc := 54) F dX7_walks_54 ?_
      refine x_imul (pc := 55) F dX7_walks_55 ?_
      refine x_iload (i := 4) (pc := 56) F dX7_walks_56 rfl ?_
      refine x_iconst (pc := 58) F dX7_walks_58 ?_
      refine x_iadd (pc := 59) F dX7_walks_59 ?_
      refine x_V4i (ci := 7) (pc := 60) F dX7_walks_60 lk_X7_307 rfl (v_0 (by omega)) rfl rfl (c_walks0 0 _ _ (Or.inl rfl) (by omega) (hC.fr b2) b1 (hll _)) rfl rfl rfl ?_
      rintro _ μ2 ⟨rfl, b3, b4⟩
      refine tq_reti (pc := 63) F dX7_walks_63 ?_ rfl rfl rfl
      refine ⟨?_, ?_, b2.trans b4⟩
      · unfold wkF; rw [if_neg (by omega), if_neg (by omega), if_neg (by omega), if_pos (by omega)]
      · rw [List.append_assoc] at b3; unfold wkL; rw [if_pos (by omega)]; exact b3
    · refine x_aload_n (i := 0) (pc := 106) F dX7_walks_106 rfl rfl ?_
      refine x_bipush (pc := 107) F dX7_walks_107 (by decide) ?_
      refine x_V1v (ci := 7) (pc := 109) F dX7_walks_109 lk_X7_316 rfl (v_0 (by omega)) rfl rfl (c_X7_startBody 10 hL (by omega)) rfl rfl rfl ?_
      rintro μ1 ⟨b1, b2⟩
      refine x_iload_n (i := 3) (pc := 112) F dX7_walks_112 rfl rfl ?_
      refine x_aload_n (i := 1) (pc := 113) F dX7_walks_113 rfl rfl ?_
      refine gf_X7_269 (pc := 114) F dX7_walks_114 (v_4 (by omega)) ?_
      rw [(hC.fr b2).2.2.1]
      refine x_iadd (pc := 117) F dX7_walks_117 ?_
      refine tq_reti (pc := 118) F dX7_walks_118 ?_ rfl rfl rfl
      refine ⟨?_, ?_, b2⟩
      · unfold wkF; rw [if_neg (by omega), if_neg (by omega), if_neg (by omega)]
      · unfold wkL; rw [if_neg (by omega), if_neg (by omega), if_neg (by omega)]; exact b1
    · refine x_aload_n (i := 0) (pc := 64) F dX7_walks_64 rfl rfl ?_
      refine x_bipush (pc := 65) F dX7_walks_65 (by decide) ?_
      refine x_V1v (ci := 7) (pc := 67) F dX7_walks_67 lk_X7_316 rfl (v_0 (by omega)) rfl rfl (c_X7_startBody 50 hL (by omega)) rfl rfl rfl ?_
      rintro μ1 ⟨b1, b2⟩
      refine x_aload_n (i := 0) (pc := 70) F dX7_walks_70 rfl rfl ?_
      refine x_aload_n (i := 1) (pc := 71) F dX7_walks_71 rfl rfl ?_
      refine x_iconst (pc := 72) F dX7_walks_72 ?_
      refine x_iload_n (i := 3) (pc := 73) F dX7_walks_73 rfl rfl ?_
      refine x_iload (i := 4) (pc := 74) F dX7_walks_74 rfl ?_
      refine x_iconst (pc := 76) F dX7_walks_76 ?_
      refine x_iadd (pc := 77) F dX7_walks_77 ?_
      refine x_V4i (ci := 7) (pc := 78) F dX7_walks_78 lk_X7_307 rfl (v_0 (by omega)) rfl rfl (c_walks0 1 _ _ (Or.inr (Or.inl rfl)) (by omega) (hC.fr b2) b1 (hll _)) rfl rfl rfl ?_
      rintro _ μ2 ⟨rfl, b3, b4⟩
      refine x_ineg (pc := 81) F dX7_walks_81 ?_
      refine tq_reti (pc := 82) F dX7_walks_82 ?_ rfl rfl rfl
      refine ⟨?_, ?_, b2.trans b4⟩
      · unfold wkF; rw [if_neg (by omega), if_neg (by omega), if_neg (by omega), if_neg (by omega), if_pos (by omega)]
      · rw [List.append_assoc] at b3; unfold wkL; rw [if_neg (by omega), if_pos (by omega)]; exact b3
    · refine x_aload_n (i := 0) (pc := 44) F dX7_walks_44 rfl rfl ?_
      refine x_bipush (pc := 45) F dX7_walks_45 (by decide) ?_
      refine x_V1v (ci := 7) (pc := 47) F dX7_walks_47 lk_X7_316 rfl (v_0 (by omega)) rfl rfl (c_X7_startBody 30 hL (by omega)) rfl rfl rfl ?_
      rintro μ1 ⟨b1, b2⟩
      refine x_aload_n (i := 0) (pc := 50) F dX7_walks_50 rfl rfl ?_
      refine x_aload_n (i := 1) (pc := 51) F dX7_walks_51 rfl rfl ?_
      refine x_iconst (pc := 52) F dX7_walks_52 ?_
      refine x_iload_n (i := 3) (pc := 53) F dX7_walks_53 rfl rfl ?_
      refine x_iconst (pc := 54) F dX7_walks_54 ?_
      refine x_imul (pc := 55) F dX7_walks_55 ?_
      refine x_iload (i := 4) (pc := 56) F dX7_walks_56 rfl ?_
      refine x_iconst (pc := 58) F dX7_walks_58 ?_
      refine x_iadd (pc := 59) F dX7_walks_59 ?_
      refine x_V4i (ci := 7) (pc := 60) F dX7_walks_60 lk_X7_307 rfl (v_0 (by omega)) rfl rfl (c_walks0 0 _ _ (Or.inl rfl) (by omega) (hC.fr b2) b1 (hll _)) rfl rfl rfl ?_
      rintro _ μ2 ⟨rfl, b3, b4⟩
      refine tq_reti (pc := 63) F dX7_walks_63 ?_ rfl rfl rfl
      refine ⟨?_, ?_, b2.trans b4⟩
      · unfold wkF; rw [if_neg (by omega), if_neg (by omega), if_neg (by omega), if_pos (by omega)]
      · rw [List.append_assoc] at b3; unfold wkL; rw [if_pos (by omega)]; exact b3
    · refine x_aload_n (i := 0) (pc := 83) F dX7_walks_83 rfl rfl ?_
      refine x_bipush (pc := 84) F dX7_walks_84 (by decide) ?_
      refine x_V1v (ci := 7) (pc := 86) F dX7_walks_86 lk_X7_316 rfl (v_0 (by omega)) rfl rfl (c_X7_startBody 71 hL (by omega)) rfl rfl rfl ?_
      rintro μ1 ⟨b1, b2⟩
      refine x_aload_n (i := 0) (pc := 89) F dX7_walks_89 rfl rfl ?_
      refine x_aload_n (i := 1) (pc := 90) F dX7_walks_90 rfl rfl ?_
      refine x_iconst (pc := 91) F dX7_walks_91 ?_
      refine x_iload_n (i := 3) (pc := 92) F dX7_walks_92 rfl rfl ?_
      refine x_iload (i := 4) (pc := 93) F dX7_walks_93 rfl ?_
      refine x_iconst (pc := 95) F dX7_walks_95 ?_
      refine x_iadd (pc := 96) F dX7_walks_96 ?_
      refine x_V4i (ci := 7) (pc := 97) F dX7_walks_97 lk_X7_307 rfl (v_0 (by omega)) rfl rfl (c_walks0 3 _ _ (Or.inr (Or.inr rfl)) (by omega) (hC.fr b2) b1 (hll _)) rfl rfl rfl ?_
      rintro _ μ2 ⟨rfl, b3, b4⟩
      refine x_aload_n (i := 1) (pc := 100) F dX7_walks_100 rfl rfl ?_
      refine gf_X7_117 (pc := 101) F dX7_walks_101 (v_4 (by omega)) ?_
      rw [((hC.fr b2).fr b4).2.2.2.2]
      refine tq_ixorR (pc := 104) F dX7_walks_104 trivial ?_
      refine tq_reti (pc := 105) F dX7_walks_105 ?_ rfl rfl rfl
      refine ⟨?_, ?_, b2.trans b4⟩
      · unfold wkF; rw [if_neg (by omega), if_neg (by omega), if_neg (by omega), if_neg (by omega), if_neg (by omega), if_pos (by omega)]
      · rw [List.append_assoc] at b3; unfold wkL; rw [if_neg (by omega), if_neg (by omega), if_pos (by omega)]; exact b3
    · refine x_aload_n (i := 0) (pc := 106) F dX7_walks_106 rfl rfl ?_
      refine x_bipush (pc := 107) F dX7_walks_107 (by decide) ?_
      refine x_V1v (ci := 7) (pc := 109) F dX7_walks_109 lk_X7_316 rfl (v_0 (by omega)) rfl rfl (c_X7_startBody 10 hL (by omega)) rfl rfl rfl ?_
      rintro μ1 ⟨b1, b2⟩
      refine x_iload_n (i := 3) (pc := 112) F dX7_walks_112 rfl rfl ?_
      refine x_aload_n (i := 1) (pc := 113) F dX7_walks_113 rfl rfl ?_
      refine gf_X7_269 (pc := 114) F dX7_walks_114 (v_4 (by omega)) ?_
      rw [(hC.fr b2).2.2.1]
      refine x_iadd (pc := 117) F dX7_walks_117 ?_
      refine tq_reti (pc := 118) F dX7_walks_118 ?_ rfl rfl rfl
      refine ⟨?_, ?_, b2⟩
      · unfold wkF; rw [if_neg (by omega), if_neg (by omega), if_neg (by omega)]
      · unfold wkL; rw [if_neg (by omega), if_neg (by omega), if_neg (by omega)]; exact b1
  · exfalso; omega
set_option maxRecDepth 20000 in
theorem c_knocks0 (fr x dp : Int) (hf : fr = 0 ∨ fr = 2 ∨ fr = 3 ∨ fr = 5) (hd : 0 ≤ dp ∧ dp ≤ 14) (hC : AC μ c num v kd) (hL : BT μ L) (hl : L.length < 17) (l : Launch) (E : Ev) (A : Nat → Prop) : Con l E 4 m_X7_knocks A (VC nh) ad μ [.ref (ad (0, 0, 0)), .ref (ad (4, 0, c)), .int (I fr), .int (I x), .int (I dp)] (pi fun z μ' => z = kn0 num v kd x ∧ BT μ' (L ++ 11 :: wkL kd) ∧ FRa μ μ') := by
  obtain ⟨hc0, hkd, e0, e1, e2⟩ := id hC
  have hll : ∀ b : Int, (L ++ [b]).length < 18 := fun b => by rw [List.length_append]; simp only [List.length_singleton]; omega
  refine con (own := RX7) (by decide +kernel) rfl rfl rfl (fun Γ F => ?_)
  refine x_iload (i := 4) (pc := 0) F dX7_knocks_0 rfl ?_
  refine x_bipush (pc := 2) F dX7_knocks_2 (by decide) ?_
  refine x_icmp_le (tgt := 9) (pc := 4) F dX7_knocks_4 rfl (by omega) (fun h4 => ?_) (fun h4 => ?_)
  · refine x_iload_n (i := 2) (pc := 9) F dX7_knocks_9 rfl rfl ?_
    refine x_lsw (ts := [44, 65, 85]) (dt := 119) (pc := 10) F dX7_knocks_10 (by decide) ⟨rfl, rfl, rfl, trivial⟩ rfl (by omega) ⟨fun h10 => ?_, fun h10 => ?_, fun h10 => ?_, trivial⟩ (fun h10 => ?_)
    · have _hh := h10
      exfalso; simp only [] at _hh; omega
    · have _hh := h10
      exfalso; simp only [] at _hh; omega
    · have _hh := h10
      exfalso; simp only [] at _hh; omega
    · simp only [lsN] at h10
      refine x_aload_n (i := 0) (pc := 119) F dX7_knocks_119 rfl rfl ?_
      refine x_bipush (pc := 120) F dX7_knocks_120 (by decide) ?_
      refine x_V1v (ci := 7) (pc := 122) F dX7_knocks_122 lk_X7_316 rfl (v_0 (by omega)) rfl rfl (c_X7_startBody 11 hL (by omega)) rfl rfl rfl ?_
      rintro μ1 ⟨b1, b2⟩
      refine x_aload_n (i := 0) (pc := 125) F dX7_knocks_125 rfl rfl ?_
      refine x_aload_n (i := 1) (pc := 126) F dX7_knocks_126 rfl rfl ?_
      refine x_aload_n (i := 1) (pc := 127) F dX7_knocks_127 rfl rfl ?_
      refine gf_X7_114 (pc := 128) F dX7_knocks_128 (v_4 (by omega)) ?_
      rw [(hC.fr b2).2.2.2.1]
      refine x_iload_n (i := 3) (pc := 131) F dX7_knocks_131 rfl rfl ?_
      refine x_iload (i := 4) (pc := 132) F dX7_knocks_132 rfl ?_
      refine x_iconst (pc := 134) F dX7_knocks_134 ?_
      refine x_iadd (pc := 135) F dX7_knocks_135 ?_
      refine x_V4i (ci := 7) (pc := 136) F dX7_knocks_136 lk_X7_307 rfl (v_0 (by omega)) rfl rfl (c_walks kd _ _ hkd (by omega) (hC.fr b2) b1 (hll _)) rfl rfl rfl ?_
      rintro _ μ2 ⟨rfl, b3, b4⟩
      refine x_aload_n (i := 1) (pc := 139) F dX7_knocks_139 rfl rfl ?_
      refine gf_X7_117 (pc := 140) F dX7_knocks_140 (v_4 (by omega)) ?_
      rw [((hC.fr b2).fr b4).2.2.2.2]
      refine x_isub (pc := 143) F dX7_knocks_143 ?_
      refine tq_reti (pc := 144) F dX7_knocks_144 ?_ rfl rfl rfl
      exact ⟨rfl, by rw [List.append_assoc] at b3; exact b3, b2.trans b4⟩
  · exfalso; omega
set_option maxRecDepth 20000 in
theorem c_knocks1 (x dp : Int) (hd : 0 ≤ dp ∧ dp ≤ 13) (hC : AC μ c num v kd) (hL : BT μ L) (hl : L.length < 16) (l : Launch) (E : Ev) (A : Nat → Prop) : Con l E 5 m_X7_knocks A (VC nh) ad μ [.ref (ad (0, 0, 0)), .ref (ad (4, 0, c)), .int (I 1), .int (I x), .int (I dp)] (pi fun z μ' => z = ix (kn0 num v kd x) 6 ∧ BT μ' (L ++ 20 :: 11 :: wkL kd) ∧ FRa μ μ') := by
  obtain ⟨hc0, hkd, e0, e1, e2⟩ := id hC
  have hll : ∀ b : Int, (L ++ [b]).length < 17 := fun b => by rw [List.length_append]; simp only [List.length_singleton]; omega
  refine con (own := RX7) (by decide +kernel) rfl rfl rfl (fun Γ F => ?_)
  refine x_iload (i := 4) (pc := 0) F dX7_knocks_0 rfl ?_
  refine x_bipush (pc := 2) F dX7_knocks_2 (by decide) ?_
  refine x_icmp_le (tgt := 9) (pc := 4) F dX7_knocks_4 rfl (by omega) (fun h4 => ?_) (fun h4 => ?_)
  · refine x_iload_n (i := 2) (pc := 9) F dX7_knocks_9 rfl rfl ?_
    refine x_lsw (ts := [44, 65, 85]) (dt := 119) (pc := 10) F dX7_knocks_10 (by decide) ⟨rfl, rfl, rfl, trivial⟩ rfl (by omega) ⟨fun h10 => ?_, fun h10 => ?_, fun h10 => ?_, trivial⟩ (fun h10 => ?_)
    · have _hh := h10
      refine x_aload_n (i := 0) (pc := 44) F dX7_knocks_44 rfl rfl ?_
      refine x_bipush (pc := 45) F dX7_knocks_45 (by decide) ?_
      refine x_V1v (ci := 7) (pc := 47) F dX7_knocks_47 lk_X7_316 rfl (v_0 (by omega)) rfl rfl (c_X7_startBody 20 hL (by omega)) rfl rfl rfl ?_
      rintro μ1 ⟨b1, b2⟩
      refine x_aload_n (i := 0) (pc := 50) F dX7_knocks_50 rfl rfl ?_
      refine x_aload_n (i := 1) (pc := 51) F dX7_knocks_51 rfl rfl ?_
      refine x_iconst (pc := 52) F dX7_knocks_52 ?_
      refine x_iload_n (i := 3) (pc := 53) F dX7_knocks_53 rfl rfl ?_
      refine x_iload (i := 4) (pc := 54) F dX7_knocks_54 rfl ?_
      refine x_iconst (pc := 56) F dX7_knocks_56 ?_
      refine x_iadd (pc := 57) F dX7_knocks_57 ?_
      refine x_V4i (ci := 7) (pc := 58) F dX7_knocks_58 lk_X7_310 rfl (v_0 (by omega)) rfl rfl (c_knocks0 0 _ _ (Or.inl rfl) (by omega) (hC.fr b2) b1 (hll _)) rfl rfl rfl ?_
      rintro _ μ2 ⟨rfl, b3, b4⟩
      refine x_bipush (pc := 61) F dX7_knocks_61 (by decide) ?_
      refine tq_ixorR (pc := 63) F dX7_knocks_63 trivial ?_
      refine tq_reti (pc := 64) F dX7_knocks_64 ?_ rfl rfl rfl
      exact ⟨rfl, by rw [List.append_assoc] at b3; exact b3, b2.trans b4⟩
    · have _hh := h10
      exfalso; simp only [] at _hh; omega
    · have _hh := h10
      exfalso; simp only [] at _hh; omega
    · simp only [lsN] at h10
      exfalso; omega
  · exfalso; omega
set_option maxRecDepth 20000 in
theorem c_knocks (fr x dp : Int) (hf : 0 ≤ fr ∧ fr ≤ 6) (hd : 0 ≤ dp ∧ dp ≤ 12) (hC : AC μ c num v kd) (hL : BT μ L) (hl : L.length < 14) (l : Launch) (E : Ev) (A : Nat → Prop) : Con l E 6 m_X7_knocks A (VC nh) ad μ [.ref (ad (0, 0, 0)), .ref (ad (4, 0, c)), .int (I fr), .int (I x), .int (I dp)] (pi fun z μ' => z = knF num v kd fr x ∧ BT μ' (L ++ knL kd fr) ∧ FRa μ μ') := by
  obtain ⟨hc0, hkd, e0, e1, e2⟩ := id hC
  have hll : ∀ b : Int, (L ++ [b]).length < 16 := fun b => by rw [List.length_append]; simp only [List.length_singleton]; omega
  have hw2 := wkL_len kd
  refine con (own := RX7) (by decide +kernel) rfl rfl rfl (fun Γ F => ?_)
  refine x_iload (i := 4) (pc := 0) F dX7_knocks_0 rfl ?_
  refine x_bipush (pc := 2) F dX7_knocks_2 (by decide) ?_
  refine x_icmp_le (tgt := 9) (pc := 4) F dX7_knocks_4 rfl (by omega) (fun h4 => ?_) (fun h4 => ?_)
  · refine x_iload_n (i := 2) (pc := 9) F dX7_knocks_9 rfl rfl ?_
    refine x_lsw (ts := [44, 65, 85]) (dt := 119) (pc := 10) F dX7_knocks_10 (by decide) ⟨rfl, rfl, rfl, trivial⟩ rfl (by omega) ⟨fun h10 => ?_, fun h10 => ?_, fun h10 => ?_, trivial⟩ (fun h10 => ?_)
    · have _hh := h10
      simp only [] at _hh
      refine x_aload_n (i := 0) (pc := 44) F dX7_knocks_44 rfl rfl ?_
      refine x_bipush (pc := 45) F dX7_knocks_45 (by decide) ?_
      refine x_V1v (ci := 7) (pc := 47) F dX7_knocks_47 lk_X7_316 rfl (v_0 (by omega)) rfl rfl (c_X7_startBody 20 hL (by omega)) rfl rfl rfl ?_
      rintro μ1 ⟨b1, b2⟩
      refine x_aload_n (i := 0) (pc := 50) F dX7_knocks_50 rfl rfl ?_
      refine x_aload_n (i := 1) (pc := 51) F dX7_knocks_51 rfl rfl ?_
      refine x_iconst (pc := 52) F dX7_knocks_52 ?_
      refine x_iload_n (i := 3) (pc := 53) F dX7_knocks_53 rfl rfl ?_
      refine x_iload (i := 4) (pc := 54) F dX7_knocks_54 rfl ?_
      refine x_iconst (pc := 56) F dX7_knocks_56 ?_
      refine x_iadd (pc := 57) F dX7_knocks_57 ?_
      refine x_V4i (ci := 7) (pc := 58) F dX7_knocks_58 lk_X7_310 rfl (v_0 (by omega)) rfl rfl (c_knocks0 0 _ _ (Or.inl rfl) (by omega) (hC.fr b2) b1 (Nat.lt_of_lt_of_le (hll _) (by decide))) rfl rfl rfl ?_
      rintro _ μ2 ⟨rfl, b3, b4⟩
      refine x_bipush (pc := 61) F dX7_knocks_61 (by decide) ?_
      refine tq_ixorR (pc := 63) F dX7_knocks_63 trivial ?_
      refine tq_reti (pc := 64) F dX7_knocks_64 ?_ rfl rfl rfl
      exact ⟨by unfold knF; rw [if_pos (by omega)], by rw [List.append_assoc] at b3; unfold knL; rw [if_pos (by omega)]; exact b3, b2.trans b4⟩
    · have _hh := h10
      simp only [] at _hh
      refine x_aload_n (i := 0) (pc := 65) F dX7_knocks_65 rfl rfl ?_
      refine x_bipush (pc := 66) F dX7_knocks_66 (by decide) ?_
      refine x_V1v (ci := 7) (pc := 68) F dX7_knocks_68 lk_X7_316 rfl (v_0 (by omega)) rfl rfl (c_X7_startBody 51 hL (by omega)) rfl rfl rfl ?_
      rintro μ1 ⟨b1, b2⟩
      refine x_aload_n (i := 0) (pc := 71) F dX7_knocks_71 rfl rfl ?_
      refine x_aload_n (i := 1) (pc := 72) F dX7_knocks_72 rfl rfl ?_
      refine x_iconst (pc := 73) F dX7_knocks_73 ?_
      refine x_iload_n (i := 3) (pc := 74) F dX7_knocks_74 rfl rfl ?_
      refine x_iconst (pc := 75) F dX7_knocks_75 ?_
      refine x_iadd (pc := 76) F dX7_knocks_76 ?_
      refine x_iload (i := 4) (pc := 77) F dX7_knocks_77 rfl ?_
      refine x_iconst (pc := 79) F dX7_knocks_79 ?_
      refine x_iadd (pc := 80) F dX7_knocks_80 ?_
      refine x_V4i (ci := 7) (pc := 81) F dX7_knocks_81 lk_X7_310 rfl (v_0 (by omega)) rfl rfl (c_knocks1 _ _ (by omega) (hC.fr b2) b1 (hll _)) rfl rfl rfl ?_
      rintro _ μ2 ⟨rfl, b3, b4⟩
      refine tq_reti (pc := 84) F dX7_knocks_84 ?_ rfl rfl rfl
      exact ⟨by unfold knF; rw [if_neg (by omega), if_pos (by omega)], by rw [List.append_assoc] at b3; unfold knL; rw [if_neg (by omega), if_pos (by omega)]; exact b3, b2.trans b4⟩
    · have _hh := h10
      simp only [] at _hh
      refine x_aload_n (i := 0) (pc := 85) F dX7_knocks_85 rfl rfl ?_
      refine x_bipush (pc := 86) F dX7_knocks_86 (by decide) ?_
      refine x_V1v (ci := 7) (pc := 88) F dX7_knocks_88 lk_X7_316 rfl (v_0 (by omega)) rfl rfl (c_X7_startBody 70 hL (by omega)) rfl rfl rfl ?_
      rintro μ1 ⟨b1, b2⟩
      refine x_aload_n (i := 0) (pc := 91) F dX7_knocks_91 rfl rfl ?_
      refine x_aload_n (i := 1) (pc := 92) F dX7_knocks_92 rfl rfl ?_
      refine x_iconst (pc := 93) F dX7_knocks_93 ?_
      refine x_iload_n (i := 3) (pc := 94) F dX7_knocks_94 rfl rfl ?_
      refine x_iload (i := 4) (pc := 95) F dX7_knocks_95 rfl ?_
      refine x_iconst (pc := 97) F dX7_knocks_97 ?_
      refine x_iadd (pc := 98) F dX7_knocks_98 ?_
      refine x_V4i (ci := 7) (pc := 99) F dX7_knocks_99 lk_X7_310 rfl (v_0 (by omega)) rfl rfl (c_knocks0 3 _ _ (Or.inr (Or.inr (Or.inl rfl))) (by omega) (hC.fr b2) b1 (Nat.lt_of_lt_of_le (hll _) (by decide))) rfl rfl rfl ?_
      rintro _ μ2 ⟨rfl, b3, b4⟩
      refine x_istore (i := 5) (pc := 102) F dX7_knocks_102 rfl ?_
      refine x_iload (i := 5) (pc := 104) F dX7_knocks_104 rfl ?_
      refine x_aload_n (i := 0) (pc := 106) F dX7_knocks_106 rfl rfl ?_
      refine x_aload_n (i := 1) (pc := 107) F dX7_knocks_107 rfl rfl ?_
      refine x_iconst (pc := 108) F dX7_knocks_108 ?_
      refine x_iconst (pc := 109) F dX7_knocks_109 ?_
      refine x_iload (i := 4) (pc := 110) F dX7_knocks_110 rfl ?_
      refine x_iconst (pc := 112) F dX7_knocks_112 ?_
      refine x_iadd (pc := 113) F dX7_knocks_113 ?_
      refine x_V4i (ci := 7) (pc := 114) F dX7_knocks_114 lk_X7_307 rfl (v_0 (by omega)) rfl rfl (c_walks 3 _ _ (by decide) (by omega) ((hC.fr b2).fr b4) b3 (by have := hll 70; simp only [List.length_append, List.length_cons, List.length_nil] at *; omega)) rfl rfl rfl ?_
      rintro _ μ3 ⟨rfl, b5, b6⟩
      refine x_iadd (pc := 117) F dX7_knocks_117 ?_
      refine tq_reti (pc := 118) F dX7_knocks_118 ?_ rfl rfl rfl
      exact ⟨by unfold knF; rw [if_neg (by omega), if_neg (by omega), if_pos (by omega)], by simp only [List.append_assoc, List.cons_append, List.nil_append] at b5; unfold knL; rw [if_neg (by omega), if_neg (by omega), if_pos (by omega)]; exact b5, (b2.trans b4).trans b6⟩
    · simp only [lsN] at h10
      refine x_aload_n (i := 0) (pc := 119) F dX7_knocks_119 rfl rfl ?_
      refine x_bipush (pc := 120) F dX7_knocks_120 (by decide) ?_
      refine x_V1v (ci := 7) (pc := 122) F dX7_knocks_122 lk_X7_316 rfl (v_0 (by omega)) rfl rfl (c_X7_startBody 11 hL (by omega)) rfl rfl rfl ?_
      rintro μ1 ⟨b1, b2⟩
      refine x_aload_n (i := 0) (pc := 125) F dX7_knocks_125 rfl rfl ?_
      refine x_aload_n (i := 1) (pc := 126) F dX7_knocks_126 rfl rfl ?_
      refine x_aload_n (i := 1) (pc := 127) F dX7_knocks_127 rfl rfl ?_
      refine gf_X7_114 (pc := 128) F dX7_knocks_128 (v_4 (by omega)) ?_
      rw [(hC.fr b2).2.2.2.1]
      refine x_iload_n (i := 3) (pc := 131) F dX7_knocks_131 rfl rfl ?_
      refine x_iload (i := 4) (pc := 132) F dX7_knocks_132 rfl ?_
      refine x_iconst (pc := 134) F dX7_knocks_134 ?_
      refine x_iadd (pc := 135) F dX7_knocks_135 ?_
      refine x_V4i (ci := 7) (pc := 136) F dX7_knocks_136 lk_X7_307 rfl (v_0 (by omega)) rfl rfl (c_walks kd _ _ hkd (by omega) (hC.fr b2) b1 (Nat.lt_of_lt_of_le (hll _) (by decide))) rfl rfl rfl ?_
      rintro _ μ2 ⟨rfl, b3, b4⟩
      refine x_aload_n (i := 1) (pc := 139) F dX7_knocks_139 rfl rfl ?_
      refine gf_X7_117 (pc := 140) F dX7_knocks_140 (v_4 (by omega)) ?_
      rw [((hC.fr b2).fr b4).2.2.2.2]
      refine x_isub (pc := 143) F dX7_knocks_143 ?_
      refine tq_reti (pc := 144) F dX7_knocks_144 ?_ rfl rfl rfl
      exact ⟨by unfold knF; rw [if_neg (by omega), if_neg (by omega), if_neg (by omega)]; rfl, by rw [List.append_assoc] at b3; unfold knL; rw [if_neg (by omega), if_neg (by omega), if_neg (by omega)]; exact b3, b2.trans b4⟩
  · exfalso; omega
set_option maxRecDepth 20000 in
theorem c_tells0 (fr x dp : Int) (hf : fr = 0 ∨ fr = 1 ∨ fr = 2 ∨ fr = 4) (hd : 0 ≤ dp ∧ dp ≤ 11) (hC : AC μ c num v kd) (hL : BT μ L) (hl : L.length < 13) (l : Launch) (E : Ev) (A : Nat → Prop) : Con l E 7 m_X7_tells A (VC nh) ad μ [.ref (ad (0, 0, 0)), .ref (ad (4, 0, c)), .int (I fr), .int (I x), .int (I dp)] (pi fun z μ' => z = te0 num v kd x ∧ BT μ' (L ++ 12 :: knL kd kd) ∧ FRa μ μ') := by
  obtain ⟨hc0, hkd, e0, e1, e2⟩ := id hC
  have hll : ∀ b : Int, (L ++ [b]).length < 14 := fun b => by rw [List.length_append]; simp only [List.length_singleton]; omega
  refine con (own := RX7) (by decide +kernel) rfl rfl rfl (fun Γ F => ?_)
  refine x_iload (i := 4) (pc := 0) F dX7_tells_0 rfl ?_
  refine x_bipush (pc := 2) F dX7_tells_2 (by decide) ?_
  refine x_icmp_le (tgt := 9) (pc := 4) F dX7_tells_4 rfl (by omega) (fun h4 => ?_) (fun h4 => ?_)
  · refine x_iload_n (i := 2) (pc := 9) F dX7_tells_9 rfl rfl ?_
    refine x_tab (ts := [40, 100, 77, 40]) (dt := 100) (pc := 10) F dX7_tells_10 rfl rfl (by omega) ⟨fun h10 => ?_, fun h10 => ?_, fun h10 => ?_, fun h10 => ?_, trivial⟩ (fun h10 => ?_)
    · exfalso; omega
    · refine x_aload_n (i := 0) (pc := 100) F dX7_tells_100 rfl rfl ?_
      refine x_bipush (pc := 101) F dX7_tells_101 (by decide) ?_
      refine x_V1v (ci := 7) (pc := 103) F dX7_tells_103 lk_X7_316 rfl (v_0 (by omega)) rfl rfl (c_X7_startBody 12 hL (by omega)) rfl rfl rfl ?_
      rintro μ1 ⟨b1, b2⟩
      refine x_aload_n (i := 0) (pc := 106) F dX7_tells_106 rfl rfl ?_
      refine x_aload_n (i := 1) (pc := 107) F dX7_tells_107 rfl rfl ?_
      refine x_aload_n (i := 1) (pc := 108) F dX7_tells_108 rfl rfl ?_
      refine gf_X7_114 (pc := 109) F dX7_tells_109 (v_4 (by omega)) ?_
      rw [(hC.fr b2).2.2.2.1]
      refine x_iload_n (i := 3) (pc := 112) F dX7_tells_112 rfl rfl ?_
      refine x_iload (i := 4) (pc := 113) F dX7_tells_113 rfl ?_
      refine x_iconst (pc := 115) F dX7_tells_115 ?_
      refine x_iadd (pc := 116) F dX7_tells_116 ?_
      refine x_V4i (ci := 7) (pc := 117) F dX7_tells_117 lk_X7_310 rfl (v_0 (by omega)) rfl rfl (c_knocks kd _ _ hkd (by omega) (hC.fr b2) b1 (hll _)) rfl rfl rfl ?_
      rintro _ μ2 ⟨rfl, b3, b4⟩
      refine x_iconst (pc := 120) F dX7_tells_120 ?_
      refine x_imul (pc := 121) F dX7_tells_121 ?_
      refine tq_reti (pc := 122) F dX7_tells_122 ?_ rfl rfl rfl
      exact ⟨rfl, by rw [List.append_assoc] at b3; exact b3, b2.trans b4⟩
    · exfalso; omega
    · exfalso; omega
    · refine x_aload_n (i := 0) (pc := 100) F dX7_tells_100 rfl rfl ?_
      refine x_bipush (pc := 101) F dX7_tells_101 (by decide) ?_
      refine x_V1v (ci := 7) (pc := 103) F dX7_tells_103 lk_X7_316 rfl (v_0 (by omega)) rfl rfl (c_X7_startBody 12 hL (by omega)) rfl rfl rfl ?_
      rintro μ1 ⟨b1, b2⟩
      refine x_aload_n (i := 0) (pc := 106) F dX7_tells_106 rfl rfl ?_
      refine x_aload_n (i := 1) (pc := 107) F dX7_tells_107 rfl rfl ?_
      refine x_aload_n (i := 1) (pc := 108) F dX7_tells_108 rfl rfl ?_
      refine gf_X7_114 (pc := 109) F dX7_tells_109 (v_4 (by omega)) ?_
      rw [(hC.fr b2).2.2.2.1]
      refine x_iload_n (i := 3) (pc := 112) F dX7_tells_112 rfl rfl ?_
      refine x_iload (i := 4) (pc := 113) F dX7_tells_113 rfl ?_
      refine x_iconst (pc := 115) F dX7_tells_115 ?_
      refine x_iadd (pc := 116) F dX7_tells_116 ?_
      refine x_V4i (ci := 7) (pc := 117) F dX7_tells_117 lk_X7_310 rfl (v_0 (by omega)) rfl rfl (c_knocks kd _ _ hkd (by omega) (hC.fr b2) b1 (hll _)) rfl rfl rfl ?_
      rintro _ μ2 ⟨rfl, b3, b4⟩
      refine x_iconst (pc := 120) F dX7_tells_120 ?_
      refine x_imul (pc := 121) F dX7_tells_121 ?_
      refine tq_reti (pc := 122) F dX7_tells_122 ?_ rfl rfl rfl
      exact ⟨rfl, by rw [List.append_assoc] at b3; exact b3, b2.trans b4⟩
  · exfalso; omega
set_option maxRecDepth 20000 in
theorem c_tells (fr x dp : Int) (hf : 0 ≤ fr ∧ fr ≤ 6) (hd : 0 ≤ dp ∧ dp ≤ 10) (hC : AC μ c num v kd) (hL : BT μ L) (hl : L.length < 6) (l : Launch) (E : Ev) (A : Nat → Prop) : Con l E 8 m_X7_tells A (VC nh) ad μ [.ref (ad (0, 0, 0)), .ref (ad (4, 0, c)), .int (I fr), .int (I x), .int (I dp)] (pi fun z μ' => z = teF num v kd fr x ∧ BT μ' (L ++ teLs kd fr) ∧ FRa μ μ') := by
  obtain ⟨hc0, hkd, e0, e1, e2⟩ := id hC
  have hll : ∀ b : Int, (L ++ [b]).length < 7 := fun b => by rw [List.length_append]; simp only [List.length_singleton]; omega
  have hw2 := knL_len kd kd
  refine con (own := RX7) (by decide +kernel) rfl rfl rfl (fun Γ F => ?_)
  refine x_iload (i := 4) (pc := 0) F dX7_tells_0 rfl ?_
  refine x_bipush (pc := 2) F dX7_tells_2 (by decide) ?_
  refine x_icmp_le (tgt := 9) (pc := 4) F dX7_tells_4 rfl (by omega) (fun h4 => ?_) (fun h4 => ?_)
  · refine x_iload_n (i := 2) (pc := 9) F dX7_tells_9 rfl rfl ?_
    refine x_tab (ts := [40, 100, 77, 40]) (dt := 100) (pc := 10) F dX7_tells_10 rfl rfl (by omega) ⟨fun h10 => ?_, fun h10 => ?_, fun h10 => ?_, fun h10 => ?_, trivial⟩ (fun h10 => ?_)
    · refine x_aload_n (i := 0) (pc := 40) F dX7_tells_40 rfl rfl ?_
      refine x_bipush (pc := 41) F dX7_tells_41 (by decide) ?_
      refine x_V1v (ci := 7) (pc := 43) F dX7_tells_43 lk_X7_316 rfl (v_0 (by omega)) rfl rfl (c_X7_startBody 40 hL (by omega)) rfl rfl rfl ?_
      rintro μ1 ⟨b1, b2⟩
      refine x_aload_n (i := 0) (pc := 46) F dX7_tells_46 rfl rfl ?_
      refine x_aload_n (i := 1) (pc := 47) F dX7_tells_47 rfl rfl ?_
      refine x_iconst (pc := 48) F dX7_tells_48 ?_
      refine x_iload_n (i := 3) (pc := 49) F dX7_tells_49 rfl rfl ?_
      refine x_iload (i := 4) (pc := 50) F dX7_tells_50 rfl ?_
      refine x_iconst (pc := 52) F dX7_tells_52 ?_
      refine x_iadd (pc := 53) F dX7_tells_53 ?_
      refine x_V4i (ci := 7) (pc := 54) F dX7_tells_54 lk_X7_313 rfl (v_0 (by omega)) rfl rfl (c_tells0 0 _ _ (Or.inl rfl) (by omega) (hC.fr b2) b1 (Nat.lt_of_lt_of_le (hll _) (by decide))) rfl rfl rfl ?_
      rintro _ μ2 ⟨rfl, b3, b4⟩
      refine x_istore (i := 5) (pc := 57) F dX7_tells_57 rfl ?_
      refine x_iload (i := 5) (pc := 59) F dX7_tells_59 rfl ?_
      refine x_aload_n (i := 0) (pc := 61) F dX7_tells_61 rfl rfl ?_
      refine x_aload_n (i := 1) (pc := 62) F dX7_tells_62 rfl rfl ?_
      refine x_aload_n (i := 1) (pc := 63) F dX7_tells_63 rfl rfl ?_
      refine gf_X7_114 (pc := 64) F dX7_tells_64 (v_4 (by omega)) ?_
      rw [((hC.fr b2).fr b4).2.2.2.1]
      refine x_iconst (pc := 67) F dX7_tells_67 ?_
      refine x_iload (i := 4) (pc := 68) F dX7_tells_68 rfl ?_
      refine x_iconst (pc := 70) F dX7_tells_70 ?_
      refine x_iadd (pc := 71) F dX7_tells_71 ?_
      refine x_V4i (ci := 7) (pc := 72) F dX7_tells_72 lk_X7_310 rfl (v_0 (by omega)) rfl rfl (c_knocks kd _ _ hkd (by omega) ((hC.fr b2).fr b4) b3 (by have := hll 40; simp only [List.length_append, List.length_cons, List.length_nil] at *; omega)) rfl rfl rfl ?_
      rintro _ μ3 ⟨rfl, b5, b6⟩
      refine x_iadd (pc := 75) F dX7_tells_75 ?_
      refine tq_reti (pc := 76) F dX7_tells_76 ?_ rfl rfl rfl
      exact ⟨by unfold teF; rw [if_pos (by omega)], by simp only [List.append_assoc, List.cons_append, List.nil_append] at b5; unfold teLs; rw [if_pos (by omega)]; exact b5, (b2.trans b4).trans b6⟩
    · refine x_aload_n (i := 0) (pc := 100) F dX7_tells_100 rfl rfl ?_
      refine x_bipush (pc := 101) F dX7_tells_101 (by decide) ?_
      refine x_V1v (ci := 7) (pc := 103) F dX7_tells_103 lk_X7_316 rfl (v_0 (by omega)) rfl rfl (c_X7_startBody 12 hL (by omega)) rfl rfl rfl ?_
      rintro μ1 ⟨b1, b2⟩
      refine x_aload_n (i := 0) (pc := 106) F dX7_tells_106 rfl rfl ?_
      refine x_aload_n (i := 1) (pc := 107) F dX7_tells_107 rfl rfl ?_
      refine x_aload_n (i := 1) (pc := 108) F dX7_tells_108 rfl rfl ?_
      refine gf_X7_114 (pc := 109) F dX7_tells_109 (v_4 (by omega)) ?_
      rw [(hC.fr b2).2.2.2.1]
      refine x_iload_n (i := 3) (pc := 112) F dX7_tells_112 rfl rfl ?_
      refine x_iload (i := 4) (pc := 113) F dX7_tells_113 rfl ?_
      refine x_iconst (pc := 115) F dX7_tells_115 ?_
      refine x_iadd (pc := 116) F dX7_tells_116 ?_
      refine x_V4i (ci := 7) (pc := 117) F dX7_tells_117 lk_X7_310 rfl (v_0 (by omega)) rfl rfl (c_knocks kd _ _ hkd (by omega) (hC.fr b2) b1 (Nat.lt_of_lt_of_le (hll _) (by decide))) rfl rfl rfl ?_
      rintro _ μ2 ⟨rfl, b3, b4⟩
      refine x_iconst (pc := 120) F dX7_tells_120 ?_
      refine x_imul (pc := 121) F dX7_tells_121 ?_
      refine tq_reti (pc := 122) F dX7_tells_122 ?_ rfl rfl rfl
      exact ⟨by unfold teF; rw [if_neg (by omega), if_neg (by omega)]; rfl, by rw [List.append_assoc] at b3; unfold teLs; rw [if_neg (by omega), if_neg (by omega)]; exact b3, b2.trans b4⟩
    · refine x_aload_n (i := 0) (pc := 77) F dX7_tells_77 rfl rfl ?_
      refine x_bipush (pc := 78) F dX7_tells_78 (by decide) ?_
      refine x_V1v (ci := 7) (pc := 80) F dX7_tells_80 lk_X7_316 rfl (v_0 (by omega)) rfl rfl (c_X7_startBody 60 hL (by omega)) rfl rfl rfl ?_
      rintro μ1 ⟨b1, b2⟩
      refine x_aload_n (i := 0) (pc := 83) F dX7_tells_83 rfl rfl ?_
      refine x_aload_n (i := 1) (pc := 84) F dX7_tells_84 rfl rfl ?_
      refine x_iconst (pc := 85) F dX7_tells_85 ?_
      refine x_iload_n (i := 3) (pc := 86) F dX7_tells_86 rfl rfl ?_
      refine x_aload_n (i := 1) (pc := 87) F dX7_tells_87 rfl rfl ?_
      refine gf_X7_269 (pc := 88) F dX7_tells_88 (v_4 (by omega)) ?_
      rw [(hC.fr b2).2.2.1]
      refine x_isub (pc := 91) F dX7_tells_91 ?_
      refine x_iload (i := 4) (pc := 92) F dX7_tells_92 rfl ?_
      refine x_iconst (pc := 94) F dX7_tells_94 ?_
      refine x_iadd (pc := 95) F dX7_tells_95 ?_
      refine x_V4i (ci := 7) (pc := 96) F dX7_tells_96 lk_X7_313 rfl (v_0 (by omega)) rfl rfl (c_tells0 2 _ _ (by omega) (by omega) (hC.fr b2) b1 (Nat.lt_of_lt_of_le (hll _) (by decide))) rfl rfl rfl ?_
      rintro _ μ2 ⟨rfl, b3, b4⟩
      refine tq_reti (pc := 99) F dX7_tells_99 ?_ rfl rfl rfl
      exact ⟨by unfold teF; rw [if_neg (by omega), if_pos (by omega)], by rw [List.append_assoc] at b3; unfold teLs; rw [if_neg (by omega), if_pos (by omega)]; exact b3, b2.trans b4⟩
    · refine x_aload_n (i := 0) (pc := 40) F dX7_tells_40 rfl rfl ?_
      refine x_bipush (pc := 41) F dX7_tells_41 (by decide) ?_
      refine x_V1v (ci := 7) (pc := 43) F dX7_tells_43 lk_X7_316 rfl (v_0 (by omega)) rfl rfl (c_X7_startBody 40 hL (by omega)) rfl rfl rfl ?_
      rintro μ1 ⟨b1, b2⟩
      refine x_aload_n (i := 0) (pc := 46) F dX7_tells_46 rfl rfl ?_
      refine x_aload_n (i := 1) (pc := 47) F dX7_tells_47 rfl rfl ?_
      refine x_iconst (pc := 48) F dX7_tells_48 ?_
      refine x_iload_n (i := 3) (pc := 49) F dX7_tells_49 rfl rfl ?_
      refine x_iload (i := 4) (pc := 50) F dX7_tells_50 rfl ?_
      refine x_iconst (pc := 52) F dX7_tells_52 ?_
      refine x_iadd (pc := 53) F dX7_tells_53 ?_
      refine x_V4i (ci := 7) (pc := 54) F dX7_tells_54 lk_X7_313 rfl (v_0 (by omega)) rfl rfl (c_tells0 0 _ _ (Or.inl rfl) (by omega) (hC.fr b2) b1 (Nat.lt_of_lt_of_le (hll _) (by decide))) rfl rfl rfl ?_
      rintro _ μ2 ⟨rfl, b3, b4⟩
      refine x_istore (i := 5) (pc := 57) F dX7_tells_57 rfl ?_
      refine x_iload (i := 5) (pc := 59) F dX7_tells_59 rfl ?_
      refine x_aload_n (i := 0) (pc := 61) F dX7_tells_61 rfl rfl ?_
      refine x_aload_n (i := 1) (pc := 62) F dX7_tells_62 rfl rfl ?_
      refine x_aload_n (i := 1) (pc := 63) F dX7_tells_63 rfl rfl ?_
      refine gf_X7_114 (pc := 64) F dX7_tells_64 (v_4 (by omega)) ?_
      rw [((hC.fr b2).fr b4).2.2.2.1]
      refine x_iconst (pc := 67) F dX7_tells_67 ?_
      refine x_iload (i := 4) (pc := 68) F dX7_tells_68 rfl ?_
      refine x_iconst (pc := 70) F dX7_tells_70 ?_
      refine x_iadd (pc := 71) F dX7_tells_71 ?_
      refine x_V4i (ci := 7) (pc := 72) F dX7_tells_72 lk_X7_310 rfl (v_0 (by omega)) rfl rfl (c_knocks kd _ _ hkd (by omega) ((hC.fr b2).fr b4) b3 (by have := hll 40; simp only [List.length_append, List.length_cons, List.length_nil] at *; omega)) rfl rfl rfl ?_
      rintro _ μ3 ⟨rfl, b5, b6⟩
      refine x_iadd (pc := 75) F dX7_tells_75 ?_
      refine tq_reti (pc := 76) F dX7_tells_76 ?_ rfl rfl rfl
      exact ⟨by unfold teF; rw [if_pos (by omega)], by simp only [List.append_assoc, List.cons_append, List.nil_append] at b5; unfold teLs; rw [if_pos (by omega)]; exact b5, (b2.trans b4).trans b6⟩
    · refine x_aload_n (i := 0) (pc := 100) F dX7_tells_100 rfl rfl ?_
      refine x_bipush (pc := 101) F dX7_tells_101 (by decide) ?_
      refine x_V1v (ci := 7) (pc := 103) F dX7_tells_103 lk_X7_316 rfl (v_0 (by omega)) rfl rfl (c_X7_startBody 12 hL (by omega)) rfl rfl rfl ?_
      rintro μ1 ⟨b1, b2⟩
      refine x_aload_n (i := 0) (pc := 106) F dX7_tells_106 rfl rfl ?_
      refine x_aload_n (i := 1) (pc := 107) F dX7_tells_107 rfl rfl ?_
      refine x_aload_n (i := 1) (pc := 108) F dX7_tells_108 rfl rfl ?_
      refine gf_X7_114 (pc := 109) F dX7_tells_109 (v_4 (by omega)) ?_
      rw [(hC.fr b2).2.2.2.1]
      refine x_iload_n (i := 3) (pc := 112) F dX7_tells_112 rfl rfl ?_
      refine x_iload (i := 4) (pc := 113) F dX7_tells_113 rfl ?_
      refine x_iconst (pc := 115) F dX7_tells_115 ?_
      refine x_iadd (pc := 116) F dX7_tells_116 ?_
      refine x_V4i (ci := 7) (pc := 117) F dX7_tells_117 lk_X7_310 rfl (v_0 (by omega)) rfl rfl (c_knocks kd _ _ hkd (by omega) (hC.fr b2) b1 (Nat.lt_of_lt_of_le (hll _) (by decide))) rfl rfl rfl ?_
      rintro _ μ2 ⟨rfl, b3, b4⟩
      refine x_iconst (pc := 120) F dX7_tells_120 ?_
      refine x_imul (pc := 121) F dX7_tells_121 ?_
      refine tq_reti (pc := 122) F dX7_tells_122 ?_ rfl rfl rfl
      exact ⟨by unfold teF; rw [if_neg (by omega), if_neg (by omega)]; rfl, by rw [List.append_assoc] at b3; unfold teLs; rw [if_neg (by omega), if_neg (by omega)]; exact b3, b2.trans b4⟩
  · exfalso; omega
set_option maxRecDepth 20000 in
theorem c_X7_act (c a x : Int) (hc : -2147483648 ≤ c ∧ c < 2147483648) (ha : -2147483648 ≤ a ∧ a < 2147483648) (hR0 : TR μ 0 T) (hI : TI T) (l : Launch) (E : Ev) (A : Nat → Prop) : Con l E 9 m_X7_act A (VC nh) ad μ [.ref (ad (0, 0, 0)), .int (I c), .int (I a), .int (I x)] (pi fun z μ' => z = actZ T c a x ∧ BT μ' (actL T c a) ∧ FRa μ μ') := by
  have h76 := hI.2.2.1
  have hB : BT (upM μ (0, 0, 0) 8 0) [] := ⟨by rw [upM_i, if_pos rfl]; rfl, fun i hi => absurd hi (Nat.not_lt_zero i)⟩
  have hF : FRa μ (upM μ (0, 0, 0) 8 0) := ⟨fun k hk => by rw [upM_i, if_neg hk], fun o a b => upM_ne a⟩
  have hR1 : TR (upM μ (0, 0, 0) 8 0) 0 T := TR_fr hR0 (fun o a b c => upM_ne (by rintro rfl; simp at a))
  have hA : 0 ≤ c ∧ c < T 76 → AC (upM μ (0, 0, 0) 8 0) c c (T (17 + 10 * c)) (T (16 + 10 * c)) := fun h => ⟨by omega, (hI.2.1 c (by omega) (by omega)).1, (hR1.2.1 c (by omega) (by omega)).1, (hR1.2.1 c (by omega) (by omega)).2.1, (hR1.2.1 c (by omega) (by omega)).2.2.1⟩
  refine con (own := RX7) (by decide +kernel) rfl rfl rfl (fun Γ F => ?_)
  refine x_aload_n (i := 0) (pc := 0) F dX7_act_0 rfl rfl ?_
  refine x_iconst (pc := 1) F dX7_act_1 ?_
  refine pf_X7_304 (pc := 2) F dX7_act_2 (v_0 (by omega)) ?_
  refine x_aload_n (i := 0) (pc := 5) F dX7_act_5 rfl rfl ?_
  refine x_iload_n (i := 1) (pc := 6) F dX7_act_6 rfl rfl ?_
  refine x_V1z (ci := 7) (pc := 7) F dX7_act_7 lk_X7_102 rfl (v_0 (by omega)) rfl rfl (c_X7_isComer c (by omega) hR1 hI) rfl rfl rfl ?_
  rintro _ _ ⟨rfl, rfl⟩
  refine x_if_neB (tgt := 15) (pc := 10) F dX7_act_10 rfl (fun h10 => ?_) (fun h10 => ?_)
  · try simp only [decide_eq_true_eq, decide_eq_false_iff_not, Bool.and_eq_true, Bool.or_eq_true, Bool.not_eq_true', Bool.not_eq_false', Bool.and_eq_false_iff, Bool.or_eq_false_iff] at h10
    refine x_aload_n (i := 0) (pc := 15) F dX7_act_15 rfl rfl ?_
    refine gf_X7_62 (pc := 16) F dX7_act_16 (v_0 (by omega)) ?_
    refine gf_X7_94 (pc := 19) F dX7_act_19 (v_1 (by omega)) ?_
    refine x_iload_n (i := 1) (pc := 22) F dX7_act_22 rfl rfl ?_
    refine tq_pa (pc := 23) F dX7_act_23 (v_11 (by omega)) (by omega) ?_
    refine x_astore (i := 4) (pc := 24) F dX7_act_24 rfl ?_
    refine x_iload_n (i := 2) (pc := 26) F dX7_act_26 rfl rfl ?_
    refine x_tab (ts := [52, 66, 80]) (dt := 94) (pc := 27) F dX7_act_27 rfl rfl (by omega) ⟨fun h27 => ?_, fun h27 => ?_, fun h27 => ?_, trivial⟩ (fun h27 => ?_)
    · refine x_aload_n (i := 0) (pc := 52) F dX7_act_52 rfl rfl ?_
      refine x_aload (i := 4) (pc := 53) F dX7_act_53 rfl ?_
      refine x_aload (i := 4) (pc := 55) F dX7_act_55 rfl ?_
      refine gf_X7_114 (pc := 57) F dX7_act_57 (v_4 (by omega)) ?_
      rw [(hA h10).2.2.2.1]
      refine x_iload_n (i := 3) (pc := 60) F dX7_act_60 rfl rfl ?_
      refine x_iconst (pc := 61) F dX7_act_61 ?_
      refine x_V4i (ci := 7) (pc := 62) F dX7_act_62 lk_X7_307 rfl (v_0 (by omega)) rfl rfl (c_walks _ _ _ (hA h10).2.1 (by omega) (hA h10) hB (by simp)) rfl rfl rfl ?_
      rintro _ μ1 ⟨rfl, b1, b2⟩
      refine tq_reti (pc := 65) F dX7_act_65 ?_ rfl rfl rfl
      exact ⟨by unfold actZ; rw [if_pos h10, if_pos (by omega)], by unfold actL; rw [if_pos h10, if_pos (by omega)]; exact b1, hF.trans b2⟩
    · refine x_aload_n (i := 0) (pc := 66) F dX7_act_66 rfl rfl ?_
      refine x_aload (i := 4) (pc := 67) F dX7_act_67 rfl ?_
      refine x_aload (i := 4) (pc := 69) F dX7_act_69 rfl ?_
      refine gf_X7_114 (pc := 71) F dX7_act_71 (v_4 (by omega)) ?_
      rw [(hA h10).2.2.2.1]
      refine x_iload_n (i := 3) (pc := 74) F dX7_act_74 rfl rfl ?_
      refine x_iconst (pc := 75) F dX7_act_75 ?_
      refine x_V4i (ci := 7) (pc := 76) F dX7_act_76 lk_X7_310 rfl (v_0 (by omega)) rfl rfl (c_knocks _ _ _ (hA h10).2.1 (by omega) (hA h10) hB (by simp)) rfl rfl rfl ?_
      rintro _ μ1 ⟨rfl, b1, b2⟩
      refine tq_reti (pc := 79) F dX7_act_79 ?_ rfl rfl rfl
      exact ⟨by unfold actZ; rw [if_pos h10, if_neg (by omega), if_pos (by omega)], by unfold actL; rw [if_pos h10, if_neg (by omega), if_pos (by omega)]; exact b1, hF.trans b2⟩
    · refine x_aload_n (i := 0) (pc := 80) F dX7_act_80 rfl rfl ?_
      refine x_aload (i := 4) (pc := 81) F dX7_act_81 rfl ?_
      refine x_aload (i := 4) (pc := 83) F dX7_act_83 rfl ?_
      refine gf_X7_114 (pc := 85) F dX7_act_85 (v_4 (by omega)) ?_
      rw [(hA h10).2.2.2.1]
      refine x_iload_n (i := 3) (pc := 88) F dX7_act_88 rfl rfl ?_
      refine x_iconst (pc := 89) F dX7_act_89 ?_
      refine x_V4i (ci := 7) (pc := 90) F dX7_act_90 lk_X7_313 rfl (v_0 (by omega)) rfl rfl (c_tells _ _ _ (hA h10).2.1 (by omega) (hA h10) hB (by simp)) rfl rfl rfl ?_
      rintro _ μ1 ⟨rfl, b1, b2⟩
      refine tq_reti (pc := 93) F dX7_act_93 ?_ rfl rfl rfl
      exact ⟨by unfold actZ; rw [if_pos h10, if_neg (by omega), if_neg (by omega), if_pos (by omega)], by unfold actL; rw [if_pos h10, if_neg (by omega), if_neg (by omega), if_pos (by omega)]; exact b1, hF.trans b2⟩
    · refine x_iconst (pc := 94) F dX7_act_94 ?_
      refine tq_reti (pc := 95) F dX7_act_95 ?_ rfl rfl rfl
      exact ⟨by unfold actZ; rw [if_pos h10, if_neg (by omega), if_neg (by omega), if_neg (by omega)], by unfold actL; rw [if_pos h10, if_neg (by omega), if_neg (by omega), if_neg (by omega)]; exact hB, hF⟩
  · try simp only [decide_eq_true_eq, decide_eq_false_iff_not, Bool.and_eq_true, Bool.or_eq_true, Bool.not_eq_true', Bool.not_eq_false', Bool.and_eq_false_iff, Bool.or_eq_false_iff] at h10
    refine x_iconst (pc := 13) F dX7_act_13 ?_
    refine tq_reti (pc := 14) F dX7_act_14 ?_ rfl rfl rfl
    exact ⟨by unfold actZ; rw [if_neg (by omega)], by unfold actL; rw [if_neg (by omega)]; exact hB, hF⟩
end ACTS
