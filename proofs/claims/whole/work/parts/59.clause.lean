/-! ===== Reader: the word, a clause, a house's text ===== -/
theorem wdI_rg (tx : Tn) (tl a : Int) : 0 ≤ wdI tx tl a ∧ wdI tx tl a < 4 := by unfold wdI; (repeat' split) <;> omega
theorem wd_le (tx : Tn) (tl a : Int) : ∀ w : Nat, w < 4 → (w : Int) ≠ wdI tx tl a → mtc tx tl (wdL (w : Int)) a < (wdL (w : Int)).length ∧ mtc tx tl (wdL (w : Int)) a ≤ mtc tx tl (wdL (wdI tx tl a)) a := by
  have e0 : wdL ((0 : Nat) : Int) = [104, 101, 108, 112] := rfl
  have e1 : wdL ((1 : Nat) : Int) = [104, 105, 110, 100, 101, 114] := rfl
  have e2 : wdL ((2 : Nat) : Int) = [110, 101, 101, 100] := rfl
  have e3 : wdL ((3 : Nat) : Int) = [97, 103, 101] := rfl
  intro w hw
  unfold wdI
  by_cases c1 : chA tx tl a = 110
  · rw [if_pos c1, show (2 : Int) = ((2 : Nat) : Int) from rfl]
    rcases (show w = 0 ∨ w = 1 ∨ w = 2 ∨ w = 3 by omega) with rfl | rfl | rfl | rfl <;> intro hne <;> first | (exact absurd rfl hne) | (simp only [e0, e1, e2, e3, mtc, c1]; simp)
  rw [if_neg c1]
  by_cases c2 : chA tx tl a = 97
  · rw [if_pos c2, show (3 : Int) = ((3 : Nat) : Int) from rfl]
    rcases (show w = 0 ∨ w = 1 ∨ w = 2 ∨ w = 3 by omega) with rfl | rfl | rfl | rfl <;> intro hne <;> first | (exact absurd rfl hne) | (simp only [e0, e1, e2, e3, mtc, c2]; simp)
  rw [if_neg c2]
  by_cases c3 : chA tx tl (a + 1) = 105
  · rw [if_pos c3, show (1 : Int) = ((1 : Nat) : Int) from rfl]
    rcases (show w = 0 ∨ w = 1 ∨ w = 2 ∨ w = 3 by omega) with rfl | rfl | rfl | rfl <;> intro hne <;> first | (exact absurd rfl hne) | (simp only [e0, e1, e2, e3, mtc, c1, c2, c3]; by_cases c0 : chA tx tl a = 104 <;> simp [c0])
  · rw [if_neg c3, show (0 : Int) = ((0 : Nat) : Int) from rfl]
    rcases (show w = 0 ∨ w = 1 ∨ w = 2 ∨ w = 3 by omega) with rfl | rfl | rfl | rfl <;> intro hne <;> first | (exact absurd rfl hne) | (simp only [e0, e1, e2, e3, mtc, c1, c2, c3]; by_cases c0 : chA tx tl a = 104 <;> simp [c0])
/-- the most that the words below w have in common with the text -/
def mxW (tx : Tn) (tl a : Int) : Nat → Int
  | 0 => 0
  | w + 1 => max (mxW tx tl a w) (mtc tx tl (wdL (w : Int)) a)
theorem mxW_rg (tx : Tn) (tl a : Int) (ha : a ≤ tl) : ∀ w, 0 ≤ mxW tx tl a w ∧ mxW tx tl a w ≤ 6
  | 0 => by simp [mxW]
  | w + 1 => by
    have ih := mxW_rg tx tl a ha w
    have h1 := mtc_rg (tx := tx) (tl := tl) (wdL (w : Int)) a ha (wdL_ne _)
    have h2 := wdL_len (w : Int)
    simp only [mxW]
    omega
theorem mxW_4 (tx : Tn) (tl a : Int) : mxW tx tl a 4 = wdM tx tl a := by
  have h := wdI_rg tx tl a
  have h0 := wd_le tx tl a 0 (by omega)
  have h1 := wd_le tx tl a 1 (by omega)
  have h2 := wd_le tx tl a 2 (by omega)
  have h3 := wd_le tx tl a 3 (by omega)
  simp only [mxW]
  unfold wdM
  rcases (show wdI tx tl a = ((0 : Nat) : Int) ∨ wdI tx tl a = ((1 : Nat) : Int) ∨ wdI tx tl a = ((2 : Nat) : Int) ∨ wdI tx tl a = ((3 : Nat) : Int) by omega) with e | e | e | e <;> rw [e] at h0 h1 h2 h3 ⊢ <;> omega
section WORD
variable {ad : Ob → Nat} {μ : Me} {nh : Int} {tx : Tn} {tl a : Int}
set_option maxRecDepth 20000 in
theorem c_X3_readWord (hX : TX μ tx tl) (ha : μ (15, 0, 0) 2 = a) (h0 : 0 ≤ a ∧ a ≤ tl) (l : Launch) (E : Ev) (A : Nat → Prop) : Con l E 5 m_X3_readWord A (VC nh) ad μ [.ref (ad (15, 0, 0))] (pi fun z μ' => z = (if (wdM tx tl a : Int) < (wdL (wdI tx tl a)).length then -1 else wdI tx tl a) ∧ PL μ μ' (a + wdM tx tl a)) := by
  have hm4 := mxW_4 tx tl a
  have hwi := wdI_rg tx tl a
  have htl := hX.1.2.2
  refine conE (own := RX3) (by decide +kernel) rfl rfl rfl (fun Γ F hE => ?_)
  subst hE
  have loop : ∀ (N w : Nat), 4 - w < N → w ≤ 4 → (∀ j : Nat, j < w → (mtc tx tl (wdL (j : Int)) a : Int) < (wdL (j : Int)).length) → XX Γ 5 (VC nh) ad (vl ad μ) 0 0 4 [(0, .ref (ad (15, 0, 0))), (1, .int (I (mxW tx tl a w))), (2, .int (I w))] [] := by
    intro N
    induction N with
    | zero => intro w a1; omega
    | succ N ih =>
      intro w a1 a2 a3
      have hmx := mxW_rg tx tl a h0.2 w
      have hmt := mtc_rg (tx := tx) (tl := tl) (wdL (w : Int)) a h0.2 (wdL_ne _)
      have hwl := wdL_len (w : Int)
      have hle := wd_le tx tl a w
      refine x_iload_n (i := 2) (pc := 4) F dX3_readWord_4 rfl rfl ?_
      refine x_iconst (pc := 5) F dX3_readWord_5 ?_
      refine x_icmp_ge (tgt := 56) (pc := 6) F dX3_readWord_6 rfl (by omega) (fun h6 => ?_) (fun h6 => ?_)
      · refine x_aload_n (i := 0) (pc := 56) F dX3_readWord_56 rfl rfl ?_
        refine x_dup (pc := 57) F dX3_readWord_57 rfl ?_
        refine gf_X3_24 (pc := 58) F dX3_readWord_58 (v_15 (by omega)) ?_
        refine x_iload_n (i := 1) (pc := 61) F dX3_readWord_61 rfl rfl ?_
        refine x_iadd (pc := 62) F dX3_readWord_62 ?_
        rw [ha]
        refine pf_X3_24 (pc := 63) F dX3_readWord_63 (v_15 (by omega)) ?_
        refine x_iconst (pc := 66) F dX3_readWord_66 ?_
        refine tq_reti (pc := 67) F dX3_readWord_67 ?_ rfl rfl rfl
        obtain rfl : w = 4 := by omega
        rw [hm4]
        refine ⟨?_, PL.up _ _⟩
        have := a3 (wdI tx tl a).toNat (by omega)
        rw [toNat_c hwi.1] at this
        rw [if_pos (show (wdM tx tl a : Int) < _ by unfold wdM; exact this)]
      · refine x_iload_n (i := 2) (pc := 9) F dX3_readWord_9 rfl rfl ?_
        refine x_callSE (As := [.int (I w)]) (mc2 := 0) (ms2 := 0) (d2 := 0) (pc := 10) F dX3_readWord_10 lk_X3_59 rfl rfl rfl rfl rfl rfl (fun l A ↦ c_X3_wordOf _ w (by omega) l _ A) ?_
        rintro v V' ad' ν' ⟨hv1, hv2, μ1, rfl, z, rfl, rfl, rfl⟩
        subst V' ad'
        refine x_astore_n (i := 3) (pc := 13) F dX3_readWord_13 rfl rfl ?_
        have hsn := stN_wd w (by omega)
        refine x_aload_n (i := 0) (pc := 14) F dX3_readWord_14 rfl rfl ?_
        refine x_aload_n (i := 3) (pc := 15) F dX3_readWord_15 rfl rfl ?_
        refine x_callVE (As := [.ref (stA (gE Γ) w)]) (mc2 := 0) (ms2 := 0) (d2 := 4) (ci := 3) (pc := 16) F dX3_readWord_16 lk_X3_63 rfl (v_15 (by omega)) rfl rfl rfl rfl rfl rfl rfl (fun l A ↦ c_X3_sameSigns w (by omega) hX ha h0 l _ A) ?_
        rintro v V' ad' ν' ⟨hv1, hv2, μ2, rfl, z, rfl, rfl, rfl⟩
        subst V' ad'
        refine x_istore (i := 4) (pc := 19) F dX3_readWord_19 rfl ?_
        refine x_iload (i := 4) (pc := 21) F dX3_readWord_21 rfl ?_
        refine x_aload_n (i := 3) (pc := 23) F dX3_readWord_23 rfl rfl ?_
        refine x_callSV (As := []) (mc2 := 0) (ms2 := 0) (d2 := 1) (pc := 24) F dX3_readWord_24 lk_X3_67 (i := w) (by omega) rfl rfl rfl rfl rfl rfl (fun l A ↦ c_slen (by omega) l _ A) ?_
        rintro v V' ad' ν' ⟨hv1, hv2, μ', rfl, z, rfl, rfl, rfl⟩
        subst V' ad'
        refine x_icmp_ne (tgt := 43) (pc := 27) F dX3_readWord_27 rfl (by omega) (fun h27 => ?_) (fun h27 => ?_)
        · refine x_iload_n (i := 1) (pc := 43) F dX3_readWord_43 rfl rfl ?_
          refine x_iload (i := 4) (pc := 44) F dX3_readWord_44 rfl ?_
          refine tq_max (pc := 46) F dX3_readWord_46 kw_557 rfl rfl rfl rfl (by omega) ?_
          refine x_istore_n (i := 1) (pc := 49) F dX3_readWord_49 rfl rfl ?_
          refine x_iinc (pc := 50) F dX3_readWord_50 rfl rfl ?_
          refine x_goto (tgt := 4) (pc := 53) F dX3_readWord_53 rfl ?_
          exact x_sub (L' := [(0, .ref (ad (15, 0, 0))), (1, .int (I (mxW tx tl a (w + 1)))), (2, .int (I ((w + 1 : Nat) : Int)))]) ⟨rfl, rfl, rfl, trivial⟩ (ih (w + 1) (by omega) (by omega) (fun j hj => by by_cases e : j = w; (subst e; omega); exact a3 j (by omega)))
        · refine x_aload_n (i := 0) (pc := 30) F dX3_readWord_30 rfl rfl ?_
          refine x_dup (pc := 31) F dX3_readWord_31 rfl ?_
          refine gf_X3_24 (pc := 32) F dX3_readWord_32 (v_15 (by omega)) ?_
          refine x_iload (i := 4) (pc := 35) F dX3_readWord_35 rfl ?_
          refine x_iadd (pc := 37) F dX3_readWord_37 ?_
          rw [ha]
          refine pf_X3_24 (pc := 38) F dX3_readWord_38 (v_15 (by omega)) ?_
          refine x_iload_n (i := 2) (pc := 41) F dX3_readWord_41 rfl rfl ?_
          refine tq_reti (pc := 42) F dX3_readWord_42 ?_ rfl rfl rfl
          have ew : (w : Int) = wdI tx tl a := by
            refine Classical.byContradiction (fun hne => ?_)
            have := hle (by omega) hne
            omega
          have em : wdM tx tl a = mtc tx tl (wdL (w : Int)) a := by unfold wdM; rw [← ew]
          exact ⟨by rw [← ew, em, if_neg (by omega)], by rw [em]; exact PL.up _ _⟩
  refine x_iconst (pc := 0) F dX3_readWord_0 ?_
  refine x_istore_n (i := 1) (pc := 1) F dX3_readWord_1 rfl rfl ?_
  refine x_iconst (pc := 2) F dX3_readWord_2 ?_
  refine x_istore_n (i := 2) (pc := 3) F dX3_readWord_3 rfl rfl ?_
  exact x_sub (L' := [(0, .ref (ad (15, 0, 0))), (1, .int (I (mxW tx tl a 0))), (2, .int (I ((0 : Nat) : Int)))]) ⟨rfl, rfl, rfl, trivial⟩ (loop 9 0 (by omega) (by omega) (fun j hj => absurd hj (Nat.not_lt_zero j)))
end WORD
/-- reading a house: clauses read so far -/
def RC (μ : Me) (tx : Tn) (tl h : Int) (c : Cl) : Prop := RS μ tx tl c.1 h c.2.1 ∧ μ (12, h, 0) 3 = c.2.2.2.1 ∧ μ (12, h, 0) 4 = c.2.2.2.2
def RG (μ μ' : Me) (h : Int) : Prop := (∀ k, k ≠ 2 → μ' (15, 0, 0) k = μ (15, 0, 0) k) ∧ ∀ o, o ≠ (15, 0, 0) → o ≠ (12, h, 0) → o ≠ (13, h, 0) → o ≠ (14, h, 0) → μ' o = μ o
theorem RG.trans {μ μ1 μ2 : Me} {h : Int} (a : RG μ μ1 h) (b : RG μ1 μ2 h) : RG μ μ2 h := ⟨fun k hk => by rw [b.1 k hk, a.1 k hk], fun o h1 h2 h3 h4 => by rw [b.2 o h1 h2 h3 h4, a.2 o h1 h2 h3 h4]⟩
theorem RG.rf {μ μ' : Me} {h : Int} (e : RF μ μ' h) : RG μ μ' h := ⟨e.1, e.2.2⟩
theorem RG.refl (μ : Me) (h : Int) : RG μ μ h := ⟨fun _ _ => rfl, fun _ _ _ _ _ => rfl⟩
theorem TX.rg {μ μ' : Me} {tx : Tn} {tl h : Int} (hx : TX μ tx tl) (e : RG μ μ' h) : TX μ' tx tl := by
  obtain ⟨⟨h1, h2⟩, h3⟩ := hx
  refine ⟨⟨by rw [e.1 1 (by decide)]; exact h1, h2⟩, fun k x y => ?_⟩
  rw [e.2 _ (by simp) (by simp) (by simp) (by simp)]
  exact h3 k x y
theorem RS.cell {μ : Me} {tx : Tn} {tl a h k z : Int} {code : List (Int × Int)} (hs : RS μ tx tl a h code) (hk : k ≠ 2) : RS (upM μ (12, h, 0) k z) tx tl a h code := by
  have hr : RG μ (upM μ (12, h, 0) k z) h := ⟨fun j _ => by rw [upM_ne (by simp)], fun o _ h2 _ _ => upM_ne h2⟩
  obtain ⟨h1, h2, h3, h4, h5⟩ := hs
  refine ⟨h1.rg hr, by rw [upM_ne (by simp)]; exact h2, by rw [upM_ne (by simp)]; exact h3, ?_, h5⟩
  unfold HC
  rw [upM_i, if_neg (by omega), upM_ne (by simp), upM_ne (by simp)]
  exact h4
section CLAUSE2
variable {ad : Ob → Nat} {μ : Me} {nh : Int} {tx : Tn} {tl h : Int} {c : Cl}
theorem clS_1 (h : (wdM tx tl c.1 : Int) < (wdL (wdI tx tl c.1)).length) : clS tx tl c = clF c (c.1 + wdM tx tl c.1) := by unfold clS; rw [if_pos h]
theorem clS_2 (h : ¬ (wdM tx tl c.1 : Int) < (wdL (wdI tx tl c.1)).length) (h2 : chA tx tl (clA tx tl c.1) ≠ 32) : clS tx tl c = clF c (clA tx tl c.1) := by unfold clS; rw [if_neg h, if_pos h2]
theorem clS_3 (h : ¬ (wdM tx tl c.1 : Int) < (wdL (wdI tx tl c.1)).length) (h2 : chA tx tl (clA tx tl c.1) = 32) (h3 : nuN tx tl (clA tx tl c.1 + 1) = -1) : clS tx tl c = clF c (clA tx tl c.1 + 1) := by unfold clS; rw [if_neg h, if_neg (fun z => z h2), if_pos h3]
theorem clS_4 (h : ¬ (wdM tx tl c.1 : Int) < (wdL (wdI tx tl c.1)).length) (h2 : chA tx tl (clA tx tl c.1) = 32) (h3 : nuN tx tl (clA tx tl c.1 + 1) ≠ -1) (h4 : wdI tx tl c.1 = 2) : clS tx tl c = (true, nuA tx tl (clA tx tl c.1 + 1), c.2.1, c.2.2.1, nuN tx tl (clA tx tl c.1 + 1), c.2.2.2.2) := by unfold clS; rw [if_neg h, if_neg (fun z => z h2), if_neg h3, if_pos h4]
theorem clS_5 (h : ¬ (wdM tx tl c.1 : Int) < (wdL (wdI tx tl c.1)).length) (h2 : chA tx tl (clA tx tl c.1) = 32) (h3 : nuN tx tl (clA tx tl c.1 + 1) ≠ -1) (h4 : wdI tx tl c.1 = 3) : clS tx tl c = (true, nuA tx tl (clA tx tl c.1 + 1), c.2.1, c.2.2.1, c.2.2.2.1, nuN tx tl (clA tx tl c.1 + 1)) := by unfold clS; rw [if_neg h, if_neg (fun z => z h2), if_neg h3, if_neg (by omega), if_pos h4]
theorem clS_6 (h : ¬ (wdM tx tl c.1 : Int) < (wdL (wdI tx tl c.1)).length) (h2 : chA tx tl (clA tx tl c.1) = 32) (h3 : nuN tx tl (clA tx tl c.1 + 1) ≠ -1) (h4 : wdI tx tl c.1 ≠ 2 ∧ wdI tx tl c.1 ≠ 3) (h5 : chA tx tl (nuA tx tl (clA tx tl c.1 + 1)) ≠ 32) : clS tx tl c = clF c (nuA tx tl (clA tx tl c.1 + 1)) := by unfold clS; rw [if_neg h, if_neg (fun z => z h2), if_neg h3, if_neg h4.1, if_neg h4.2, if_pos h5]
theorem clS_7 (h : ¬ (wdM tx tl c.1 : Int) < (wdL (wdI tx tl c.1)).length) (h2 : chA tx tl (clA tx tl c.1) = 32) (h3 : nuN tx tl (clA tx tl c.1 + 1) ≠ -1) (h4 : wdI tx tl c.1 ≠ 2 ∧ wdI tx tl c.1 ≠ 3) (h5 : chA tx tl (nuA tx tl (clA tx tl c.1 + 1)) = 32) : clS tx tl c = if (fA tx tl 1000 0 (nuA tx tl (clA tx tl c.1 + 1) + 1)).1 = true then (true, hlp (wdI tx tl c.1) (fA tx tl 1000 0 (nuA tx tl (clA tx tl c.1 + 1) + 1)) (nuN tx tl (clA tx tl c.1 + 1)) c) else clF c (fA tx tl 1000 0 (nuA tx tl (clA tx tl c.1 + 1) + 1)).2.1 := by unfold clS; rw [if_neg h, if_neg (fun z => z h2), if_neg h3, if_neg h4.1, if_neg h4.2, if_neg (fun z => z h5)]
/-- what a clause leaves -/
def RQ (μ μ' : Me) (tx : Tn) (tl h : Int) (r : Bool × Cl) (z : Bool) : Prop := z = r.1 ∧ μ' (15, 0, 0) 2 = r.2.1 ∧ RG μ μ' h ∧ (r.1 = true → RC μ' tx tl h r.2)
set_option maxRecDepth 20000 in
theorem c_X3_readClause (hC : RC μ tx tl h c) (hh : h < nh) (l : Launch) (E : Ev) (A : Nat → Prop) : Con l E 16 m_X3_readClause A (VC nh) ad μ [.ref (ad (15, 0, 0))] (pz fun z μ' => RQ μ μ' tx tl h (clS tx tl c) z) := by
  obtain ⟨hS, hnd, hag⟩ := id hC
  obtain ⟨hX, ⟨ha, ha0, hat⟩, ⟨h3, h30, h36⟩, hCc, hl⟩ := id hS
  have htl := hX.1.2.2
  have hwi := wdI_rg tx tl c.1
  have hm := mtc_rg (tx := tx) (tl := tl) (wdL (wdI tx tl c.1)) c.1 hat (wdL_ne _)
  have hwl := wdL_len (wdI tx tl c.1)
  have hmd : wdM tx tl c.1 = mtc tx tl (wdL (wdI tx tl c.1)) c.1 := rfl
  have hA : clA tx tl c.1 = c.1 + (wdL (wdI tx tl c.1)).length := rfl
  refine con (own := RX3) (by decide +kernel) rfl rfl rfl (fun Γ F => ?_)
  refine x_aload_n (i := 0) (pc := 0) F dX3_readClause_0 rfl rfl ?_
  refine x_V0i (ci := 3) (pc := 1) F dX3_readClause_1 lk_X3_39 rfl (v_15 (by omega)) rfl rfl (c_X3_readWord hX ha (by omega)) rfl rfl rfl ?_
  rintro z μ1 ⟨ez, p1⟩
  have ez : z = -1 ∧ (wdM tx tl c.1 : Int) < (wdL (wdI tx tl c.1)).length ∨ z = wdI tx tl c.1 ∧ ¬ (wdM tx tl c.1 : Int) < (wdL (wdI tx tl c.1)).length := by split at ez; (left; omega); (right; omega)
  refine x_istore_n (i := 1) (pc := 4) F dX3_readClause_4 rfl rfl ?_
  refine x_iload_n (i := 1) (pc := 5) F dX3_readClause_5 rfl rfl ?_
  refine x_if_lt (tgt := 18) (pc := 6) F dX3_readClause_6 rfl (by omega) (fun h6 => ?_) (fun h6 => ?_)
  · obtain ⟨-, hw⟩ : z = -1 ∧ (wdM tx tl c.1 : Int) < (wdL (wdI tx tl c.1)).length := by omega
    refine x_iconst (pc := 18) F dX3_readClause_18 ?_
    refine tq_retz (b := false) (pc := 19) F dX3_readClause_19 ?_ rfl rfl rfl
    first | (rw [clS_1 hw]; exact ⟨rfl, p1.1, RG.rf (RF.pl p1), fun z => by cases z⟩) | (rw [clS_2 hw h15]; rw [if_neg h15] at p2; exact ⟨rfl, p2.1, RG.rf ((RF.pl p1).trans (RF.pl p2)), fun z => by cases z⟩)
  · obtain ⟨rfl, hw⟩ : z = wdI tx tl c.1 ∧ ¬ (wdM tx tl c.1 : Int) < (wdL (wdI tx tl c.1)).length := by omega
    rw [show c.1 + (wdM tx tl c.1 : Int) = clA tx tl c.1 by omega] at p1
    have hS1 := hS.pl p1 (by omega)
    refine x_aload_n (i := 0) (pc := 9) F dX3_readClause_9 rfl rfl ?_
    refine x_bipush (pc := 10) F dX3_readClause_10 (by decide) ?_
    refine x_V1z (ci := 3) (pc := 12) F dX3_readClause_12 lk_X3_35 rfl (v_15 (by omega)) rfl rfl (c_X3_readSign 32 (by decide) hS1.1 p1.1 (by omega)) rfl rfl rfl ?_
    rintro z μ2 ⟨rfl, p2⟩
    refine x_if_neB (tgt := 20) (pc := 15) F dX3_readClause_15 rfl (fun h15 => ?_) (fun h15 => ?_)
    · try simp only [decide_eq_true_eq, decide_eq_false_iff_not, Bool.and_eq_true, Bool.or_eq_true, Bool.not_eq_true', Bool.not_eq_false', Bool.and_eq_false_iff, Bool.or_eq_false_iff] at h15
      rw [if_pos h15] at p2
      have l2 := chA_lt (tx := tx) (tl := tl) (a := clA tx tl c.1) (by omega)
      have hS2 := hS1.pl p2 (by omega)
      have hn := nu_rg (tx := tx) (tl := tl) (clA tx tl c.1 + 1) (by omega)
      refine x_aload_n (i := 0) (pc := 20) F dX3_readClause_20 rfl rfl ?_
      refine x_V0i (ci := 3) (pc := 21) F dX3_readClause_21 lk_X3_43 rfl (v_15 (by omega)) rfl rfl (c_X3_readNumber hS2.1 p2.1 (by omega)) rfl rfl rfl ?_
      rintro _ μ3 ⟨rfl, p3⟩
      refine x_istore_n (i := 2) (pc := 24) F dX3_readClause_24 rfl rfl ?_
      refine x_iload_n (i := 2) (pc := 25) F dX3_readClause_25 rfl rfl ?_
      refine x_if_ge (tgt := 31) (pc := 26) F dX3_readClause_26 rfl (by omega) (fun h26 => ?_) (fun h26 => ?_)
      · have hS3 := hS2.pl p3 (by omega)
        have h3h := hS3.2.2.1.1
        have e3 : μ3 (12, h, 0) = μ (12, h, 0) := by rw [p3.2.2 _ (by simp), p2.2.2 _ (by simp), p1.2.2 _ (by simp)]
        have r3 : RG μ μ3 h := RG.rf (((RF.pl p1).trans (RF.pl p2)).trans (RF.pl p3))
        refine x_iload_n (i := 1) (pc := 31) F dX3_readClause_31 rfl rfl ?_
        refine x_iconst (pc := 32) F dX3_readClause_32 ?_
        refine x_icmp_ne (tgt := 46) (pc := 33) F dX3_readClause_33 rfl (by omega) (fun h33 => ?_) (fun h33 => ?_)
        · refine x_iload_n (i := 1) (pc := 46) F dX3_readClause_46 rfl rfl ?_
          refine x_iconst (pc := 47) F dX3_readClause_47 ?_
          refine x_icmp_ne (tgt := 61) (pc := 48) F dX3_readClause_48 rfl (by omega) (fun h48 => ?_) (fun h48 => ?_)
          · refine x_aload_n (i := 0) (pc := 61) F dX3_readClause_61 rfl rfl ?_
            refine x_bipush (pc := 62) F dX3_readClause_62 (by decide) ?_
            refine x_V1z (ci := 3) (pc := 64) F dX3_readClause_64 lk_X3_35 rfl (v_15 (by omega)) rfl rfl (c_X3_readSign 32 (by decide) hS3.1 p3.1 (by omega)) rfl rfl rfl ?_
            rintro z μ4 ⟨rfl, p4⟩
            refine x_if_eqB (tgt := 78) (pc := 67) F dX3_readClause_67 rfl (fun h67 => ?_) (fun h67 => ?_)
            · try simp only [decide_eq_true_eq, decide_eq_false_iff_not, Bool.and_eq_true, Bool.or_eq_true, Bool.not_eq_true', Bool.not_eq_false', Bool.and_eq_false_iff, Bool.or_eq_false_iff] at h67
              refine x_iconst (pc := 78) F dX3_readClause_78 ?_
              refine tq_retz (b := false) (pc := 79) F dX3_readClause_79 ?_ rfl rfl rfl
              first | (rw [clS_6 hw h15 (by omega) ⟨h33, h48⟩ h67]; rw [if_neg h67] at p4; exact ⟨rfl, p4.1, r3.trans (RG.rf (RF.pl p4)), fun z => by cases z⟩) | (rw [clS_7 hw h15 (by omega) ⟨h33, h48⟩ h67, if_neg (by rw [h75]; decide)]; exact ⟨rfl, q1, (r3.trans (RG.rf (RF.pl p4))).trans (RG.rf q2), fun z => by cases z⟩)
            · try simp only [decide_eq_true_eq, decide_eq_false_iff_not, Bool.and_eq_true, Bool.or_eq_true, Bool.not_eq_true', Bool.not_eq_false', Bool.and_eq_false_iff, Bool.or_eq_false_iff] at h67
              rw [if_pos h67] at p4
              have l4 := chA_lt (tx := tx) (tl := tl) (a := nuA tx tl (clA tx tl c.1 + 1)) (by omega)
              have hS4 := hS3.pl p4 (by omega)
              refine x_aload_n (i := 0) (pc := 70) F dX3_readClause_70 rfl rfl ?_
              refine x_iconst (pc := 71) F dX3_readClause_71 ?_
              refine x_V1z (ci := 3) (pc := 72) F dX3_readClause_72 lk_X3_52 rfl (v_15 (by omega)) rfl rfl (c_X3_readEither hh hS4) rfl rfl rfl ?_
              rintro z μ5 ⟨rfl, q1, q2, q3⟩
              refine x_if_neB (tgt := 80) (pc := 75) F dX3_readClause_75 rfl (fun h75 => ?_) (fun h75 => ?_)
              · try simp only [decide_eq_true_eq, decide_eq_false_iff_not, Bool.and_eq_true, Bool.or_eq_true, Bool.not_eq_true', Bool.not_eq_false', Bool.and_eq_false_iff, Bool.or_eq_false_iff] at h75
                have hS5 := q3 h75
                have h5h := hS5.2.2.1.1
                have hcn := hS5.2.2.2.1.1
                have hla := hS5.2.1
                have hg := ((pS_gd (tx := tx) (tl := tl) 1000 0 (by decide) (by decide)).2.2.2.1 (nuA tx tl (clA tx tl c.1 + 1) + 1) (by omega)).2.2 h75
                have hlE : ((c.2.1 ++ (fA tx tl 1000 0 (nuA tx tl (clA tx tl c.1 + 1) + 1)).2.2.1).length : Int) = c.2.1.length + (fA tx tl 1000 0 (nuA tx tl (clA tx tl c.1 + 1) + 1)).2.2.1.length := by rw [List.length_append]; omega
                refine x_aload_n (i := 0) (pc := 80) F dX3_readClause_80 rfl rfl ?_
                refine gf_X3_15 (pc := 81) F dX3_readClause_81 (v_15 (by omega)) ?_
                rw [hvl_r (by omega)]
                rw [h5h]
                refine x_iload_n (i := 1) (pc := 84) F dX3_readClause_84 rfl rfl ?_
                refine x_if_ne (tgt := 93) (pc := 85) F dX3_readClause_85 rfl (by omega) (fun h85 => ?_) (fun h85 => ?_)
                · refine x_bipush (pc := 93) F dX3_readClause_93 (by decide) ?_
                  refine x_iload_n (i := 2) (pc := 95) F dX3_readClause_95 rfl rfl ?_
                  refine x_V2v (ci := 2) (pc := 96) F dX3_readClause_96 lk_X3_55 rfl (v_12 (by omega)) rfl rfl (c_X2_put _ _ (by omega) (by omega)) rfl rfl rfl ?_
                  rintro μ6 ⟨e1, e2, e3', e4, e5⟩
                  refine x_iconst (pc := 99) F dX3_readClause_99 ?_
                  refine tq_retz (b := true) (pc := 100) F dX3_readClause_100 ?_ rfl rfl rfl
                  obtain ⟨r1, r2⟩ := RS_put hS5 (by omega) e1 e2 e3' e4 e5
                  rw [clS_7 hw h15 (by omega) ⟨h33, h48⟩ h67, if_pos h75]
                  have ec : μ5 (12, h, 0) 3 = μ3 (12, h, 0) 3 ∧ μ5 (12, h, 0) 4 = μ3 (12, h, 0) 4 := ⟨by rw [q2.2.1 3 (by decide), p4.2.2 _ (by simp)], by rw [q2.2.1 4 (by decide), p4.2.2 _ (by simp)]⟩
                  refine ⟨rfl, r1.2.1.1, ((r3.trans (RG.rf (RF.pl p4))).trans (RG.rf q2)).trans (RG.rf r2), fun _ => ⟨?_, by rw [e4 3 (by decide), ec.1, e3]; exact hnd, by rw [e4 4 (by decide), ec.2, e3]; exact hag⟩⟩
                  simp only [hlp]
                  first | (rw [if_pos h85]; exact r1) | (rw [if_neg h85]; exact r1)
                · refine x_bipush (pc := 88) F dX3_readClause_88 (by decide) ?_
                  refine x_goto (tgt := 95) (pc := 90) F dX3_readClause_90 rfl ?_
                  refine x_iload_n (i := 2) (pc := 95) F dX3_readClause_95 rfl rfl ?_
                  refine x_V2v (ci := 2) (pc := 96) F dX3_readClause_96 lk_X3_55 rfl (v_12 (by omega)) rfl rfl (c_X2_put _ _ (by omega) (by omega)) rfl rfl rfl ?_
                  rintro μ6 ⟨e1, e2, e3', e4, e5⟩
                  refine x_iconst (pc := 99) F dX3_readClause_99 ?_
                  refine tq_retz (b := true) (pc := 100) F dX3_readClause_100 ?_ rfl rfl rfl
                  obtain ⟨r1, r2⟩ := RS_put hS5 (by omega) e1 e2 e3' e4 e5
                  rw [clS_7 hw h15 (by omega) ⟨h33, h48⟩ h67, if_pos h75]
                  have ec : μ5 (12, h, 0) 3 = μ3 (12, h, 0) 3 ∧ μ5 (12, h, 0) 4 = μ3 (12, h, 0) 4 := ⟨by rw [q2.2.1 3 (by decide), p4.2.2 _ (by simp)], by rw [q2.2.1 4 (by decide), p4.2.2 _ (by simp)]⟩
                  refine ⟨rfl, r1.2.1.1, ((r3.trans (RG.rf (RF.pl p4))).trans (RG.rf q2)).trans (RG.rf r2), fun _ => ⟨?_, by rw [e4 3 (by decide), ec.1, e3]; exact hnd, by rw [e4 4 (by decide), ec.2, e3]; exact hag⟩⟩
                  simp only [hlp]
                  first | (rw [if_pos h85]; exact r1) | (rw [if_neg h85]; exact r1)
              · try simp only [decide_eq_true_eq, decide_eq_false_iff_not, Bool.and_eq_true, Bool.or_eq_true, Bool.not_eq_true', Bool.not_eq_false', Bool.and_eq_false_iff, Bool.or_eq_false_iff] at h75
                refine x_iconst (pc := 78) F dX3_readClause_78 ?_
                refine tq_retz (b := false) (pc := 79) F dX3_readClause_79 ?_ rfl rfl rfl
                first | (rw [clS_6 hw h15 (by omega) ⟨h33, h48⟩ h67]; rw [if_neg h67] at p4; exact ⟨rfl, p4.1, r3.trans (RG.rf (RF.pl p4)), fun z => by cases z⟩) | (rw [clS_7 hw h15 (by omega) ⟨h33, h48⟩ h67, if_neg (by rw [h75]; decide)]; exact ⟨rfl, q1, (r3.trans (RG.rf (RF.pl p4))).trans (RG.rf q2), fun z => by cases z⟩)
          · refine x_aload_n (i := 0) (pc := 51) F dX3_readClause_51 rfl rfl ?_
            refine gf_X3_15 (pc := 52) F dX3_readClause_52 (v_15 (by omega)) ?_
            rw [hvl_r (by omega)]
            rw [h3h]
            refine x_iload_n (i := 2) (pc := 55) F dX3_readClause_55 rfl rfl ?_
            refine pf_X3_49 (pc := 56) F dX3_readClause_56 (v_12 (by omega)) ?_
            refine x_iconst (pc := 59) F dX3_readClause_59 ?_
            refine tq_retz (b := true) (pc := 60) F dX3_readClause_60 ?_ rfl rfl rfl
            rw [clS_5 hw h15 (by omega) h48]
            exact ⟨rfl, by rw [upM_ne (by simp)]; exact p3.1, r3.trans ⟨fun j _ => by rw [upM_ne (by simp)], fun o _ h2 _ _ => upM_ne h2⟩, fun _ => ⟨hS3.cell (by decide), by rw [upM_i, if_neg (by decide), e3]; exact hnd, by rw [upM_i, if_pos rfl]⟩⟩
        · refine x_aload_n (i := 0) (pc := 36) F dX3_readClause_36 rfl rfl ?_
          refine gf_X3_15 (pc := 37) F dX3_readClause_37 (v_15 (by omega)) ?_
          rw [hvl_r (by omega)]
          rw [h3h]
          refine x_iload_n (i := 2) (pc := 40) F dX3_readClause_40 rfl rfl ?_
          refine pf_X3_46 (pc := 41) F dX3_readClause_41 (v_12 (by omega)) ?_
          refine x_iconst (pc := 44) F dX3_readClause_44 ?_
          refine tq_retz (b := true) (pc := 45) F dX3_readClause_45 ?_ rfl rfl rfl
          rw [clS_4 hw h15 (by omega) h33]
          exact ⟨rfl, by rw [upM_ne (by simp)]; exact p3.1, r3.trans ⟨fun j _ => by rw [upM_ne (by simp)], fun o _ h2 _ _ => upM_ne h2⟩, fun _ => ⟨hS3.cell (by decide), by rw [upM_i, if_pos rfl], by rw [upM_i, if_neg (by decide), e3]; exact hag⟩⟩
      · refine x_iconst (pc := 29) F dX3_readClause_29 ?_
        refine tq_retz (b := false) (pc := 30) F dX3_readClause_30 ?_ rfl rfl rfl
        rw [clS_3 hw h15 (by omega)]
        exact ⟨rfl, by rw [p3.1]; simp only [clF]; omega, RG.rf (((RF.pl p1).trans (RF.pl p2)).trans (RF.pl p3)), fun z => by cases z⟩
    · try simp only [decide_eq_true_eq, decide_eq_false_iff_not, Bool.and_eq_true, Bool.or_eq_true, Bool.not_eq_true', Bool.not_eq_false', Bool.and_eq_false_iff, Bool.or_eq_false_iff] at h15
      refine x_iconst (pc := 18) F dX3_readClause_18 ?_
      refine tq_retz (b := false) (pc := 19) F dX3_readClause_19 ?_ rfl rfl rfl
      first | (rw [clS_1 hw]; exact ⟨rfl, p1.1, RG.rf (RF.pl p1), fun z => by cases z⟩) | (rw [clS_2 hw h15]; rw [if_neg h15] at p2; exact ⟨rfl, p2.1, RG.rf ((RF.pl p1).trans (RF.pl p2)), fun z => by cases z⟩)
end CLAUSE2
