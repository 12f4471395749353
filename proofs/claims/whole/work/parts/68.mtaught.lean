/-! ===== the reference: teaching, a day ===== -/
theorem TN.up {μ : Me} {T : Tn} {k z : Int} (h : TN μ T) : TN (upM μ (31, 0, 0) k z) (upT T k z) := by
  intro j a b
  rw [upM_i]
  unfold upT
  rw [h j a b]
theorem TN.c {μ : Me} {T X : Tn} (h : TN μ T) (e : ∀ k, 0 ≤ k → k < 133 → T k = X k) : TN μ X := fun k a b => by rw [h k a b, e k a b]
section DUP
variable {Γ : Ct} {cc : ByteArray} {own : String} {nL : Nat} {ret : Option FieldType} {P : Pq} {d mc ms : Nat} {V : Ob → Prop} {ad : Ob → Nat} {ν : Mv} {cs sl pc : Nat} {L : List (Nat × Value)} {st : List Value}
theorem x_dup2 {v w : Value} (F : Fx Γ cc own nL ret P d mc ms) (dd : decode cc pc = .ok (.dup2, 1)) (hv : v.category = 1) (hw : w.category = 1) (k : XX Γ nL V ad ν cs sl (pc + 1) L (v :: w :: v :: w :: st)) : XX Γ nL V ad ν cs sl pc L (v :: w :: st) := by
  obtain ⟨p, l, e, R, s, m, args, below, meth, c, A, Q, E⟩ := Γ
  obtain ⟨hx, hb, hml, hown, hts, hlk, hr, hK, hA0, hR, hQ, hzz⟩ := F
  intro H locs ls hW hV hS hl
  exact lv_dup2_11 hx hb dd hv hw (k H locs ls hW hV hS hl)
end DUP
section MTA
variable {ad : Ob → Nat} {μ : Me} {T : Tn} {S : Hs} {g w : Int}
theorem tau_lo (hk : T (4 * g) ≠ 3) : ∀ k, upT (upT T (4 * g + 1 + T (4 * g)) w) (4 * g) (T (4 * g) + 1) k = tauT T g w k ∨ ¬ (0 ≤ T (4 * g) ∧ T (4 * g) ≤ 3) := fun k => by
  by_cases hr : 0 ≤ T (4 * g) ∧ T (4 * g) ≤ 3
  · left
    unfold upT tauT lernK lernG
    by_cases e1 : k = 4 * g
    · rw [if_pos e1, if_pos e1, if_neg hk]
    · rw [if_neg e1, if_neg e1]
      by_cases e2 : 4 * g + 1 ≤ k ∧ k ≤ 4 * g + 3
      · rw [if_pos e2, if_neg hk]
        by_cases e3 : k = 4 * g + 1 + T (4 * g)
        · rw [if_pos e3, if_pos (by omega)]
        · rw [if_neg e3, if_neg (by omega)]
          congr 1; omega
      · rw [if_neg e2, if_neg (by omega)]
  · right; exact hr
def shT (T : Tn) (g wh n : Int) : Tn := fun j => if 4 * g + 1 + wh ≤ j ∧ j < 4 * g + 1 + n then T (j + 1) else T j
theorem tau_hi (hk : T (4 * g) = 3) (k : Int) : upT (upT (upT (shT T g (lpK (fun i => T (4 * g + 1 + i)) w 2) 2) (4 * g) 2) (4 * g + 1 + 2) w) (4 * g) (2 + 1) k = tauT T g w k := by
  have hr := lpK_rg (fun i => T (4 * g + 1 + i)) w 2
  unfold upT tauT lernK lernG shT
  by_cases e1 : k = 4 * g
  · rw [if_pos e1, if_pos e1, if_pos hk]; rfl
  · rw [if_neg e1, if_neg e1, if_neg e1]
    by_cases e2 : 4 * g + 1 ≤ k ∧ k ≤ 4 * g + 3
    · rw [if_pos e2, if_pos hk]
      by_cases e3 : k = 4 * g + 1 + 2
      · rw [if_pos e3, if_pos (by omega)]
      · rw [if_neg e3, if_neg (show ¬ k - (4 * g + 1) = 2 by omega)]
        by_cases e4 : k - (4 * g + 1) < lpK (fun i => T (4 * g + 1 + i)) w 2
        · rw [if_neg (by omega), if_pos e4]
          congr 1; omega
        · rw [if_pos (by omega), if_neg e4]
          congr 1; omega
    · rw [if_neg e2, if_neg (by omega), if_neg (by omega)]
set_option maxRecDepth 20000 in
theorem c_X8_taught (hT : TN μ T) (hG : GI T g) (hg : 0 ≤ g ∧ g < 4) (hw : 0 ≤ w ∧ w < 4096) (l : Launch) (E : Ev) (A : Nat → Prop) : Con l E 1 m_X8_taught A VM ad μ [.ref (ad (30, 0, 0)), .int (I g), .int (I w)] (pi fun z μ' => z = lostT T g w ∧ TN μ' (tauT T g w) ∧ ∀ o, o ≠ (31, 0, 0) → μ' o = μ o) := by
  obtain ⟨hk1, hk2⟩ := hG
  refine con (own := RX8) (by decide +kernel) rfl rfl rfl (fun Γ F => ?_)
  have l128 : ∀ (μ1 : Me) (T1 : Tn) (lost : Int), TN μ1 T1 → 0 ≤ T1 (4 * g) ∧ T1 (4 * g) ≤ 2 → (∀ o, o ≠ (31, 0, 0) → μ1 o = μ o) → lost = lostT T g w → (∀ k, 0 ≤ k → k < 133 → upT (upT T1 (4 * g + 1 + T1 (4 * g)) w) (4 * g) (T1 (4 * g) + 1) k = tauT T g w k) → XX Γ 6 VM ad (vl ad μ1) 0 0 128 [(0, .ref (ad (30, 0, 0))), (1, .int (I g)), (2, .int (I w)), (3, .int (I lost))] [] := by
    intro μ1 T1 lost c1 c2 c3 c4 c5
    refine x_aload_n (i := 0) (pc := 128) F dX8_taught_128 rfl rfl ?_
    refine gf_X8_9 (pc := 129) F dX8_taught_129 (vm_ok rfl) ?_
    refine x_iconst (pc := 132) F dX8_taught_132 ?_
    refine x_iload_n (i := 1) (pc := 133) F dX8_taught_133 rfl rfl ?_
    refine x_imul (pc := 134) F dX8_taught_134 ?_
    refine x_iconst (pc := 135) F dX8_taught_135 ?_
    refine x_iadd (pc := 136) F dX8_taught_136 ?_
    refine x_aload_n (i := 0) (pc := 137) F dX8_taught_137 rfl rfl ?_
    refine x_iload_n (i := 1) (pc := 138) F dX8_taught_138 rfl rfl ?_
    refine x_V1i (ci := 8) (pc := 139) F dX8_taught_139 lk_X8_108 rfl (vm_ok rfl) rfl rfl (c_X8_known c1 g hg) rfl rfl rfl ?_
    rintro _ _ ⟨rfl, rfl⟩
    refine x_iadd (pc := 142) F dX8_taught_142 ?_
    refine x_iload_n (i := 2) (pc := 143) F dX8_taught_143 rfl rfl ?_
    refine tq_ias (pc := 144) F dX8_taught_144 (vm_ok rfl) rfl (fun _ => rfl) (by omega) ?_
    refine x_aload_n (i := 0) (pc := 145) F dX8_taught_145 rfl rfl ?_
    refine gf_X8_9 (pc := 146) F dX8_taught_146 (vm_ok rfl) ?_
    refine x_iconst (pc := 149) F dX8_taught_149 ?_
    refine x_iload_n (i := 1) (pc := 150) F dX8_taught_150 rfl rfl ?_
    refine x_imul (pc := 151) F dX8_taught_151 ?_
    refine x_dup2 (pc := 152) F dX8_taught_152 rfl rfl ?_
    refine tq_ia (pc := 153) F dX8_taught_153 (vm_ok rfl) rfl (fun _ => rfl) (by omega) ?_
    rw [upM_i, if_neg (by omega), c1 _ (by omega) (by omega)]
    refine x_iconst (pc := 154) F dX8_taught_154 ?_
    refine x_iadd (pc := 155) F dX8_taught_155 ?_
    refine tq_ias (pc := 156) F dX8_taught_156 (vm_ok rfl) rfl (fun _ => rfl) (by omega) ?_
    refine x_iload_n (i := 3) (pc := 157) F dX8_taught_157 rfl rfl ?_
    refine tq_reti (pc := 158) F dX8_taught_158 ?_ rfl rfl rfl
    exact ⟨c4, (c1.up.up).c c5, fun o ho => by rw [upM_ne ho, upM_ne ho]; exact c3 o ho⟩
  have l78 : ∀ (wh : Int), wh = lpK (fun i => T (4 * g + 1 + i)) w 2 → T (4 * g) = 3 → ∀ (N : Nat) (k : Int) (μ1 : Me), 2 - k < N → wh ≤ k → k ≤ 2 → TN μ1 (shT T g wh k) → (∀ o, o ≠ (31, 0, 0) → μ1 o = μ o) → XX Γ 6 VM ad (vl ad μ1) 0 0 78 [(0, .ref (ad (30, 0, 0))), (1, .int (I g)), (2, .int (I w)), (3, .int (I (T (4 * g + 1 + wh)))), (5, .int (I k))] [] := by
    intro wh hwh h3 N
    have hr := lpK_rg (fun i => T (4 * g + 1 + i)) w 2
    induction N with
    | zero => intro k μ1 b1; omega
    | succ N ih =>
      intro k μ1 b1 b2 b3 b4 b5
      refine x_iload (i := 5) (pc := 78) F dX8_taught_78 rfl ?_
      refine x_iconst (pc := 80) F dX8_taught_80 ?_
      refine x_icmp_ge (tgt := 116) (pc := 81) F dX8_taught_81 rfl (by omega) (fun h81 => ?_) (fun h81 => ?_)
      · obtain rfl : k = 2 := by omega
        refine x_aload_n (i := 0) (pc := 116) F dX8_taught_116 rfl rfl ?_
        refine gf_X8_9 (pc := 117) F dX8_taught_117 (vm_ok rfl) ?_
        refine x_iconst (pc := 120) F dX8_taught_120 ?_
        refine x_iload_n (i := 1) (pc := 121) F dX8_taught_121 rfl rfl ?_
        refine x_imul (pc := 122) F dX8_taught_122 ?_
        refine x_dup2 (pc := 123) F dX8_taught_123 rfl rfl ?_
        refine tq_ia (pc := 124) F dX8_taught_124 (vm_ok rfl) rfl (fun _ => rfl) (by omega) ?_
        rw [b4 _ (by omega) (by omega), show shT T g wh 2 (4 * g) = 3 by unfold shT; rw [if_neg (by omega)]; exact h3]
        refine x_iconst (pc := 125) F dX8_taught_125 ?_
        refine x_isub (pc := 126) F dX8_taught_126 ?_
        rw [show (3 : Int) - 1 = 2 by decide]
        refine tq_ias (pc := 127) F dX8_taught_127 (vm_ok rfl) rfl (fun _ => rfl) (by omega) ?_
        have e2 : upT (shT T g wh 2) (4 * g) 2 (4 * g) = 2 := upT_eq
        refine x_sub (L' := [(0, .ref (ad (30, 0, 0))), (1, .int (I g)), (2, .int (I w)), (3, .int (I (T (4 * g + 1 + wh))))]) ⟨rfl, rfl, rfl, rfl, trivial⟩ (l128 _ _ _ b4.up (by rw [e2]; decide) (fun o ho => by rw [upM_ne ho]; exact b5 o ho) ?_ (fun j _ _ => ?_))
        · unfold lostT lostS; rw [if_pos h3, hwh]
        · rw [e2, hwh]; exact tau_hi h3 j
      · refine x_aload_n (i := 0) (pc := 84) F dX8_taught_84 rfl rfl ?_
        refine gf_X8_9 (pc := 85) F dX8_taught_85 (vm_ok rfl) ?_
        refine x_iconst (pc := 88) F dX8_taught_88 ?_
        refine x_iload_n (i := 1) (pc := 89) F dX8_taught_89 rfl rfl ?_
        refine x_imul (pc := 90) F dX8_taught_90 ?_
        refine x_iconst (pc := 91) F dX8_taught_91 ?_
        refine x_iadd (pc := 92) F dX8_taught_92 ?_
        refine x_iload (i := 5) (pc := 93) F dX8_taught_93 rfl ?_
        refine x_iadd (pc := 95) F dX8_taught_95 ?_
        refine x_aload_n (i := 0) (pc := 96) F dX8_taught_96 rfl rfl ?_
        refine gf_X8_9 (pc := 97) F dX8_taught_97 (vm_ok rfl) ?_
        refine x_iconst (pc := 100) F dX8_taught_100 ?_
        refine x_iload_n (i := 1) (pc := 101) F dX8_taught_101 rfl rfl ?_
        refine x_imul (pc := 102) F dX8_taught_102 ?_
        refine x_iconst (pc := 103) F dX8_taught_103 ?_
        refine x_iadd (pc := 104) F dX8_taught_104 ?_
        refine x_iload (i := 5) (pc := 105) F dX8_taught_105 rfl ?_
        refine x_iadd (pc := 107) F dX8_taught_107 ?_
        refine tq_ia (pc := 108) F dX8_taught_108 (vm_ok rfl) rfl (fun _ => rfl) (by omega) ?_
        rw [b4 _ (by omega) (by omega), show shT T g wh k (4 * g + 2 + k) = T (4 * g + 2 + k) by unfold shT; rw [if_neg (by omega)]]
        refine tq_ias (pc := 109) F dX8_taught_109 (vm_ok rfl) rfl (fun _ => rfl) (by omega) ?_
        refine x_iinc (pc := 110) F dX8_taught_110 rfl rfl ?_
        refine x_goto (tgt := 78) (pc := 113) F dX8_taught_113 rfl ?_
        refine x_sub (L' := [(0, .ref (ad (30, 0, 0))), (1, .int (I g)), (2, .int (I w)), (3, .int (I (T (4 * g + 1 + wh)))), (5, .int (I (k + 1)))]) ⟨rfl, rfl, rfl, rfl, rfl, trivial⟩ (ih (k + 1) _ (by omega) (by omega) (by omega) (b4.up.c (fun j _ _ => ?_)) (fun o ho => by rw [upM_ne ho]; exact b5 o ho))
        unfold upT shT
        by_cases e : j = 4 * g + 1 + k
        · rw [if_pos e, if_pos (by omega)]; congr 1; omega
        · rw [if_neg e]; by_cases e2 : 4 * g + 1 + wh ≤ j ∧ j < 4 * g + 1 + k
          · rw [if_pos e2, if_pos (by omega)]
          · rw [if_neg e2, if_neg (by omega)]
  have l18 : ∀ (N n : Nat), 2 - n < N → n ≤ 2 → T (4 * g) = 3 → XX Γ 6 VM ad (vl ad μ) 0 0 18 [(0, .ref (ad (30, 0, 0))), (1, .int (I g)), (2, .int (I w)), (4, .int (I (lpK (fun i => T (4 * g + 1 + i)) w n))), (5, .int (I ((n : Int) + 1)))] [] := by
    intro N
    induction N with
    | zero => intro n b1; omega
    | succ N ih =>
      intro n b1 b2 b3
      have hr := lpK_rg (fun i => T (4 * g + 1 + i)) w n
      have ha1 := hk2 (lpK (fun i => T (4 * g + 1 + i)) w n) hr.1 (by omega)
      have hs : lpK (fun i => T (4 * g + 1 + i)) w (n + 1) = if alk (T (4 * g + 1 + ((n : Int) + 1))) w < alk (T (4 * g + 1 + lpK (fun i => T (4 * g + 1 + i)) w n)) w then (n : Int) + 1 else lpK (fun i => T (4 * g + 1 + i)) w n := rfl
      have hx1 := wx_rg (a := T (4 * g + 1 + lpK (fun i => T (4 * g + 1 + i)) w n)) (b := w) (by omega)
      have hp1 : pop (wx (T (4 * g + 1 + lpK (fun i => T (4 * g + 1 + i)) w n)) w) = 12 - alk (T (4 * g + 1 + lpK (fun i => T (4 * g + 1 + i)) w n)) w := by unfold alk; omega
      have hl1 := alk_rg (T (4 * g + 1 + lpK (fun i => T (4 * g + 1 + i)) w n)) w
      have hp2 : pop (wx (T (4 * g + 1 + ((n : Int) + 1))) w) = 12 - alk (T (4 * g + 1 + ((n : Int) + 1))) w := by unfold alk; omega
      have hl2 := alk_rg (T (4 * g + 1 + ((n : Int) + 1))) w
      refine x_iload (i := 5) (pc := 18) F dX8_taught_18 rfl ?_
      refine x_iconst (pc := 20) F dX8_taught_20 ?_
      refine x_icmp_ge (tgt := 66) (pc := 21) F dX8_taught_21 rfl (by omega) (fun h21 => ?_) (fun h21 => ?_)
      · obtain rfl : n = 2 := by omega
        refine x_aload_n (i := 0) (pc := 66) F dX8_taught_66 rfl rfl ?_
        refine x_iload_n (i := 1) (pc := 67) F dX8_taught_67 rfl rfl ?_
        refine x_iload (i := 4) (pc := 68) F dX8_taught_68 rfl ?_
        refine x_V2i (ci := 8) (pc := 70) F dX8_taught_70 lk_X8_111 rfl (vm_ok rfl) rfl rfl (c_X8_walkAt hT g (lpK (fun i => T (4 * g + 1 + i)) w 2) (by omega)) rfl rfl rfl ?_
        rintro _ _ ⟨rfl, rfl⟩
        refine x_istore_n (i := 3) (pc := 73) F dX8_taught_73 rfl rfl ?_
        refine x_iload (i := 4) (pc := 74) F dX8_taught_74 rfl ?_
        refine x_istore (i := 5) (pc := 76) F dX8_taught_76 rfl ?_
        exact x_sub (L' := [(0, .ref (ad (30, 0, 0))), (1, .int (I g)), (2, .int (I w)), (3, .int (I (T (4 * g + 1 + lpK (fun i => T (4 * g + 1 + i)) w 2)))), (5, .int (I (lpK (fun i => T (4 * g + 1 + i)) w 2)))]) ⟨rfl, rfl, rfl, rfl, rfl, trivial⟩ (l78 _ rfl b3 3 _ μ (by omega) (Int.le_refl _) (by omega) (hT.c (fun j _ _ => by unfold shT; rw [if_neg (by omega)])) (fun _ _ => rfl))
      · have ha2 := hk2 ((n : Int) + 1) (by omega) (by omega)
        have hx2 := wx_rg (a := T (4 * g + 1 + ((n : Int) + 1))) (b := w) (by omega)
        refine x_aload_n (i := 0) (pc := 24) F dX8_taught_24 rfl rfl ?_
        refine x_iload_n (i := 1) (pc := 25) F dX8_taught_25 rfl rfl ?_
        refine x_iload (i := 5) (pc := 26) F dX8_taught_26 rfl ?_
        refine x_V2i (ci := 8) (pc := 28) F dX8_taught_28 lk_X8_111 rfl (vm_ok rfl) rfl rfl (c_X8_walkAt hT g ((n : Int) + 1) (by omega)) rfl rfl rfl ?_
        rintro _ _ ⟨rfl, rfl⟩
        refine x_iload_n (i := 2) (pc := 31) F dX8_taught_31 rfl rfl ?_
        refine tq_ixor (pc := 32) F dX8_taught_32 (by omega) ?_
        refine x_S1i (pc := 33) F dX8_taught_33 lk_X8_186 rfl (c_X8_many _ (by omega) _) rfl rfl rfl ?_
        rintro _ _ ⟨rfl, rfl⟩
        refine x_aload_n (i := 0) (pc := 36) F dX8_taught_36 rfl rfl ?_
        refine x_iload_n (i := 1) (pc := 37) F dX8_taught_37 rfl rfl ?_
        refine x_iload (i := 4) (pc := 38) F dX8_taught_38 rfl ?_
        refine x_V2i (ci := 8) (pc := 40) F dX8_taught_40 lk_X8_111 rfl (vm_ok rfl) rfl rfl (c_X8_walkAt hT g (lpK (fun i => T (4 * g + 1 + i)) w n) (by omega)) rfl rfl rfl ?_
        rintro _ _ ⟨rfl, rfl⟩
        refine x_iload_n (i := 2) (pc := 43) F dX8_taught_43 rfl rfl ?_
        refine tq_ixor (pc := 44) F dX8_taught_44 (by omega) ?_
        refine x_S1i (pc := 45) F dX8_taught_45 lk_X8_186 rfl (c_X8_many _ (by omega) _) rfl rfl rfl ?_
        rintro _ _ ⟨rfl, rfl⟩
        rw [hp1, hp2]
        refine x_icmp_le (tgt := 56) (pc := 48) F dX8_taught_48 rfl (by omega) (fun h48 => ?_) (fun h48 => ?_)
        · refine x_iload (i := 4) (pc := 56) F dX8_taught_56 rfl ?_
          refine x_istore (i := 4) (pc := 58) F dX8_taught_58 rfl ?_
          refine x_iinc (pc := 60) F dX8_taught_60 rfl rfl ?_
          refine x_goto (tgt := 18) (pc := 63) F dX8_taught_63 rfl ?_
          first | (rw [if_pos (by omega)] at hs; exact x_sub (L' := [(0, .ref (ad (30, 0, 0))), (1, .int (I g)), (2, .int (I w)), (4, .int (I (lpK (fun i => T (4 * g + 1 + i)) w (n + 1)))), (5, .int (I (((n + 1 : Nat) : Int) + 1)))]) ⟨rfl, rfl, rfl, lk_i rfl hs.symm, rfl, trivial⟩ (ih (n + 1) (by omega) (by omega) b3)) | (rw [if_neg (by omega)] at hs; exact x_sub (L' := [(0, .ref (ad (30, 0, 0))), (1, .int (I g)), (2, .int (I w)), (4, .int (I (lpK (fun i => T (4 * g + 1 + i)) w (n + 1)))), (5, .int (I (((n + 1 : Nat) : Int) + 1)))]) ⟨rfl, rfl, rfl, lk_i rfl hs.symm, rfl, trivial⟩ (ih (n + 1) (by omega) (by omega) b3))
        · refine x_iload (i := 5) (pc := 51) F dX8_taught_51 rfl ?_
          refine x_goto (tgt := 58) (pc := 53) F dX8_taught_53 rfl ?_
          refine x_istore (i := 4) (pc := 58) F dX8_taught_58 rfl ?_
          refine x_iinc (pc := 60) F dX8_taught_60 rfl rfl ?_
          refine x_goto (tgt := 18) (pc := 63) F dX8_taught_63 rfl ?_
          first | (rw [if_pos (by omega)] at hs; exact x_sub (L' := [(0, .ref (ad (30, 0, 0))), (1, .int (I g)), (2, .int (I w)), (4, .int (I (lpK (fun i => T (4 * g + 1 + i)) w (n + 1)))), (5, .int (I (((n + 1 : Nat) : Int) + 1)))]) ⟨rfl, rfl, rfl, lk_i rfl hs.symm, rfl, trivial⟩ (ih (n + 1) (by omega) (by omega) b3)) | (rw [if_neg (by omega)] at hs; exact x_sub (L' := [(0, .ref (ad (30, 0, 0))), (1, .int (I g)), (2, .int (I w)), (4, .int (I (lpK (fun i => T (4 * g + 1 + i)) w (n + 1)))), (5, .int (I (((n + 1 : Nat) : Int) + 1)))]) ⟨rfl, rfl, rfl, lk_i rfl hs.symm, rfl, trivial⟩ (ih (n + 1) (by omega) (by omega) b3))
  refine x_bipush (pc := 0) F dX8_taught_0 (by decide) ?_
  refine x_istore_n (i := 3) (pc := 2) F dX8_taught_2 rfl rfl ?_
  refine x_aload_n (i := 0) (pc := 3) F dX8_taught_3 rfl rfl ?_
  refine x_iload_n (i := 1) (pc := 4) F dX8_taught_4 rfl rfl ?_
  refine x_V1i (ci := 8) (pc := 5) F dX8_taught_5 lk_X8_108 rfl (vm_ok rfl) rfl rfl (c_X8_known hT g hg) rfl rfl rfl ?_
  rintro _ _ ⟨rfl, rfl⟩
  refine x_iconst (pc := 8) F dX8_taught_8 ?_
  refine x_icmp_ne (tgt := 128) (pc := 9) F dX8_taught_9 rfl (by omega) (fun h9 => ?_) (fun h9 => ?_)
  · refine x_sub (L' := [(0, .ref (ad (30, 0, 0))), (1, .int (I g)), (2, .int (I w)), (3, .int (I (-5)))]) ⟨rfl, rfl, rfl, rfl, trivial⟩ (l128 μ T (-5) hT (by omega) (fun _ _ => rfl) (by unfold lostT lostS; rw [if_neg h9]) (fun j _ _ => ?_))
    rcases tau_lo (w := w) h9 j with q | q
    · exact q
    · exact absurd hk1 q
  · refine x_iconst (pc := 12) F dX8_taught_12 ?_
    refine x_istore (i := 4) (pc := 13) F dX8_taught_13 rfl ?_
    refine x_iconst (pc := 15) F dX8_taught_15 ?_
    refine x_istore (i := 5) (pc := 16) F dX8_taught_16 rfl ?_
    exact x_sub (L' := [(0, .ref (ad (30, 0, 0))), (1, .int (I g)), (2, .int (I w)), (4, .int (I (lpK (fun i => T (4 * g + 1 + i)) w 0))), (5, .int (I (((0 : Nat) : Int) + 1)))]) ⟨rfl, rfl, rfl, rfl, rfl, trivial⟩ (l18 3 0 (by omega) (by omega) h9)
end MTA
