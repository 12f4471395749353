/-! ===== the reference reads a text: clauses ===== -/
def FS (μ μ' : Me) : Prop := (∀ k, k < 11 ∨ 16 < k → μ' (30, 0, 0) k = μ (30, 0, 0) k) ∧ ∀ o, o ≠ (30, 0, 0) → μ' o = μ o
theorem FS.trans {μ μ1 μ2 : Me} (h : FS μ μ1) (h2 : FS μ1 μ2) : FS μ μ2 := ⟨fun k hk => by rw [h2.1 k hk, h.1 k hk], fun o ho => by rw [h2.2 o ho, h.2 o ho]⟩
theorem FS.refl (μ : Me) : FS μ μ := ⟨fun _ _ => rfl, fun _ _ => rfl⟩
theorem FS.mv {μ μ' : Me} {a w : Int} (h : MV μ μ' a w) : FS μ μ' := ⟨fun k hk => h.2.2.1 k (by omega) (by omega), h.2.2.2⟩
theorem FS.up {μ : Me} {k z : Int} (h : 11 ≤ k ∧ k ≤ 16) : FS μ (upM μ (30, 0, 0) k z) := ⟨fun j hj => by rw [upM_i, if_neg (by omega)], fun o ho => upM_ne ho⟩
theorem RM.up {μ : Me} {tx : Tn} {tl a w k z : Int} (h : RM μ tx tl a w) (hk : 13 ≤ k ∧ k ≤ 16) : RM (upM μ (30, 0, 0) k z) tx tl a w := by
  unfold RM
  rw [upM_i, if_neg (by omega), upM_i, if_neg (by omega), upM_i, if_neg (by omega), upM_ne (by simp)]
  exact h
theorem NM.fs {μ μ' : Me} {vals : Tn} (h : NM μ vals) (e : FS μ μ') : NM μ' vals := by
  unfold NM MS at *
  rw [e.2 (39, 0, 0) (by simp), e.2 (40, 0, 0) (by simp), e.2 (38, 0, 0) (by simp)]
  exact h
def MC (μ : Me) (tx : Tn) (tl : Int) (c : Cl) (vals : Tn) : Prop := RM μ tx tl c.1 1 ∧ μ (30, 0, 0) 14 = c.2.2.1 vals ∧ μ (30, 0, 0) 15 = c.2.2.2.1 ∧ μ (30, 0, 0) 16 = c.2.2.2.2
def MCo (μ μ' : Me) (tx : Tn) (tl : Int) (r : Bool × Cl) (vals : Tn) : Prop := μ' (30, 0, 0) 11 = r.2.1 ∧ μ' (30, 0, 0) 12 = bI r.1 ∧ FS μ μ' ∧ (r.1 = true → MC μ' tx tl r.2 vals)
theorem mtc_spec {tx : Tn} {tl : Int} : ∀ (w : List Int) (a : Int), (∀ j : Nat, j < mtc tx tl w a → chA tx tl (a + j) = w.getD j 0) ∧ (mtc tx tl w a = w.length ∨ chA tx tl (a + mtc tx tl w a) ≠ w.getD (mtc tx tl w a) 0)
  | [], a => ⟨fun j hj => absurd hj (Nat.not_lt_zero j), Or.inl rfl⟩
  | c :: w, a => by
    simp only [mtc]
    by_cases e : chA tx tl a = c
    · rw [if_pos e]
      obtain ⟨h1, h2⟩ := mtc_spec (tx := tx) (tl := tl) w (a + 1)
      refine ⟨fun j hj => ?_, ?_⟩
      · cases j with
        | zero => simp only [Int.natCast_zero, Int.add_zero]; rw [e]; rfl
        | succ j => rw [show a + ((j + 1 : Nat) : Int) = a + 1 + (j : Int) by omega, h1 j (by omega)]; rfl
      · rcases h2 with h2 | h2
        · left; simp [h2]
        · right
          rw [show a + ((mtc tx tl w (a + 1) + 1 : Nat) : Int) = a + 1 + (mtc tx tl w (a + 1) : Int) by omega]
          exact h2
    · rw [if_neg e]
      exact ⟨fun j hj => absurd hj (Nat.not_lt_zero j), Or.inr (by simp only [Int.natCast_zero, Int.add_zero]; exact e)⟩
theorem wd_ch (i : Int) : ∀ k : Nat, (k < (wdL i).length → 0 < (wdL i).getD k 0 ∧ (wdL i).getD k 0 < 128) ∧ ((wdL i).length ≤ k → (wdL i).getD k 0 = 0) := by
  intro k
  refine ⟨fun h => ?_, fun h => ?_⟩
  · have h0 : ∀ i < 4, ∀ k < 6, k < (wdL ((i : Nat) : Int)).length → 0 < (wdL ((i : Nat) : Int)).getD k 0 ∧ (wdL ((i : Nat) : Int)).getD k 0 < 128 := by decide
    have hl := wdL_len i
    have hi : ∃ j : Nat, j < 4 ∧ wdL i = wdL ((j : Nat) : Int) := by
      by_cases e0 : i = 0
      · exact ⟨0, by omega, by rw [e0]; rfl⟩
      by_cases e1 : i = 1
      · exact ⟨1, by omega, by rw [e1]; rfl⟩
      by_cases e2 : i = 2
      · exact ⟨2, by omega, by rw [e2]; rfl⟩
      exact ⟨3, by omega, by unfold wdL; rw [if_neg e0, if_neg e1, if_neg e2]; rfl⟩
    obtain ⟨j, hj, ej⟩ := hi
    rw [ej] at h hl ⊢
    exact h0 j hj k (by omega) h
  · rw [List.getD_eq_getElem?_getD, List.getElem?_eq_none h]; rfl
section MCL
variable {ad : Ob → Nat} {μ : Me} {tx vals : Tn} {tl : Int} {c : Cl}
set_option maxRecDepth 20000 in
theorem c_X8_clause (hC : MC μ tx tl c vals) (hN : NM μ vals) (l : Launch) (E : Ev) (A : Nat → Prop) : Con l E 18 m_X8_clause A VM ad μ [.ref (ad (30, 0, 0))] (pv fun μ' => MCo μ μ' tx tl (clS tx tl c) vals) := by
  obtain ⟨hR, hsum, hnd, hag⟩ := id hC
  have hch := hR.ch hR.2.2.1.2.1
  have hch1 := hR.ch (b := c.1 + 1) (by have := hR.2.2.1.2.1; omega)
  obtain ⟨⟨s0, s1, s2⟩, ⟨a0, a1, a2⟩, w0, w1, w2⟩ : (μ (30, 0, 0) 10 = tl ∧ 0 ≤ tl ∧ tl ≤ 100) ∧ (μ (30, 0, 0) 11 = c.1 ∧ 0 ≤ c.1 ∧ c.1 ≤ tl) ∧ μ (30, 0, 0) 12 = 1 ∧ (0 : Int) ≤ 1 ∧ (1 : Int) ≤ 1 := ⟨hR.1, hR.2.2.1, hR.2.2.2⟩
  have hwi := wdI_rg tx tl c.1
  have hm := mtc_rg (tx := tx) (tl := tl) (wdL (wdI tx tl c.1)) c.1 a2 (wdL_ne _)
  have hwl := wdL_len (wdI tx tl c.1)
  have hmd : wdM tx tl c.1 = mtc tx tl (wdL (wdI tx tl c.1)) c.1 := rfl
  have hA : clA tx tl c.1 = c.1 + (wdL (wdI tx tl c.1)).length := rfl
  obtain ⟨hsp1, hsp2⟩ := mtc_spec (tx := tx) (tl := tl) (wdL (wdI tx tl c.1)) c.1
  rw [← hmd] at hsp1 hsp2 hm
  refine con (own := RX8) (by decide +kernel) rfl rfl rfl (fun Γ F => ?_)
  have fin : ∀ (μ1 : Me) (b : Int), RM μ1 tx tl b 0 → FS μ μ1 → clS tx tl c = clF c b → MCo μ μ1 tx tl (clS tx tl c) vals := fun μ1 b r1 f1 e => by
    rw [e]; exact ⟨r1.2.2.1.1, r1.2.2.2.1, f1, fun z => by cases z⟩
  have f161 : ∀ (μ1 : Me) (b n : Int), RM μ1 tx tl b 0 → FS μ μ1 → clS tx tl c = clF c b → -2147483648 ≤ n ∧ n < 2147483648 → XX Γ 4 VM ad (vl ad μ1) 0 0 161 [(0, .ref (ad (30, 0, 0))), (1, .int (I (wdI tx tl c.1))), (2, .int (I n))] [] := by
    intro μ1 b n r1 f1 ec hn
    refine x_aload_n (i := 0) (pc := 161) F dX8_clause_161 rfl rfl ?_
    refine x_iconst (pc := 162) F dX8_clause_162 ?_
    refine pf_X8_149 (pc := 163) F dX8_clause_163 (vm_ok rfl) ?_
    have r2 := r1.up (k := 13) (z := 0) (by decide)
    have f2 := f1.trans (FS.up (k := 13) (z := 0) (by decide))
    refine x_aload_n (i := 0) (pc := 166) F dX8_clause_166 rfl rfl ?_
    refine x_V0z (ci := 8) (pc := 167) F dX8_clause_167 lk_X8_155 rfl (vm_ok rfl) rfl rfl (c_X8_any0 r2 (hN.fs f2).1 (by rw [upM_i, if_pos rfl]; decide)) rfl rfl rfl ?_
    rintro z μ2 q2
    refine x_istore_n (i := 3) (pc := 170) F dX8_clause_170 rfl rfl ?_
    have r3 := r2.mv q2 ⟨⟨r1.2.2.1.2.1, r1.2.2.1.2.2⟩, by decide, by decide⟩
    refine x_aload_n (i := 0) (pc := 171) F dX8_clause_171 rfl rfl ?_
    refine x_dup (pc := 172) F dX8_clause_172 rfl ?_
    refine gf_X8_170 (pc := 173) F dX8_clause_173 (vm_ok rfl) ?_
    refine x_iload_n (i := 3) (pc := 176) F dX8_clause_176 rfl rfl ?_
    refine x_if_neB (tgt := 184) (pc := 177) F dX8_clause_177 rfl (fun h177 => ?_) (fun h177 => ?_)
    · try simp only [decide_eq_true_eq, decide_eq_false_iff_not, Bool.and_eq_true, Bool.or_eq_true, Bool.not_eq_true', Bool.not_eq_false', Bool.and_eq_false_iff, Bool.or_eq_false_iff] at h177
      refine x_iload_n (i := 1) (pc := 184) F dX8_clause_184 rfl rfl ?_
      refine x_if_ne (tgt := 192) (pc := 185) F dX8_clause_185 rfl (by omega) (fun h185 => ?_) (fun h185 => ?_)
      · refine x_iload_n (i := 2) (pc := 192) F dX8_clause_192 rfl rfl ?_
        refine x_ineg (pc := 193) F dX8_clause_193 ?_
        refine x_iadd (pc := 194) F dX8_clause_194 ?_
        refine pf_X8_170 (pc := 195) F dX8_clause_195 (vm_ok rfl) ?_
        refine tq_retv (pc := 198) F dX8_clause_198 ?_ rfl rfl rfl
        exact fin _ b (r3.up (by decide)) ((f2.trans (FS.mv q2)).trans (FS.up (by decide))) ec
      · refine x_iload_n (i := 2) (pc := 188) F dX8_clause_188 rfl rfl ?_
        refine x_goto (tgt := 194) (pc := 189) F dX8_clause_189 rfl ?_
        refine x_iadd (pc := 194) F dX8_clause_194 ?_
        refine pf_X8_170 (pc := 195) F dX8_clause_195 (vm_ok rfl) ?_
        refine tq_retv (pc := 198) F dX8_clause_198 ?_ rfl rfl rfl
        exact fin _ b (r3.up (by decide)) ((f2.trans (FS.mv q2)).trans (FS.up (by decide))) ec
    · try simp only [decide_eq_true_eq, decide_eq_false_iff_not, Bool.and_eq_true, Bool.or_eq_true, Bool.not_eq_true', Bool.not_eq_false', Bool.and_eq_false_iff, Bool.or_eq_false_iff] at h177
      refine x_iconst (pc := 180) F dX8_clause_180 ?_
      refine x_goto (tgt := 194) (pc := 181) F dX8_clause_181 rfl ?_
      refine x_iadd (pc := 194) F dX8_clause_194 ?_
      refine pf_X8_170 (pc := 195) F dX8_clause_195 (vm_ok rfl) ?_
      refine tq_retv (pc := 198) F dX8_clause_198 ?_ rfl rfl rfl
      exact fin _ b (r3.up (by decide)) ((f2.trans (FS.mv q2)).trans (FS.up (by decide))) ec
  have f115 : ∀ (μ1 : Me) (b n : Int), RM μ1 tx tl b 0 → FS μ μ1 → clS tx tl c = clF c b → -2147483648 ≤ n ∧ n < 2147483648 → XX Γ 4 VM ad (vl ad μ1) 0 0 115 [(0, .ref (ad (30, 0, 0))), (1, .int (I (wdI tx tl c.1))), (2, .int (I n))] [] := by
    intro μ1 b n r1 f1 ec hn
    refine x_iload_n (i := 1) (pc := 115) F dX8_clause_115 rfl rfl ?_
    refine x_iconst (pc := 116) F dX8_clause_116 ?_
    refine x_icmp_le (tgt := 155) (pc := 117) F dX8_clause_117 rfl (by omega) (fun h117 => ?_) (fun h117 => ?_)
    · refine x_aload_n (i := 0) (pc := 155) F dX8_clause_155 rfl rfl ?_
      refine x_bipush (pc := 156) F dX8_clause_156 (by decide) ?_
      refine x_V1v (ci := 8) (pc := 158) F dX8_clause_158 lk_X8_141 rfl (vm_ok rfl) rfl rfl (c_X8_takes r1 32 (by decide)) rfl rfl rfl ?_
      rintro μ2 q2
      rw [if_neg (fun z => absurd z.1 (by decide)), if_neg (fun z => absurd z.1 (by decide))] at q2
      have r2 := r1.mv q2 ⟨⟨r1.2.2.1.2.1, r1.2.2.1.2.2⟩, by decide, by decide⟩
      exact f161 μ2 b n r2 (f1.trans (FS.mv q2)) ec hn
    · refine x_aload_n (i := 0) (pc := 120) F dX8_clause_120 rfl rfl ?_
      refine x_iload_n (i := 1) (pc := 121) F dX8_clause_121 rfl rfl ?_
      refine x_iconst (pc := 122) F dX8_clause_122 ?_
      refine x_icmp_ne (tgt := 130) (pc := 123) F dX8_clause_123 rfl (by omega) (fun h123 => ?_) (fun h123 => ?_)
      · refine x_aload_n (i := 0) (pc := 130) F dX8_clause_130 rfl rfl ?_
        refine gf_X8_164 (pc := 131) F dX8_clause_131 (vm_ok rfl) ?_
        refine pf_X8_164 (pc := 134) F dX8_clause_134 (vm_ok rfl) ?_
        refine x_aload_n (i := 0) (pc := 137) F dX8_clause_137 rfl rfl ?_
        refine x_iload_n (i := 1) (pc := 138) F dX8_clause_138 rfl rfl ?_
        refine x_iconst (pc := 139) F dX8_clause_139 ?_
        refine x_icmp_ne (tgt := 147) (pc := 140) F dX8_clause_140 rfl (by omega) (fun h140 => ?_) (fun h140 => ?_)
        · refine x_aload_n (i := 0) (pc := 147) F dX8_clause_147 rfl rfl ?_
          refine gf_X8_167 (pc := 148) F dX8_clause_148 (vm_ok rfl) ?_
          refine pf_X8_167 (pc := 151) F dX8_clause_151 (vm_ok rfl) ?_
          refine tq_retv (pc := 154) F dX8_clause_154 ?_ rfl rfl rfl
          exact fin _ b ((r1.up (by decide)).up (by decide)) ((f1.trans (FS.up (by decide))).trans (FS.up (by decide))) ec
        · refine x_iload_n (i := 2) (pc := 143) F dX8_clause_143 rfl rfl ?_
          refine x_goto (tgt := 151) (pc := 144) F dX8_clause_144 rfl ?_
          refine pf_X8_167 (pc := 151) F dX8_clause_151 (vm_ok rfl) ?_
          refine tq_retv (pc := 154) F dX8_clause_154 ?_ rfl rfl rfl
          exact fin _ b ((r1.up (by decide)).up (by decide)) ((f1.trans (FS.up (by decide))).trans (FS.up (by decide))) ec
      · refine x_iload_n (i := 2) (pc := 126) F dX8_clause_126 rfl rfl ?_
        refine x_goto (tgt := 134) (pc := 127) F dX8_clause_127 rfl ?_
        refine pf_X8_164 (pc := 134) F dX8_clause_134 (vm_ok rfl) ?_
        refine x_aload_n (i := 0) (pc := 137) F dX8_clause_137 rfl rfl ?_
        refine x_iload_n (i := 1) (pc := 138) F dX8_clause_138 rfl rfl ?_
        refine x_iconst (pc := 139) F dX8_clause_139 ?_
        refine x_icmp_ne (tgt := 147) (pc := 140) F dX8_clause_140 rfl (by omega) (fun h140 => ?_) (fun h140 => ?_)
        · refine x_aload_n (i := 0) (pc := 147) F dX8_clause_147 rfl rfl ?_
          refine gf_X8_167 (pc := 148) F dX8_clause_148 (vm_ok rfl) ?_
          refine pf_X8_167 (pc := 151) F dX8_clause_151 (vm_ok rfl) ?_
          refine tq_retv (pc := 154) F dX8_clause_154 ?_ rfl rfl rfl
          exact fin _ b ((r1.up (by decide)).up (by decide)) ((f1.trans (FS.up (by decide))).trans (FS.up (by decide))) ec
        · refine x_iload_n (i := 2) (pc := 143) F dX8_clause_143 rfl rfl ?_
          refine x_goto (tgt := 151) (pc := 144) F dX8_clause_144 rfl ?_
          refine pf_X8_167 (pc := 151) F dX8_clause_151 (vm_ok rfl) ?_
          refine tq_retv (pc := 154) F dX8_clause_154 ?_ rfl rfl rfl
          exact fin _ b ((r1.up (by decide)).up (by decide)) ((f1.trans (FS.up (by decide))).trans (FS.up (by decide))) ec
  have f110 : ∀ (μ1 : Me) (b w : Int), RM μ1 tx tl b 0 → FS μ μ1 → clS tx tl c = clF c b → XX Γ 4 VM ad (vl ad μ1) 0 0 110 [(0, .ref (ad (30, 0, 0))), (1, .int (I (wdI tx tl c.1))), (2, .int (I w))] [] := by
    intro μ1 b w r1 f1 ec
    refine x_aload_n (i := 0) (pc := 110) F dX8_clause_110 rfl rfl ?_
    refine x_V0i (ci := 8) (pc := 111) F dX8_clause_111 lk_X8_145 rfl (vm_ok rfl) rfl rfl (c_X8_number r1) rfl rfl rfl ?_
    rintro z μ2 ⟨rfl, q2⟩
    rw [if_neg (by decide), if_neg (fun z => absurd z.1 (by decide))] at q2
    rw [if_neg (fun z => absurd z.1 (by decide))]
    refine x_istore_n (i := 2) (pc := 114) F dX8_clause_114 rfl rfl ?_
    have r2 := r1.mv q2 ⟨⟨r1.2.2.1.2.1, r1.2.2.1.2.2⟩, by decide, by decide⟩
    exact x_sub (L' := [(0, .ref (ad (30, 0, 0))), (1, .int (I (wdI tx tl c.1))), (2, .int (I 0))]) ⟨rfl, rfl, rfl, trivial⟩ (f115 μ2 b 0 r2 (f1.trans (FS.mv q2)) ec (by decide))
  have g161 : ∀ (μ1 : Me), ¬ (wdM tx tl c.1 : Int) < (wdL (wdI tx tl c.1)).length → chA tx tl (clA tx tl c.1) = 32 → nuN tx tl (clA tx tl c.1 + 1) ≠ -1 → wdI tx tl c.1 ≠ 2 ∧ wdI tx tl c.1 ≠ 3 → chA tx tl (nuA tx tl (clA tx tl c.1 + 1)) = 32 → nuN tx tl (clA tx tl c.1 + 1) ≤ 99 → 0 ≤ nuN tx tl (clA tx tl c.1 + 1) → RM μ1 tx tl (nuA tx tl (clA tx tl c.1 + 1) + 1) 1 → FS μ μ1 → (∀ k, 13 ≤ k → μ1 (30, 0, 0) k = μ (30, 0, 0) k) → XX Γ 4 VM ad (vl ad μ1) 0 0 161 [(0, .ref (ad (30, 0, 0))), (1, .int (I (wdI tx tl c.1))), (2, .int (I (nuN tx tl (clA tx tl c.1 + 1))))] [] := by
    intro μ1 c1 c2 c3 c4 c5 hn9 hn0 r1 f1 e13
    have hg := (pS_gd (tx := tx) (tl := tl) 1000 0 (by decide) (by decide)).2.2.2.1 (nuA tx tl (clA tx tl c.1 + 1) + 1) r1.2.2.1.2.2
    have h7 := clS_7 c1 c2 c3 c4 c5
    refine x_aload_n (i := 0) (pc := 161) F dX8_clause_161 rfl rfl ?_
    refine x_iconst (pc := 162) F dX8_clause_162 ?_
    refine pf_X8_149 (pc := 163) F dX8_clause_163 (vm_ok rfl) ?_
    have r2 := r1.up (k := 13) (z := 0) (by decide)
    have f2 := f1.trans (FS.up (k := 13) (z := 0) (by decide))
    refine x_aload_n (i := 0) (pc := 166) F dX8_clause_166 rfl rfl ?_
    refine x_V0z (ci := 8) (pc := 167) F dX8_clause_167 lk_X8_155 rfl (vm_ok rfl) rfl rfl (c_X8_any r2 (hN.fs f2) (by rw [upM_i, if_pos rfl])) rfl rfl rfl ?_
    rintro z μ2 ⟨q1, q2⟩
    refine x_istore_n (i := 3) (pc := 170) F dX8_clause_170 rfl rfl ?_
    have hga : 0 ≤ (fA tx tl 1000 0 (nuA tx tl (clA tx tl c.1 + 1) + 1)).2.1 := by have := r1.2.2.1.2.1; cases e : (fA tx tl 1000 0 (nuA tx tl (clA tx tl c.1 + 1) + 1)).1; (have := hg.2.1 e; omega); (have := hg.2.2 e; omega)
    have r3 := r2.mv q1 ⟨⟨hga, hg.1⟩, bI_rg _⟩
    have f3 := f2.trans (FS.mv q1)
    have e14 : ∀ k, 14 ≤ k → μ2 (30, 0, 0) k = μ (30, 0, 0) k := fun k hk => by rw [q1.2.2.1 k (by omega) (by omega), upM_i, if_neg (by omega), e13 k (by omega)]
    refine x_aload_n (i := 0) (pc := 171) F dX8_clause_171 rfl rfl ?_
    refine x_dup (pc := 172) F dX8_clause_172 rfl ?_
    refine gf_X8_170 (pc := 173) F dX8_clause_173 (vm_ok rfl) ?_
    refine x_iload_n (i := 3) (pc := 176) F dX8_clause_176 rfl rfl ?_
    refine x_if_neB (tgt := 184) (pc := 177) F dX8_clause_177 rfl (fun h177 => ?_) (fun h177 => ?_)
    · try simp only [decide_eq_true_eq, decide_eq_false_iff_not, Bool.and_eq_true, Bool.or_eq_true, Bool.not_eq_true', Bool.not_eq_false', Bool.and_eq_false_iff, Bool.or_eq_false_iff] at h177
      refine x_iload_n (i := 1) (pc := 184) F dX8_clause_184 rfl rfl ?_
      refine x_if_ne (tgt := 192) (pc := 185) F dX8_clause_185 rfl (by omega) (fun h185 => ?_) (fun h185 => ?_)
      · refine x_iload_n (i := 2) (pc := 192) F dX8_clause_192 rfl rfl ?_
        refine x_ineg (pc := 193) F dX8_clause_193 ?_
        refine x_iadd (pc := 194) F dX8_clause_194 ?_
        refine pf_X8_170 (pc := 195) F dX8_clause_195 (vm_ok rfl) ?_
        refine tq_retv (pc := 198) F dX8_clause_198 ?_ rfl rfl rfl
        rw [h7]
        cases e : (fA tx tl 1000 0 (nuA tx tl (clA tx tl c.1 + 1) + 1)).1
        · rw [e] at r3 h7
          rw [if_neg (by decide)] at h7 ⊢
          rw [← h7]
          exact fin _ _ (r3.up (by decide)) (f3.trans (FS.up (by decide))) h7
        · rw [e] at r3
          rw [if_pos rfl]
          refine ⟨(r3.up (by decide)).2.2.1.1, (r3.up (by decide)).2.2.2.1, f3.trans (FS.up (by decide)), fun _ => ⟨r3.up (by decide), ?_, by rw [upM_i, if_neg (by decide), e14 15 (by decide)]; exact hnd, by rw [upM_i, if_neg (by decide), e14 16 (by decide)]; exact hag⟩⟩
          rw [upM_i, if_pos rfl, e14 14 (by decide), hsum]
          simp only [hlp]
          rw [← q2 e]
          first | (rw [h177, if_neg (by decide)]; done) | (rw [h177, if_pos rfl, if_pos h185]; done) | (rw [h177, if_pos rfl, if_neg h185]; done)
      · refine x_iload_n (i := 2) (pc := 188) F dX8_clause_188 rfl rfl ?_
        refine x_goto (tgt := 194) (pc := 189) F dX8_clause_189 rfl ?_
        refine x_iadd (pc := 194) F dX8_clause_194 ?_
        refine pf_X8_170 (pc := 195) F dX8_clause_195 (vm_ok rfl) ?_
        refine tq_retv (pc := 198) F dX8_clause_198 ?_ rfl rfl rfl
        rw [h7]
        cases e : (fA tx tl 1000 0 (nuA tx tl (clA tx tl c.1 + 1) + 1)).1
        · rw [e] at r3 h7
          rw [if_neg (by decide)] at h7 ⊢
          rw [← h7]
          exact fin _ _ (r3.up (by decide)) (f3.trans (FS.up (by decide))) h7
        · rw [e] at r3
          rw [if_pos rfl]
          refine ⟨(r3.up (by decide)).2.2.1.1, (r3.up (by decide)).2.2.2.1, f3.trans (FS.up (by decide)), fun _ => ⟨r3.up (by decide), ?_, by rw [upM_i, if_neg (by decide), e14 15 (by decide)]; exact hnd, by rw [upM_i, if_neg (by decide), e14 16 (by decide)]; exact hag⟩⟩
          rw [upM_i, if_pos rfl, e14 14 (by decide), hsum]
          simp only [hlp]
          rw [← q2 e]
          first | (rw [h177, if_neg (by decide)]; done) | (rw [h177, if_pos rfl, if_pos h185]; done) | (rw [h177, if_pos rfl, if_neg h185]; done)
    · try simp only [decide_eq_true_eq, decide_eq_false_iff_not, Bool.and_eq_true, Bool.or_eq_true, Bool.not_eq_true', Bool.not_eq_false', Bool.and_eq_false_iff, Bool.or_eq_false_iff] at h177
      refine x_iconst (pc := 180) F dX8_clause_180 ?_
      refine x_goto (tgt := 194) (pc := 181) F dX8_clause_181 rfl ?_
      refine x_iadd (pc := 194) F dX8_clause_194 ?_
      refine pf_X8_170 (pc := 195) F dX8_clause_195 (vm_ok rfl) ?_
      refine tq_retv (pc := 198) F dX8_clause_198 ?_ rfl rfl rfl
      rw [h7]
      cases e : (fA tx tl 1000 0 (nuA tx tl (clA tx tl c.1 + 1) + 1)).1
      · rw [e] at r3 h7
        rw [if_neg (by decide)] at h7 ⊢
        rw [← h7]
        exact fin _ _ (r3.up (by decide)) (f3.trans (FS.up (by decide))) h7
      · rw [e] at r3
        rw [if_pos rfl]
        refine ⟨(r3.up (by decide)).2.2.1.1, (r3.up (by decide)).2.2.2.1, f3.trans (FS.up (by decide)), fun _ => ⟨r3.up (by decide), ?_, by rw [upM_i, if_neg (by decide), e14 15 (by decide)]; exact hnd, by rw [upM_i, if_neg (by decide), e14 16 (by decide)]; exact hag⟩⟩
        rw [upM_i, if_pos rfl, e14 14 (by decide), hsum]
        simp only [hlp]
        rw [← q2 e]
        first | (rw [h177, if_neg (by decide)]; done) | (rw [h177, if_pos rfl, if_pos h185]; done) | (rw [h177, if_pos rfl, if_neg h185]; done)
  have g115 : ∀ (μ1 : Me), ¬ (wdM tx tl c.1 : Int) < (wdL (wdI tx tl c.1)).length → chA tx tl (clA tx tl c.1) = 32 → nuN tx tl (clA tx tl c.1 + 1) ≠ -1 → nuN tx tl (clA tx tl c.1 + 1) ≤ 99 → 0 ≤ nuN tx tl (clA tx tl c.1 + 1) → RM μ1 tx tl (nuA tx tl (clA tx tl c.1 + 1)) 1 → FS μ μ1 → (∀ k, 13 ≤ k → μ1 (30, 0, 0) k = μ (30, 0, 0) k) → XX Γ 4 VM ad (vl ad μ1) 0 0 115 [(0, .ref (ad (30, 0, 0))), (1, .int (I (wdI tx tl c.1))), (2, .int (I (nuN tx tl (clA tx tl c.1 + 1))))] [] := by
    intro μ1 c1 c2 c3 hn9 hn0 r1 f1 e13
    have e15 : ∀ (z : Int), upM μ1 (30, 0, 0) 15 z (30, 0, 0) 16 = μ (30, 0, 0) 16 := fun z => by rw [upM_i, if_neg (by decide), e13 16 (by decide)]
    refine x_iload_n (i := 1) (pc := 115) F dX8_clause_115 rfl rfl ?_
    refine x_iconst (pc := 116) F dX8_clause_116 ?_
    refine x_icmp_le (tgt := 155) (pc := 117) F dX8_clause_117 rfl (by omega) (fun h117 => ?_) (fun h117 => ?_)
    · refine x_aload_n (i := 0) (pc := 155) F dX8_clause_155 rfl rfl ?_
      refine x_bipush (pc := 156) F dX8_clause_156 (by decide) ?_
      refine x_V1v (ci := 8) (pc := 158) F dX8_clause_158 lk_X8_141 rfl (vm_ok rfl) rfl rfl (c_X8_takes r1 32 (by decide)) rfl rfl rfl ?_
      rintro μ2 q2
      have c4 : wdI tx tl c.1 ≠ 2 ∧ wdI tx tl c.1 ≠ 3 := by omega
      by_cases c5 : chA tx tl (nuA tx tl (clA tx tl c.1 + 1)) = 32
      · have l5 := chA_lt (tx := tx) (tl := tl) (a := nuA tx tl (clA tx tl c.1 + 1)) (by omega)
        rw [if_pos ⟨rfl, c5⟩, if_pos ⟨rfl, c5⟩] at q2
        exact g161 μ2 c1 c2 c3 c4 c5 hn9 hn0 (r1.mv q2 ⟨⟨by have := r1.2.2.1.2.1; omega, by omega⟩, by decide, by decide⟩) (f1.trans (FS.mv q2)) (fun k hk => by rw [q2.2.2.1 k (by omega) (by omega), e13 k hk])
      · rw [if_neg (fun z => c5 z.2), if_neg (fun z => c5 z.2)] at q2
        exact f161 μ2 _ _ (r1.mv q2 ⟨⟨r1.2.2.1.2.1, r1.2.2.1.2.2⟩, by decide, by decide⟩) (f1.trans (FS.mv q2)) (clS_6 c1 c2 c3 c4 c5) (by omega)
    · refine x_aload_n (i := 0) (pc := 120) F dX8_clause_120 rfl rfl ?_
      refine x_iload_n (i := 1) (pc := 121) F dX8_clause_121 rfl rfl ?_
      refine x_iconst (pc := 122) F dX8_clause_122 ?_
      refine x_icmp_ne (tgt := 130) (pc := 123) F dX8_clause_123 rfl (by omega) (fun h123 => ?_) (fun h123 => ?_)
      · refine x_aload_n (i := 0) (pc := 130) F dX8_clause_130 rfl rfl ?_
        refine gf_X8_164 (pc := 131) F dX8_clause_131 (vm_ok rfl) ?_
        refine pf_X8_164 (pc := 134) F dX8_clause_134 (vm_ok rfl) ?_
        refine x_aload_n (i := 0) (pc := 137) F dX8_clause_137 rfl rfl ?_
        refine x_iload_n (i := 1) (pc := 138) F dX8_clause_138 rfl rfl ?_
        refine x_iconst (pc := 139) F dX8_clause_139 ?_
        refine x_icmp_ne (tgt := 147) (pc := 140) F dX8_clause_140 rfl (by omega) (fun h140 => ?_) (fun h140 => ?_)
        · refine x_aload_n (i := 0) (pc := 147) F dX8_clause_147 rfl rfl ?_
          refine gf_X8_167 (pc := 148) F dX8_clause_148 (vm_ok rfl) ?_
          refine pf_X8_167 (pc := 151) F dX8_clause_151 (vm_ok rfl) ?_
          refine tq_retv (pc := 154) F dX8_clause_154 ?_ rfl rfl rfl
          first | (exfalso; omega) | skip
          all_goals first | (rw [clS_4 c1 c2 c3 h123]; exact ⟨((r1.up (by decide)).up (by decide)).2.2.1.1, ((r1.up (by decide)).up (by decide)).2.2.2.1, (f1.trans (FS.up (by decide))).trans (FS.up (by decide)), fun _ => ⟨(r1.up (by decide)).up (by decide), by rw [upM_i, if_neg (by decide), upM_i, if_neg (by decide), e13 14 (by decide)]; exact hsum, by rw [upM_i, if_neg (by decide), upM_i, if_pos rfl], by rw [upM_i, if_pos rfl, e15]; exact hag⟩⟩) | (rw [clS_5 c1 c2 c3 h140]; exact ⟨((r1.up (by decide)).up (by decide)).2.2.1.1, ((r1.up (by decide)).up (by decide)).2.2.2.1, (f1.trans (FS.up (by decide))).trans (FS.up (by decide)), fun _ => ⟨(r1.up (by decide)).up (by decide), by rw [upM_i, if_neg (by decide), upM_i, if_neg (by decide), e13 14 (by decide)]; exact hsum, by rw [upM_i, if_neg (by decide), upM_i, if_pos rfl, e13 15 (by decide)]; exact hnd, by rw [upM_i, if_pos rfl]⟩⟩)
        · refine x_iload_n (i := 2) (pc := 143) F dX8_clause_143 rfl rfl ?_
          refine x_goto (tgt := 151) (pc := 144) F dX8_clause_144 rfl ?_
          refine pf_X8_167 (pc := 151) F dX8_clause_151 (vm_ok rfl) ?_
          refine tq_retv (pc := 154) F dX8_clause_154 ?_ rfl rfl rfl
          first | (exfalso; omega) | skip
          all_goals first | (rw [clS_4 c1 c2 c3 h123]; exact ⟨((r1.up (by decide)).up (by decide)).2.2.1.1, ((r1.up (by decide)).up (by decide)).2.2.2.1, (f1.trans (FS.up (by decide))).trans (FS.up (by decide)), fun _ => ⟨(r1.up (by decide)).up (by decide), by rw [upM_i, if_neg (by decide), upM_i, if_neg (by decide), e13 14 (by decide)]; exact hsum, by rw [upM_i, if_neg (by decide), upM_i, if_pos rfl], by rw [upM_i, if_pos rfl, e15]; exact hag⟩⟩) | (rw [clS_5 c1 c2 c3 h140]; exact ⟨((r1.up (by decide)).up (by decide)).2.2.1.1, ((r1.up (by decide)).up (by decide)).2.2.2.1, (f1.trans (FS.up (by decide))).trans (FS.up (by decide)), fun _ => ⟨(r1.up (by decide)).up (by decide), by rw [upM_i, if_neg (by decide), upM_i, if_neg (by decide), e13 14 (by decide)]; exact hsum, by rw [upM_i, if_neg (by decide), upM_i, if_pos rfl, e13 15 (by decide)]; exact hnd, by rw [upM_i, if_pos rfl]⟩⟩)
      · refine x_iload_n (i := 2) (pc := 126) F dX8_clause_126 rfl rfl ?_
        refine x_goto (tgt := 134) (pc := 127) F dX8_clause_127 rfl ?_
        refine pf_X8_164 (pc := 134) F dX8_clause_134 (vm_ok rfl) ?_
        refine x_aload_n (i := 0) (pc := 137) F dX8_clause_137 rfl rfl ?_
        refine x_iload_n (i := 1) (pc := 138) F dX8_clause_138 rfl rfl ?_
        refine x_iconst (pc := 139) F dX8_clause_139 ?_
        refine x_icmp_ne (tgt := 147) (pc := 140) F dX8_clause_140 rfl (by omega) (fun h140 => ?_) (fun h140 => ?_)
        · refine x_aload_n (i := 0) (pc := 147) F dX8_clause_147 rfl rfl ?_
          refine gf_X8_167 (pc := 148) F dX8_clause_148 (vm_ok rfl) ?_
          refine pf_X8_167 (pc := 151) F dX8_clause_151 (vm_ok rfl) ?_
          refine tq_retv (pc := 154) F dX8_clause_154 ?_ rfl rfl rfl
          first | (exfalso; omega) | skip
          all_goals first | (rw [clS_4 c1 c2 c3 h123]; exact ⟨((r1.up (by decide)).up (by decide)).2.2.1.1, ((r1.up (by decide)).up (by decide)).2.2.2.1, (f1.trans (FS.up (by decide))).trans (FS.up (by decide)), fun _ => ⟨(r1.up (by decide)).up (by decide), by rw [upM_i, if_neg (by decide), upM_i, if_neg (by decide), e13 14 (by decide)]; exact hsum, by rw [upM_i, if_neg (by decide), upM_i, if_pos rfl], by rw [upM_i, if_pos rfl, e15]; exact hag⟩⟩) | (rw [clS_5 c1 c2 c3 h140]; exact ⟨((r1.up (by decide)).up (by decide)).2.2.1.1, ((r1.up (by decide)).up (by decide)).2.2.2.1, (f1.trans (FS.up (by decide))).trans (FS.up (by decide)), fun _ => ⟨(r1.up (by decide)).up (by decide), by rw [upM_i, if_neg (by decide), upM_i, if_neg (by decide), e13 14 (by decide)]; exact hsum, by rw [upM_i, if_neg (by decide), upM_i, if_pos rfl, e13 15 (by decide)]; exact hnd, by rw [upM_i, if_pos rfl]⟩⟩)
        · refine x_iload_n (i := 2) (pc := 143) F dX8_clause_143 rfl rfl ?_
          refine x_goto (tgt := 151) (pc := 144) F dX8_clause_144 rfl ?_
          refine pf_X8_167 (pc := 151) F dX8_clause_151 (vm_ok rfl) ?_
          refine tq_retv (pc := 154) F dX8_clause_154 ?_ rfl rfl rfl
          first | (exfalso; omega) | skip
          all_goals first | (rw [clS_4 c1 c2 c3 h123]; exact ⟨((r1.up (by decide)).up (by decide)).2.2.1.1, ((r1.up (by decide)).up (by decide)).2.2.2.1, (f1.trans (FS.up (by decide))).trans (FS.up (by decide)), fun _ => ⟨(r1.up (by decide)).up (by decide), by rw [upM_i, if_neg (by decide), upM_i, if_neg (by decide), e13 14 (by decide)]; exact hsum, by rw [upM_i, if_neg (by decide), upM_i, if_pos rfl], by rw [upM_i, if_pos rfl, e15]; exact hag⟩⟩) | (rw [clS_5 c1 c2 c3 h140]; exact ⟨((r1.up (by decide)).up (by decide)).2.2.1.1, ((r1.up (by decide)).up (by decide)).2.2.2.1, (f1.trans (FS.up (by decide))).trans (FS.up (by decide)), fun _ => ⟨(r1.up (by decide)).up (by decide), by rw [upM_i, if_neg (by decide), upM_i, if_neg (by decide), e13 14 (by decide)]; exact hsum, by rw [upM_i, if_neg (by decide), upM_i, if_pos rfl, e13 15 (by decide)]; exact hnd, by rw [upM_i, if_pos rfl]⟩⟩)
  have g110 : ∀ (μ1 : Me) (k : Int), ¬ (wdM tx tl c.1 : Int) < (wdL (wdI tx tl c.1)).length → chA tx tl (clA tx tl c.1) = 32 → RM μ1 tx tl (clA tx tl c.1 + 1) 1 → FS μ μ1 → (∀ k, 13 ≤ k → μ1 (30, 0, 0) k = μ (30, 0, 0) k) → XX Γ 4 VM ad (vl ad μ1) 0 0 110 [(0, .ref (ad (30, 0, 0))), (1, .int (I (wdI tx tl c.1))), (2, .int (I k))] [] := by
    intro μ1 k c1 c2 r1 f1 e13
    have hn := nu_rg (tx := tx) (tl := tl) (clA tx tl c.1 + 1) r1.2.2.1.2.2
    have ht1 := r1.2.2.1
    refine x_aload_n (i := 0) (pc := 110) F dX8_clause_110 rfl rfl ?_
    refine x_V0i (ci := 8) (pc := 111) F dX8_clause_111 lk_X8_145 rfl (vm_ok rfl) rfl rfl (c_X8_number r1) rfl rfl rfl ?_
    rintro z μ3 ⟨rfl, q3⟩
    rw [if_pos rfl] at q3
    refine x_istore_n (i := 2) (pc := 114) F dX8_clause_114 rfl rfl ?_
    by_cases c3 : nuN tx tl (clA tx tl c.1 + 1) = -1
    · rw [if_neg (fun z => z.2 c3)] at q3
      rw [if_neg (fun z => z.2 c3)]
      have r3 := r1.mv q3 ⟨by omega, by decide, by decide⟩
      exact x_sub (L' := [(0, .ref (ad (30, 0, 0))), (1, .int (I (wdI tx tl c.1))), (2, .int (I 0))]) ⟨rfl, rfl, rfl, trivial⟩ (f115 μ3 _ 0 r3 (f1.trans (FS.mv q3)) (by rw [clS_3 c1 c2 c3, show nuA tx tl (clA tx tl c.1 + 1) = clA tx tl c.1 + 1 by omega]) (by decide))
    · rw [if_pos ⟨rfl, c3⟩] at q3
      rw [if_pos ⟨rfl, c3⟩]
      exact x_sub (L' := [(0, .ref (ad (30, 0, 0))), (1, .int (I (wdI tx tl c.1))), (2, .int (I (nuN tx tl (clA tx tl c.1 + 1))))]) ⟨rfl, rfl, rfl, trivial⟩ (g115 μ3 c1 c2 c3 (by omega) (by omega) (r1.mv q3 ⟨by omega, by decide, by decide⟩) (f1.trans (FS.mv q3)) (fun k hk => by rw [q3.2.2.1 k (by omega) (by omega), e13 k hk]))
  have g104 : ∀ (μ1 : Me) (k : Int), MV μ μ1 (c.1 + wdM tx tl c.1) (if (wdM tx tl c.1 : Int) < (wdL (wdI tx tl c.1)).length then 0 else 1) → XX Γ 4 VM ad (vl ad μ1) 0 0 104 [(0, .ref (ad (30, 0, 0))), (1, .int (I (wdI tx tl c.1))), (2, .int (I k))] [] := by
    intro μ1 k q1
    have hR1 := hR.mv q1 ⟨by omega, by split <;> decide⟩
    have q1' := FS.mv q1
    refine x_aload_n (i := 0) (pc := 104) F dX8_clause_104 rfl rfl ?_
    refine x_bipush (pc := 105) F dX8_clause_105 (by decide) ?_
    refine x_V1v (ci := 8) (pc := 107) F dX8_clause_107 lk_X8_141 rfl (vm_ok rfl) rfl rfl (c_X8_takes hR1 32 (by decide)) rfl rfl rfl ?_
    rintro μ2 q2
    by_cases c1 : (wdM tx tl c.1 : Int) < (wdL (wdI tx tl c.1)).length
    · rw [if_pos c1, if_neg (fun z => absurd z.1 (by decide)), if_neg (fun z => absurd z.1 (by decide))] at q2
      exact f110 μ2 _ k (hR1.mv q2 ⟨by omega, by decide, by decide⟩) (q1'.trans (FS.mv q2)) (clS_1 c1)
    rw [if_neg c1] at q2 hR1 q1
    rw [show c.1 + (wdM tx tl c.1 : Int) = clA tx tl c.1 by omega] at q2 hR1 q1
    have e13 : ∀ k, 13 ≤ k → μ2 (30, 0, 0) k = μ (30, 0, 0) k := fun k hk => by rw [q2.2.2.1 k (by omega) (by omega), q1.2.2.1 k (by omega) (by omega)]
    by_cases c2 : chA tx tl (clA tx tl c.1) = 32
    · rw [if_pos ⟨rfl, c2⟩, if_pos ⟨rfl, c2⟩] at q2
      have l2 := chA_lt (tx := tx) (tl := tl) (a := clA tx tl c.1) (by omega)
      exact g110 μ2 k c1 c2 (hR1.mv q2 ⟨by omega, by decide, by decide⟩) (q1'.trans (FS.mv q2)) e13
    · rw [if_neg (fun z => c2 z.2), if_neg (fun z => c2 z.2)] at q2
      exact f110 μ2 _ k (hR1.mv q2 ⟨by omega, by decide, by decide⟩) (q1'.trans (FS.mv q2)) (clS_2 c1 c2)
  have loop : ∀ (N k : Nat) (μ1 : Me), 6 - k < N → k ≤ 6 → (k ≤ (wdL (wdI tx tl c.1)).length) → MV μ μ1 (c.1 + (if (k : Int) ≤ wdM tx tl c.1 then (k : Int) else wdM tx tl c.1)) (if (k : Int) ≤ wdM tx tl c.1 then 1 else 0) → XX Γ 4 VM ad (vl ad μ1) 0 0 63 [(0, .ref (ad (30, 0, 0))), (1, .int (I (wdI tx tl c.1))), (2, .int (I k))] [] := by
    intro N
    induction N with
    | zero => intro k μ1 b1; omega
    | succ N ih =>
      intro k μ1 b1 b2 b3 q1
      have hR1 := hR.mv q1 ⟨by split <;> omega, by split <;> decide⟩
      have hwc := wd_ch (wdI tx tl c.1) k
      have hN1 : k < 6 → μ1 (40, 0, 0) (6 * wdI tx tl c.1 + k) = (wdL (wdI tx tl c.1)).getD k 0 := fun h6 => by
        have := (hN.mv q1).1.2 (wdI tx tl c.1).toNat k (by omega) h6
        rw [toNat_c hwi.1] at this
        exact this
      have hex : k = (wdL (wdI tx tl c.1)).length → MV μ μ1 (c.1 + wdM tx tl c.1) (if (wdM tx tl c.1 : Int) < (wdL (wdI tx tl c.1)).length then 0 else 1) := fun e => by
        by_cases q : (k : Int) ≤ wdM tx tl c.1
        · rw [if_pos q, if_pos q, show (k : Int) = wdM tx tl c.1 by omega] at q1
          rw [if_neg (by omega)]; exact q1
        · rw [if_neg q, if_neg q] at q1
          rw [if_pos (by omega)]; exact q1
      refine x_iload_n (i := 2) (pc := 63) F dX8_clause_63 rfl rfl ?_
      refine x_bipush (pc := 64) F dX8_clause_64 (by decide) ?_
      refine x_icmp_ge (tgt := 104) (pc := 66) F dX8_clause_66 rfl (by omega) (fun h66 => ?_) (fun h66 => ?_)
      · refine g104 μ1 k (hex ?_)
        first | omega | (rcases Nat.lt_or_ge k (wdL (wdI tx tl c.1)).length with q | q; (have := hwc.1 q; omega); omega)
      · refine x_aload_n (i := 0) (pc := 69) F dX8_clause_69 rfl rfl ?_
        refine gf_X8_40 (pc := 70) F dX8_clause_70 (vm_ok rfl) ?_
        refine x_bipush (pc := 73) F dX8_clause_73 (by decide) ?_
        refine x_iload_n (i := 1) (pc := 75) F dX8_clause_75 rfl rfl ?_
        refine x_imul (pc := 76) F dX8_clause_76 ?_
        refine x_iload_n (i := 2) (pc := 77) F dX8_clause_77 rfl rfl ?_
        refine x_iadd (pc := 78) F dX8_clause_78 ?_
        refine tq_ca (pc := 79) F dX8_clause_79 (vm_ok rfl) rfl (fun _ => rfl) (by omega) ?_
        rw [hN1 (by omega)]
        have hcr : 0 ≤ (wdL (wdI tx tl c.1)).getD k 0 ∧ (wdL (wdI tx tl c.1)).getD k 0 < 128 := by rcases Nat.lt_or_ge k (wdL (wdI tx tl c.1)).length with q | q; (have := hwc.1 q; omega); (rw [hwc.2 q]; omega)
        refine x_if_eq (tgt := 104) (pc := 80) F dX8_clause_80 rfl (by omega) (fun h80 => ?_) (fun h80 => ?_)
        · refine g104 μ1 k (hex ?_)
          first | omega | (rcases Nat.lt_or_ge k (wdL (wdI tx tl c.1)).length with q | q; (have := hwc.1 q; omega); omega)
        · refine x_aload_n (i := 0) (pc := 83) F dX8_clause_83 rfl rfl ?_
          refine x_aload_n (i := 0) (pc := 84) F dX8_clause_84 rfl rfl ?_
          refine gf_X8_40 (pc := 85) F dX8_clause_85 (vm_ok rfl) ?_
          refine x_bipush (pc := 88) F dX8_clause_88 (by decide) ?_
          refine x_iload_n (i := 1) (pc := 90) F dX8_clause_90 rfl rfl ?_
          refine x_imul (pc := 91) F dX8_clause_91 ?_
          refine x_iload_n (i := 2) (pc := 92) F dX8_clause_92 rfl rfl ?_
          refine x_iadd (pc := 93) F dX8_clause_93 ?_
          refine tq_ca (pc := 94) F dX8_clause_94 (vm_ok rfl) rfl (fun _ => rfl) (by omega) ?_
          rw [hN1 (by omega)]
          have hlt : k < (wdL (wdI tx tl c.1)).length := by rcases Nat.lt_or_ge k (wdL (wdI tx tl c.1)).length with q | q; exact q; exact absurd (hwc.2 q) h80
          refine x_V1v (ci := 8) (pc := 95) F dX8_clause_95 lk_X8_141 rfl (vm_ok rfl) rfl rfl (c_X8_takes hR1 _ hcr) rfl rfl rfl ?_
          rintro μ2 q2
          refine x_iinc (pc := 98) F dX8_clause_98 rfl rfl ?_
          refine x_goto (tgt := 63) (pc := 101) F dX8_clause_101 rfl ?_
          refine x_sub (L' := [(0, .ref (ad (30, 0, 0))), (1, .int (I (wdI tx tl c.1))), (2, .int (I ((k + 1 : Nat) : Int)))]) ⟨rfl, rfl, rfl, trivial⟩ (ih (k + 1) μ2 (by omega) (by omega) (by omega) ?_)
          have hs1 := hsp1 k
          by_cases q : (k : Int) ≤ wdM tx tl c.1
          · rw [if_pos q, if_pos q] at q2 q1
            by_cases q3 : (k : Int) = wdM tx tl c.1
            · have hne : chA tx tl (c.1 + k) ≠ (wdL (wdI tx tl c.1)).getD k 0 := by
                rcases hsp2 with h | h
                · omega
                · rw [← q3, show wdM tx tl c.1 = k by omega] at h; exact h
              rw [if_neg (fun z => hne z.2), if_neg (fun z => hne z.2)] at q2
              rw [if_neg (by omega), if_neg (by omega), ← q3]; exact q1.trans q2
            · rw [if_pos ⟨rfl, hs1 (by omega)⟩, if_pos ⟨rfl, hs1 (by omega)⟩] at q2
              rw [if_pos (by omega), if_pos (by omega), show c.1 + ((k + 1 : Nat) : Int) = c.1 + k + 1 by omega]; exact q1.trans q2
          · rw [if_neg q, if_neg q, if_neg (fun z => absurd z.1 (by decide)), if_neg (fun z => absurd z.1 (by decide))] at q2
            rw [if_neg (by omega), if_neg (by omega)]; exact q1.trans q2
  have l60 : ∀ q : Int, q = wdI tx tl c.1 → XX Γ 4 VM ad (vl ad μ) 0 0 60 [(0, .ref (ad (30, 0, 0)))] [.int (I q)] := by
    rintro q rfl
    refine x_istore_n (i := 1) (pc := 60) F dX8_clause_60 rfl rfl ?_
    refine x_iconst (pc := 61) F dX8_clause_61 ?_
    refine x_istore_n (i := 2) (pc := 62) F dX8_clause_62 rfl rfl ?_
    exact x_sub (L' := [(0, .ref (ad (30, 0, 0))), (1, .int (I (wdI tx tl c.1))), (2, .int (I ((0 : Nat) : Int)))]) ⟨rfl, rfl, rfl, trivial⟩ (loop 7 0 μ (by omega) (by omega) (by omega) (by rw [if_pos (by omega), if_pos (by omega), show c.1 + ((0 : Nat) : Int) = c.1 by omega]; exact MV.refl hR))
  refine x_aload_n (i := 0) (pc := 0) F dX8_clause_0 rfl rfl ?_
  refine x_bipush (pc := 1) F dX8_clause_1 (by decide) ?_
  refine x_V1z (ci := 8) (pc := 3) F dX8_clause_3 lk_X8_134 rfl (vm_ok rfl) rfl rfl (c_X8_isAt hR 110 (by decide)) rfl rfl rfl ?_
  rintro _ _ ⟨rfl, rfl⟩
  refine x_if_eqB (tgt := 13) (pc := 6) F dX8_clause_6 rfl (fun h6 => ?_) (fun h6 => ?_)
  · try simp only [decide_eq_true_eq, decide_eq_false_iff_not, Bool.and_eq_true, Bool.or_eq_true, Bool.not_eq_true', Bool.not_eq_false', Bool.and_eq_false_iff, Bool.or_eq_false_iff] at h6
    rw [true_and] at h6
    refine x_aload_n (i := 0) (pc := 13) F dX8_clause_13 rfl rfl ?_
    refine x_bipush (pc := 14) F dX8_clause_14 (by decide) ?_
    refine x_V1z (ci := 8) (pc := 16) F dX8_clause_16 lk_X8_134 rfl (vm_ok rfl) rfl rfl (c_X8_isAt hR 97 (by decide)) rfl rfl rfl ?_
    rintro _ _ ⟨rfl, rfl⟩
    refine x_if_eqB (tgt := 26) (pc := 19) F dX8_clause_19 rfl (fun h19 => ?_) (fun h19 => ?_)
    · try simp only [decide_eq_true_eq, decide_eq_false_iff_not, Bool.and_eq_true, Bool.or_eq_true, Bool.not_eq_true', Bool.not_eq_false', Bool.and_eq_false_iff, Bool.or_eq_false_iff] at h19
      rw [true_and] at h19
      refine x_aload_n (i := 0) (pc := 26) F dX8_clause_26 rfl rfl ?_
      refine gf_X8_128 (pc := 27) F dX8_clause_27 (vm_ok rfl) ?_
      refine x_iconst (pc := 30) F dX8_clause_30 ?_
      refine x_iadd (pc := 31) F dX8_clause_31 ?_
      refine x_aload_n (i := 0) (pc := 32) F dX8_clause_32 rfl rfl ?_
      refine gf_X8_131 (pc := 33) F dX8_clause_33 (vm_ok rfl) ?_
      refine x_icmp_ge (tgt := 59) (pc := 36) F dX8_clause_36 rfl (by omega) (fun h36 => ?_) (fun h36 => ?_)
      · refine x_iconst (pc := 59) F dX8_clause_59 ?_
        exact l60 _ (by unfold wdI; (repeat' split) <;> first | omega | (have := hch1.2.2.1 (by omega); omega) | (have := hch1.2.2.2 (by omega); omega))
      · have hr1 := hR.2.1 (c.1 + 1) (by omega) (by omega)
        refine x_aload_n (i := 0) (pc := 39) F dX8_clause_39 rfl rfl ?_
        refine gf_X8_30 (pc := 40) F dX8_clause_40 (vm_ok rfl) ?_
        refine x_aload_n (i := 0) (pc := 43) F dX8_clause_43 rfl rfl ?_
        refine gf_X8_128 (pc := 44) F dX8_clause_44 (vm_ok rfl) ?_
        refine x_iconst (pc := 47) F dX8_clause_47 ?_
        refine x_iadd (pc := 48) F dX8_clause_48 ?_
        rw [a0]
        refine tq_ia (pc := 49) F dX8_clause_49 (vm_ok rfl) rfl (fun _ => rfl) (by omega) ?_
        refine x_bipush (pc := 50) F dX8_clause_50 (by decide) ?_
        refine x_icmp_ne (tgt := 59) (pc := 52) F dX8_clause_52 rfl (by omega) (fun h52 => ?_) (fun h52 => ?_)
        · refine x_iconst (pc := 59) F dX8_clause_59 ?_
          exact l60 _ (by unfold wdI; (repeat' split) <;> first | omega | (have := hch1.2.2.1 (by omega); omega) | (have := hch1.2.2.2 (by omega); omega))
        · refine x_iconst (pc := 55) F dX8_clause_55 ?_
          refine x_goto (tgt := 60) (pc := 56) F dX8_clause_56 rfl ?_
          exact l60 _ (by unfold wdI; (repeat' split) <;> first | omega | (have := hch1.2.2.1 (by omega); omega) | (have := hch1.2.2.2 (by omega); omega))
    · try simp only [decide_eq_true_eq, decide_eq_false_iff_not, Bool.and_eq_true, Bool.or_eq_true, Bool.not_eq_true', Bool.not_eq_false', Bool.and_eq_false_iff, Bool.or_eq_false_iff] at h19
      rw [true_and] at h19
      refine x_iconst (pc := 22) F dX8_clause_22 ?_
      refine x_goto (tgt := 60) (pc := 23) F dX8_clause_23 rfl ?_
      exact l60 _ (by unfold wdI; (repeat' split) <;> first | omega | (have := hch1.2.2.1 (by omega); omega) | (have := hch1.2.2.2 (by omega); omega))
  · try simp only [decide_eq_true_eq, decide_eq_false_iff_not, Bool.and_eq_true, Bool.or_eq_true, Bool.not_eq_true', Bool.not_eq_false', Bool.and_eq_false_iff, Bool.or_eq_false_iff] at h6
    rw [true_and] at h6
    refine x_iconst (pc := 9) F dX8_clause_9 ?_
    refine x_goto (tgt := 60) (pc := 10) F dX8_clause_10 rfl ?_
    exact l60 _ (by unfold wdI; (repeat' split) <;> first | omega | (have := hch1.2.2.1 (by omega); omega) | (have := hch1.2.2.2 (by omega); omega))
end MCL
