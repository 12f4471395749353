/-! ===== the reference: acts ===== -/
def bodL : List Int := [10, 11, 12, 0, 20, 0, 30, 0, 0, 0, 0, 40, 50, 51, 0, 0, 0, 60, 71, 70, 0]
def abvL : List Int := [-1, 0, 0, 0, 1, 2, 3]
def MA (μ : Me) : Prop := (∀ j : Nat, j < 21 → μ (45, 0, 0) j = bodL.getD j 0) ∧ ∀ j : Nat, j < 7 → μ (44, 0, 0) j = abvL.getD j 0
/-- the kind whose body runs -/
def fkN (a f : Nat) : Nat := if a = 0 then (if f = 1 ∨ f = 3 then 0 else if f = 5 then 2 else f) else if a = 1 then (if f = 2 ∨ f = 3 ∨ f = 5 then 0 else f) else (if f = 1 ∨ f = 2 ∨ f = 4 then 0 else if f = 6 then 3 else f)
def boN (a f : Nat) : Int := bodL.getD (3 * fkN a f + a) 0
def bkF (a : Nat) (num v kd fr x : Int) : Int := if a = 0 then wkF num v fr x else if a = 1 then knF num v kd fr x else teF num v kd fr x
def bkL (a : Nat) (kd fr : Int) : List Int := if a = 0 then wkL fr else if a = 1 then knL kd fr else teLs kd fr
theorem bkL_len (a : Nat) (kd fr : Int) : (bkL a kd fr).length ≤ 14 := by
  have h1 := wkL_len fr
  have h2 := knL_len kd fr
  have h3 := teL_len kd fr
  unfold bkL
  (repeat' split) <;> omega
def BTm (μ : Me) (L : List Int) : Prop := μ (30, 0, 0) 27 = L.length ∧ ∀ i : Nat, i < L.length → μ (46, 0, 0) i = L.getD i 0
def FRm (μ μ' : Me) : Prop := (∀ k, k ≠ 27 → μ' (30, 0, 0) k = μ (30, 0, 0) k) ∧ ∀ o, o ≠ (30, 0, 0) → o ≠ (46, 0, 0) → μ' o = μ o
theorem FRm.trans {μ μ1 μ2 : Me} (h : FRm μ μ1) (h2 : FRm μ1 μ2) : FRm μ μ2 := ⟨fun k hk => by rw [h2.1 k hk, h.1 k hk], fun o a b => by rw [h2.2 o a b, h.2 o a b]⟩
theorem FRm.refl (μ : Me) : FRm μ μ := ⟨fun _ _ => rfl, fun _ _ _ => rfl⟩
theorem TN.fr {μ μ' : Me} {T : Tn} (h : TN μ T) (e : FRm μ μ') : TN μ' T := by
  unfold TN
  rw [e.2 (31, 0, 0) (by simp) (by simp)]
  exact h
theorem MA.fr {μ μ' : Me} (h : MA μ) (e : FRm μ μ') : MA μ' := by
  unfold MA
  rw [e.2 (44, 0, 0) (by simp) (by simp), e.2 (45, 0, 0) (by simp) (by simp)]
  exact h
theorem BTm_push {μ : Me} {L : List Int} {b : Int} (h : BTm μ L) : BTm (upM (upM μ (46, 0, 0) (μ (30, 0, 0) 27) b) (30, 0, 0) 27 (μ (30, 0, 0) 27 + 1)) (L ++ [b]) := by
  obtain ⟨h1, h2⟩ := h
  refine ⟨by rw [upM_i, if_pos rfl, h1, List.length_append]; simp, fun i hi => ?_⟩
  rw [List.length_append, List.length_singleton] at hi
  rw [upM_ne (by simp), upM_i, h1]
  simp only [List.getD_eq_getElem?_getD]
  by_cases q : i < L.length
  · rw [if_neg (by omega), List.getElem?_append_left q]
    have := h2 i q
    simp only [List.getD_eq_getElem?_getD] at this
    exact this
  · rw [if_pos (by omega), List.getElem?_append_right (by omega), show i - L.length = 0 by omega]
    rfl
section MAC
variable {ad : Ob → Nat} {μ : Me} {T : Tn} {c : Int} {L : List Int}
set_option maxRecDepth 20000 in
theorem c_X8_body (b : Int) (hL : BTm μ L) (hl : L.length < 20) (l : Launch) (E : Ev) (A : Nat → Prop) : Con l E 0 m_X8_body A VM ad μ [.ref (ad (30, 0, 0)), .int (I b)] (pi fun z μ' => z = b ∧ BTm μ' (L ++ [b]) ∧ FRm μ μ') := by
  have h0 := hL.1
  refine con (own := RX8) (by decide +kernel) rfl rfl rfl (fun Γ F => ?_)
  refine x_aload_n (i := 0) (pc := 0) F dX8_body_0 rfl rfl ?_
  refine gf_X8_255 (pc := 1) F dX8_body_1 (vm_ok rfl) ?_
  refine x_bipush (pc := 4) F dX8_body_4 (by decide) ?_
  refine x_icmp_ge (tgt := 19) (pc := 6) F dX8_body_6 rfl (by omega) (fun h6 => ?_) (fun h6 => ?_)
  · exfalso; omega
  · refine x_aload_n (i := 0) (pc := 9) F dX8_body_9 rfl rfl ?_
    refine gf_X8_58 (pc := 10) F dX8_body_10 (vm_ok rfl) ?_
    refine x_aload_n (i := 0) (pc := 13) F dX8_body_13 rfl rfl ?_
    refine gf_X8_255 (pc := 14) F dX8_body_14 (vm_ok rfl) ?_
    refine x_iload_n (i := 1) (pc := 17) F dX8_body_17 rfl rfl ?_
    refine tq_ias (pc := 18) F dX8_body_18 (vm_ok rfl) rfl (fun _ => rfl) (by omega) ?_
    refine x_aload_n (i := 0) (pc := 19) F dX8_body_19 rfl rfl ?_
    refine x_dup (pc := 20) F dX8_body_20 rfl ?_
    refine gf_X8_255 (pc := 21) F dX8_body_21 (vm_ok rfl) ?_
    rw [upM_ne (by simp)]
    refine x_iconst (pc := 24) F dX8_body_24 ?_
    refine x_iadd (pc := 25) F dX8_body_25 ?_
    refine pf_X8_255 (pc := 26) F dX8_body_26 (vm_ok rfl) ?_
    refine x_iload_n (i := 1) (pc := 29) F dX8_body_29 rfl rfl ?_
    refine tq_reti (pc := 30) F dX8_body_30 ?_ rfl rfl rfl
    exact ⟨rfl, BTm_push hL, fun k hk => by rw [upM_i, if_neg hk, upM_ne (by simp)], fun o h1 h2 => by rw [upM_ne h1, upM_ne h2]⟩
/-- the contracts of byKind, of all -/
def BKm (ad : Ob → Nat) (T : Tn) (c : Int) (v kd : Int) (a f D : Nat) : Prop := ∀ (μ : Me) (L : List Int) (x : Int), TN μ T → MA μ → BTm μ L → L.length + (bkL a kd f).length ≤ 18 → ∀ (l : Launch) (E : Ev) (A : Nat → Prop), Con l E D m_X8_byKind A VM ad μ [.ref (ad (30, 0, 0)), .int (I f), .int (I c), .int (I a), .int (I x)] (pi fun z μ' => z = bkF a c v kd f x ∧ BTm μ' (L ++ bkL a kd f) ∧ FRm μ μ')
def BAm (ad : Ob → Nat) (T : Tn) (c : Int) (v kd : Int) (a D : Nat) : Prop := ∀ (μ : Me) (L : List Int) (x : Int), TN μ T → MA μ → BTm μ L → L.length + (bkL a kd kd).length ≤ 18 → ∀ (l : Launch) (E : Ev) (A : Nat → Prop), Con l E D m_X8_all A VM ad μ [.ref (ad (30, 0, 0)), .int (I c), .int (I a), .int (I x)] (pi fun z μ' => z = bkF a c v kd kd x ∧ BTm μ' (L ++ bkL a kd kd) ∧ FRm μ μ')
def subK (b : Int) (a f : Nat) : Prop := (b = 20 ∧ a = 1 ∧ f = 0) ∨ (b = 30 ∧ a = 0 ∧ f = 0) ∨ (b = 40 ∧ a = 2 ∧ f = 0) ∨ (b = 50 ∧ a = 0 ∧ f = 1) ∨ (b = 51 ∧ a = 1 ∧ f = 1) ∨ (b = 60 ∧ a = 2 ∧ f = 2) ∨ (b = 70 ∧ a = 1 ∧ f = 3) ∨ (b = 70 ∧ a = 0 ∧ f = 3) ∨ (b = 71 ∧ a = 0 ∧ f = 3)
def subA (b : Int) (a : Nat) : Prop := (b = 11 ∧ a = 0) ∨ (b = 12 ∧ a = 1) ∨ (b = 40 ∧ a = 1)
theorem boN_ok : ∀ a < 3, ∀ f < 7, fkN a f < 7 ∧ (boN a f = 10 → a = 0 ∧ (f = 0 ∨ f = 1 ∨ f = 3)) ∧ (boN a f = 11 → a = 1 ∧ (f = 0 ∨ f = 2 ∨ f = 3 ∨ f = 5)) ∧ (boN a f = 12 → a = 2 ∧ (f = 0 ∨ f = 1 ∨ f = 2 ∨ f = 4)) ∧ (boN a f = 20 → a = 1 ∧ f = 1) ∧ (boN a f = 30 → a = 0 ∧ (f = 2 ∨ f = 5)) ∧ (boN a f = 40 → a = 2 ∧ (f = 3 ∨ f = 6)) ∧ (boN a f = 50 → a = 0 ∧ f = 4) ∧ (boN a f = 51 → a = 1 ∧ f = 4) ∧ (boN a f = 60 → a = 2 ∧ f = 5) ∧ (boN a f = 70 → a = 1 ∧ f = 6) ∧ (boN a f = 10 ∨ boN a f = 11 ∨ boN a f = 12 ∨ boN a f = 20 ∨ boN a f = 30 ∨ boN a f = 40 ∨ boN a f = 50 ∨ boN a f = 51 ∨ boN a f = 60 ∨ boN a f = 70 ∨ (boN a f = 71 ∧ a = 0 ∧ f = 6)) := by
  intro a ha f hf
  rcases (show a = 0 ∨ a = 1 ∨ a = 2 by omega) with rfl | rfl | rfl <;> rcases (show f = 0 ∨ f = 1 ∨ f = 2 ∨ f = 3 ∨ f = 4 ∨ f = 5 ∨ f = 6 by omega) with rfl | rfl | rfl | rfl | rfl | rfl | rfl <;> refine ⟨?_, ?_, ?_, ?_, ?_, ?_, ?_, ?_, ?_, ?_, ?_, ?_⟩ <;> decide
set_option maxRecDepth 20000 in
theorem bk_step (hc : 0 ≤ c ∧ c < 6) (v : Int) (kd : Nat) (hv : T (17 + 10 * c) = v) (a f D : Nat) (ha : a < 3) (hf : f < 7) (hK : ∀ a' f', subK (boN a f) a' f' → BKm ad T c v kd a' f' D) (hA : ∀ a', subA (boN a f) a' → BAm ad T c v kd a' D) : BKm ad T c v kd a f (D + 1) := by
  intro μ L x hT hM hL hl l E A
  obtain ⟨n0, n10, n11, n12, n20, n30, n40, n50, n51, n60, n70, nall⟩ := boN_ok a ha f hf
  refine con (own := RX8) (by decide +kernel) rfl rfl rfl (fun Γ F => ?_)
  have hbk : ∀ k : Nat, k < 7 → μ (45, 0, 0) (3 * (k : Int) + a) = bodL.getD (3 * k + a) 0 := fun k hk => by have := hM.1 (3 * k + a) (by omega); rw [← this]; congr 1
  have l29 : XX Γ 7 VM ad (vl ad μ) 0 0 29 [(0, .ref (ad (30, 0, 0))), (2, .int (I c)), (3, .int (I a)), (4, .int (I x)), (5, .int (I (fkN a f)))] [] := by
    refine x_aload_n (i := 0) (pc := 29) F dX8_byKind_29 rfl rfl ?_
    refine gf_X8_52 (pc := 30) F dX8_byKind_30 (vm_ok rfl) ?_
    refine x_iload (i := 5) (pc := 33) F dX8_byKind_33 rfl ?_
    refine tq_ia (pc := 35) F dX8_byKind_35 (vm_ok rfl) rfl (fun _ => rfl) (by omega) ?_
    rw [hM.2 (fkN a f) n0]
    refine x_istore (i := 6) (pc := 36) F dX8_byKind_36 rfl ?_
    refine x_aload_n (i := 0) (pc := 38) F dX8_byKind_38 rfl rfl ?_
    refine x_aload_n (i := 0) (pc := 39) F dX8_byKind_39 rfl rfl ?_
    refine gf_X8_55 (pc := 40) F dX8_byKind_40 (vm_ok rfl) ?_
    refine x_iconst (pc := 43) F dX8_byKind_43 ?_
    refine x_iload (i := 5) (pc := 44) F dX8_byKind_44 rfl ?_
    refine x_imul (pc := 46) F dX8_byKind_46 ?_
    refine x_iload_n (i := 3) (pc := 47) F dX8_byKind_47 rfl rfl ?_
    refine x_iadd (pc := 48) F dX8_byKind_48 ?_
    refine tq_ia (pc := 49) F dX8_byKind_49 (vm_ok rfl) rfl (fun _ => rfl) (by omega) ?_
    rw [hbk _ n0, show bodL.getD (3 * fkN a f + a) 0 = boN a f from rfl]
    refine x_V1i (ci := 8) (pc := 50) F dX8_byKind_50 lk_X8_261 rfl (vm_ok rfl) rfl (Nat.ble_eq_true_of_le (by omega)) (c_X8_body _ hL (by omega)) rfl rfl rfl ?_
    rintro _ μ1 ⟨rfl, p1, p2⟩
    have hT1 := hT.fr p2
    have hM1 := hM.fr p2
    refine x_lsw (ts := [144, 149, 165, 176, 190, 203, 222, 234, 247, 260]) (dt := 281) (pc := 53) F dX8_byKind_53 (by decide) ⟨rfl, rfl, rfl, rfl, rfl, rfl, rfl, rfl, rfl, rfl, trivial⟩ rfl (by omega) ⟨fun h53 => ?_, fun h53 => ?_, fun h53 => ?_, fun h53 => ?_, fun h53 => ?_, fun h53 => ?_, fun h53 => ?_, fun h53 => ?_, fun h53 => ?_, fun h53 => ?_, trivial⟩ (fun h53 => ?_)
    · have _hh := h53
      obtain ⟨rfl, hff⟩ := n10 h53
      refine x_iload (i := 4) (pc := 144) F dX8_byKind_144 rfl ?_
      refine x_iload_n (i := 2) (pc := 146) F dX8_byKind_146 rfl rfl ?_
      refine x_iadd (pc := 147) F dX8_byKind_147 ?_
      refine tq_reti (pc := 148) F dX8_byKind_148 ?_ rfl rfl rfl
      rcases hff with rfl | rfl | rfl <;> exact ⟨rfl, p1, p2⟩
    · have _hh := h53
      obtain ⟨rfl, hff⟩ := n11 h53
      refine x_aload_n (i := 0) (pc := 149) F dX8_byKind_149 rfl rfl ?_
      refine x_iload_n (i := 2) (pc := 150) F dX8_byKind_150 rfl rfl ?_
      refine x_iconst (pc := 151) F dX8_byKind_151 ?_
      refine x_iload (i := 4) (pc := 152) F dX8_byKind_152 rfl ?_
      refine x_V3i (ci := 8) (d2 := D) (pc := 154) F dX8_byKind_154 lk_X8_264 rfl (vm_ok rfl) rfl (Nat.ble_eq_true_of_le (by omega)) (hA 0 (Or.inl ⟨h53, rfl⟩) μ1 _ x hT1 hM1 p1 (by rcases hff with rfl | rfl | rfl | rfl <;> simp [bkL, knL] at hl ⊢ <;> omega)) rfl rfl rfl ?_
      rintro _ μ2 ⟨rfl, q1, q2⟩
      refine x_aload_n (i := 0) (pc := 157) F dX8_byKind_157 rfl rfl ?_
      refine x_iload_n (i := 2) (pc := 158) F dX8_byKind_158 rfl rfl ?_
      refine x_iconst (pc := 159) F dX8_byKind_159 ?_
      refine x_V2i (ci := 8) (pc := 160) F dX8_byKind_160 lk_X8_82 rfl (vm_ok rfl) rfl (Nat.ble_eq_true_of_le (by omega)) (c_X8_one (hT1.fr q2) (17 + 10 * c) _ _ (by omega)) rfl rfl rfl ?_
      rintro _ _ ⟨rfl, rfl⟩
      rw [hv]
      refine x_isub (pc := 163) F dX8_byKind_163 ?_
      refine tq_reti (pc := 164) F dX8_byKind_164 ?_ rfl rfl rfl
      rw [List.append_assoc] at q1
      rcases hff with rfl | rfl | rfl | rfl <;> exact ⟨rfl, q1, p2.trans q2⟩
    · have _hh := h53
      obtain ⟨rfl, hff⟩ := n12 h53
      refine x_aload_n (i := 0) (pc := 165) F dX8_byKind_165 rfl rfl ?_
      refine x_iload_n (i := 2) (pc := 166) F dX8_byKind_166 rfl rfl ?_
      refine x_iconst (pc := 167) F dX8_byKind_167 ?_
      refine x_iload (i := 4) (pc := 168) F dX8_byKind_168 rfl ?_
      refine x_V3i (ci := 8) (d2 := D) (pc := 170) F dX8_byKind_170 lk_X8_264 rfl (vm_ok rfl) rfl (Nat.ble_eq_true_of_le (by omega)) (hA 1 (Or.inr (Or.inl ⟨h53, rfl⟩)) μ1 _ x hT1 hM1 p1 (by rcases hff with rfl | rfl | rfl | rfl <;> simp [bkL, teLs] at hl ⊢ <;> omega)) rfl rfl rfl ?_
      rintro _ μ2 ⟨rfl, q1, q2⟩
      refine x_iconst (pc := 173) F dX8_byKind_173 ?_
      refine x_imul (pc := 174) F dX8_byKind_174 ?_
      refine tq_reti (pc := 175) F dX8_byKind_175 ?_ rfl rfl rfl
      rw [List.append_assoc] at q1
      rcases hff with rfl | rfl | rfl | rfl <;> exact ⟨rfl, q1, p2.trans q2⟩
    · have _hh := h53
      obtain ⟨rfl, rfl⟩ := n20 h53
      refine x_aload_n (i := 0) (pc := 176) F dX8_byKind_176 rfl rfl ?_
      refine x_iload (i := 6) (pc := 177) F dX8_byKind_177 rfl ?_
      refine x_iload_n (i := 2) (pc := 179) F dX8_byKind_179 rfl rfl ?_
      refine x_iconst (pc := 180) F dX8_byKind_180 ?_
      refine x_iload (i := 4) (pc := 181) F dX8_byKind_181 rfl ?_
      refine x_V4i (ci := 8) (d2 := D) (pc := 183) F dX8_byKind_183 lk_X8_258 rfl (vm_ok rfl) rfl (Nat.ble_eq_true_of_le (by omega)) (hK 1 0 (Or.inl ⟨h53, rfl, rfl⟩) μ1 _ x hT1 hM1 p1 (by simp [bkL, knL] at hl ⊢; omega)) rfl rfl rfl ?_
      rintro _ μ2 ⟨rfl, q1, q2⟩
      refine x_bipush (pc := 186) F dX8_byKind_186 (by decide) ?_
      refine tq_ixorR (pc := 188) F dX8_byKind_188 trivial ?_
      refine tq_reti (pc := 189) F dX8_byKind_189 ?_ rfl rfl rfl
      rw [List.append_assoc] at q1
      exact ⟨rfl, q1, p2.trans q2⟩
    · have _hh := h53
      obtain ⟨rfl, hff⟩ := n30 h53
      refine x_aload_n (i := 0) (pc := 190) F dX8_byKind_190 rfl rfl ?_
      refine x_iload (i := 6) (pc := 191) F dX8_byKind_191 rfl ?_
      refine x_iload_n (i := 2) (pc := 193) F dX8_byKind_193 rfl rfl ?_
      refine x_iconst (pc := 194) F dX8_byKind_194 ?_
      refine x_iload (i := 4) (pc := 195) F dX8_byKind_195 rfl ?_
      refine x_iconst (pc := 197) F dX8_byKind_197 ?_
      have e30 : abvL.getD (fkN 0 f) 0 = ((0 : Nat) : Int) := by rcases hff with rfl | rfl <;> rfl
      refine x_imul (pc := 198) F dX8_byKind_198 ?_
      rw [e30]
      refine x_V4i (ci := 8) (d2 := D) (pc := 199) F dX8_byKind_199 lk_X8_258 rfl (vm_ok rfl) rfl (Nat.ble_eq_true_of_le (by omega)) (hK 0 0 (Or.inr (Or.inl ⟨h53, rfl, rfl⟩)) μ1 _ (x * 3) hT1 hM1 p1 (by rcases hff with rfl | rfl <;> simp [bkL, wkL] at hl ⊢ <;> omega)) rfl rfl rfl ?_
      rintro _ μ2 ⟨rfl, q1, q2⟩
      refine tq_reti (pc := 202) F dX8_byKind_202 ?_ rfl rfl rfl
      rw [List.append_assoc] at q1
      rcases hff with rfl | rfl <;> exact ⟨rfl, q1, p2.trans q2⟩
    · have _hh := h53
      obtain ⟨rfl, hff⟩ := n40 h53
      refine x_aload_n (i := 0) (pc := 203) F dX8_byKind_203 rfl rfl ?_
      refine x_iload (i := 6) (pc := 204) F dX8_byKind_204 rfl ?_
      refine x_iload_n (i := 2) (pc := 206) F dX8_byKind_206 rfl rfl ?_
      refine x_iconst (pc := 207) F dX8_byKind_207 ?_
      have e40 : abvL.getD (fkN 2 f) 0 = ((0 : Nat) : Int) := by rcases hff with rfl | rfl <;> rfl
      refine x_iload (i := 4) (pc := 208) F dX8_byKind_208 rfl ?_
      rw [e40]
      refine x_V4i (ci := 8) (d2 := D) (pc := 210) F dX8_byKind_210 lk_X8_258 rfl (vm_ok rfl) rfl (Nat.ble_eq_true_of_le (by omega)) (hK 2 0 (Or.inr (Or.inr (Or.inl ⟨h53, rfl, rfl⟩))) μ1 _ x hT1 hM1 p1 (by rcases hff with rfl | rfl <;> simp [bkL, teLs] at hl ⊢ <;> omega)) rfl rfl rfl ?_
      rintro _ μ2 ⟨rfl, q1, q2⟩
      refine x_aload_n (i := 0) (pc := 213) F dX8_byKind_213 rfl rfl ?_
      refine x_iload_n (i := 2) (pc := 214) F dX8_byKind_214 rfl rfl ?_
      refine x_iconst (pc := 215) F dX8_byKind_215 ?_
      refine x_iconst (pc := 216) F dX8_byKind_216 ?_
      refine x_V3i (ci := 8) (d2 := D) (pc := 217) F dX8_byKind_217 lk_X8_264 rfl (vm_ok rfl) rfl (Nat.ble_eq_true_of_le (by omega)) (hA 1 (Or.inr (Or.inr ⟨h53, rfl⟩)) μ2 _ 1 (hT1.fr q2) (hM1.fr q2) q1 (by rcases hff with rfl | rfl <;> simp [bkL, teLs] at hl ⊢ <;> omega)) rfl rfl rfl ?_
      rintro _ μ3 ⟨rfl, r1, r2⟩
      refine x_iadd (pc := 220) F dX8_byKind_220 ?_
      refine tq_reti (pc := 221) F dX8_byKind_221 ?_ rfl rfl rfl
      rw [List.append_assoc, List.append_assoc] at r1
      rcases hff with rfl | rfl <;> exact ⟨rfl, r1, (p2.trans q2).trans r2⟩
    · have _hh := h53
      obtain ⟨rfl, rfl⟩ := n50 h53
      refine x_aload_n (i := 0) (pc := 222) F dX8_byKind_222 rfl rfl ?_
      refine x_iload (i := 6) (pc := 223) F dX8_byKind_223 rfl ?_
      refine x_iload_n (i := 2) (pc := 225) F dX8_byKind_225 rfl rfl ?_
      refine x_iconst (pc := 226) F dX8_byKind_226 ?_
      refine x_iload (i := 4) (pc := 227) F dX8_byKind_227 rfl ?_
      refine x_V4i (ci := 8) (d2 := D) (pc := 229) F dX8_byKind_229 lk_X8_258 rfl (vm_ok rfl) rfl (Nat.ble_eq_true_of_le (by omega)) (hK 0 1 (Or.inr (Or.inr (Or.inr (Or.inl ⟨h53, rfl, rfl⟩)))) μ1 _ x hT1 hM1 p1 (by simp [bkL, wkL] at hl ⊢; omega)) rfl rfl rfl ?_
      rintro _ μ2 ⟨rfl, q1, q2⟩
      refine x_ineg (pc := 232) F dX8_byKind_232 ?_
      refine tq_reti (pc := 233) F dX8_byKind_233 ?_ rfl rfl rfl
      rw [List.append_assoc] at q1
      exact ⟨rfl, q1, p2.trans q2⟩
    · have _hh := h53
      obtain ⟨rfl, rfl⟩ := n51 h53
      refine x_aload_n (i := 0) (pc := 234) F dX8_byKind_234 rfl rfl ?_
      refine x_iload (i := 6) (pc := 235) F dX8_byKind_235 rfl ?_
      refine x_iload_n (i := 2) (pc := 237) F dX8_byKind_237 rfl rfl ?_
      refine x_iconst (pc := 238) F dX8_byKind_238 ?_
      refine x_iload (i := 4) (pc := 239) F dX8_byKind_239 rfl ?_
      refine x_iconst (pc := 241) F dX8_byKind_241 ?_
      refine x_iadd (pc := 242) F dX8_byKind_242 ?_
      refine x_V4i (ci := 8) (d2 := D) (pc := 243) F dX8_byKind_243 lk_X8_258 rfl (vm_ok rfl) rfl (Nat.ble_eq_true_of_le (by omega)) (hK 1 1 (Or.inr (Or.inr (Or.inr (Or.inr (Or.inl ⟨h53, rfl, rfl⟩))))) μ1 _ (x + 1) hT1 hM1 p1 (by simp [bkL, knL] at hl ⊢; omega)) rfl rfl rfl ?_
      rintro _ μ2 ⟨rfl, q1, q2⟩
      refine tq_reti (pc := 246) F dX8_byKind_246 ?_ rfl rfl rfl
      rw [List.append_assoc] at q1
      exact ⟨rfl, q1, p2.trans q2⟩
    · have _hh := h53
      obtain ⟨rfl, rfl⟩ := n60 h53
      refine x_aload_n (i := 0) (pc := 247) F dX8_byKind_247 rfl rfl ?_
      refine x_iload (i := 6) (pc := 248) F dX8_byKind_248 rfl ?_
      refine x_iload_n (i := 2) (pc := 250) F dX8_byKind_250 rfl rfl ?_
      refine x_iconst (pc := 251) F dX8_byKind_251 ?_
      refine x_iload (i := 4) (pc := 252) F dX8_byKind_252 rfl ?_
      refine x_iload_n (i := 2) (pc := 254) F dX8_byKind_254 rfl rfl ?_
      refine x_isub (pc := 255) F dX8_byKind_255 ?_
      refine x_V4i (ci := 8) (d2 := D) (pc := 256) F dX8_byKind_256 lk_X8_258 rfl (vm_ok rfl) rfl (Nat.ble_eq_true_of_le (by omega)) (hK 2 2 (Or.inr (Or.inr (Or.inr (Or.inr (Or.inr (Or.inl ⟨h53, rfl, rfl⟩)))))) μ1 _ (x - c) hT1 hM1 p1 (by simp [bkL, teLs] at hl ⊢; omega)) rfl rfl rfl ?_
      rintro _ μ2 ⟨rfl, q1, q2⟩
      refine tq_reti (pc := 259) F dX8_byKind_259 ?_ rfl rfl rfl
      rw [List.append_assoc] at q1
      exact ⟨rfl, q1, p2.trans q2⟩
    · have _hh := h53
      obtain ⟨rfl, rfl⟩ := n70 h53
      refine x_aload_n (i := 0) (pc := 260) F dX8_byKind_260 rfl rfl ?_
      refine x_iload (i := 6) (pc := 261) F dX8_byKind_261 rfl ?_
      refine x_iload_n (i := 2) (pc := 263) F dX8_byKind_263 rfl rfl ?_
      refine x_iconst (pc := 264) F dX8_byKind_264 ?_
      refine x_iload (i := 4) (pc := 265) F dX8_byKind_265 rfl ?_
      refine x_V4i (ci := 8) (d2 := D) (pc := 267) F dX8_byKind_267 lk_X8_258 rfl (vm_ok rfl) rfl (Nat.ble_eq_true_of_le (by omega)) (hK 1 3 (Or.inr (Or.inr (Or.inr (Or.inr (Or.inr (Or.inr (Or.inl ⟨h53, rfl, rfl⟩))))))) μ1 _ x hT1 hM1 p1 (by simp [bkL, knL] at hl ⊢; omega)) rfl rfl rfl ?_
      rintro _ μ2 ⟨rfl, q1, q2⟩
      refine x_aload_n (i := 0) (pc := 270) F dX8_byKind_270 rfl rfl ?_
      refine x_iload (i := 6) (pc := 271) F dX8_byKind_271 rfl ?_
      refine x_iload_n (i := 2) (pc := 273) F dX8_byKind_273 rfl rfl ?_
      refine x_iconst (pc := 274) F dX8_byKind_274 ?_
      refine x_iconst (pc := 275) F dX8_byKind_275 ?_
      refine x_V4i (ci := 8) (d2 := D) (pc := 276) F dX8_byKind_276 lk_X8_258 rfl (vm_ok rfl) rfl (Nat.ble_eq_true_of_le (by omega)) (hK 0 3 (Or.inr (Or.inr (Or.inr (Or.inr (Or.inr (Or.inr (Or.inr (Or.inl ⟨h53, rfl, rfl⟩)))))))) μ2 _ 2 (hT1.fr q2) (hM1.fr q2) q1 (by simp [bkL, knL] at hl ⊢; omega)) rfl rfl rfl ?_
      rintro _ μ3 ⟨rfl, r1, r2⟩
      refine x_iadd (pc := 279) F dX8_byKind_279 ?_
      refine tq_reti (pc := 280) F dX8_byKind_280 ?_ rfl rfl rfl
      rw [List.append_assoc, List.append_assoc] at r1
      exact ⟨rfl, r1, (p2.trans q2).trans r2⟩
    · simp only [lsN] at h53
      obtain ⟨h71, rfl, rfl⟩ : boN a f = 71 ∧ a = 0 ∧ f = 6 := by omega
      refine x_aload_n (i := 0) (pc := 281) F dX8_byKind_281 rfl rfl ?_
      refine x_iload (i := 6) (pc := 282) F dX8_byKind_282 rfl ?_
      refine x_iload_n (i := 2) (pc := 284) F dX8_byKind_284 rfl rfl ?_
      refine x_iconst (pc := 285) F dX8_byKind_285 ?_
      refine x_iload (i := 4) (pc := 286) F dX8_byKind_286 rfl ?_
      refine x_V4i (ci := 8) (d2 := D) (pc := 288) F dX8_byKind_288 lk_X8_258 rfl (vm_ok rfl) rfl (Nat.ble_eq_true_of_le (by omega)) (hK 0 3 (Or.inr (Or.inr (Or.inr (Or.inr (Or.inr (Or.inr (Or.inr (Or.inr ⟨h71, rfl, rfl⟩)))))))) μ1 _ x hT1 hM1 p1 (by simp [bkL, wkL] at hl ⊢; omega)) rfl rfl rfl ?_
      rintro _ μ2 ⟨rfl, q1, q2⟩
      refine x_aload_n (i := 0) (pc := 291) F dX8_byKind_291 rfl rfl ?_
      refine x_iload_n (i := 2) (pc := 292) F dX8_byKind_292 rfl rfl ?_
      refine x_iconst (pc := 293) F dX8_byKind_293 ?_
      refine x_V2i (ci := 8) (pc := 294) F dX8_byKind_294 lk_X8_82 rfl (vm_ok rfl) rfl (Nat.ble_eq_true_of_le (by omega)) (c_X8_one (hT1.fr q2) (17 + 10 * c) _ _ (by omega)) rfl rfl rfl ?_
      rintro _ _ ⟨rfl, rfl⟩
      rw [hv]
      refine tq_ixorR (pc := 297) F dX8_byKind_297 trivial ?_
      refine tq_reti (pc := 298) F dX8_byKind_298 ?_ rfl rfl rfl
      rw [List.append_assoc] at q1
      exact ⟨rfl, q1, p2.trans q2⟩
  have stp : ∀ k : Nat, k < 7 → (bodL.getD (3 * k + a) 0 ≠ 0 → XX Γ 7 VM ad (vl ad μ) 0 0 29 [(0, .ref (ad (30, 0, 0))), (2, .int (I c)), (3, .int (I a)), (4, .int (I x)), (5, .int (I k))] []) → (bodL.getD (3 * k + a) 0 = 0 → XX Γ 7 VM ad (vl ad μ) 0 0 3 [(0, .ref (ad (30, 0, 0))), (2, .int (I c)), (3, .int (I a)), (4, .int (I x)), (5, .int (I (abvL.getD k 0)))] []) → XX Γ 7 VM ad (vl ad μ) 0 0 3 [(0, .ref (ad (30, 0, 0))), (2, .int (I c)), (3, .int (I a)), (4, .int (I x)), (5, .int (I k))] [] := by
    intro k hk h1 h2
    have hbr : ∀ j < 21, -2147483648 ≤ bodL.getD j 0 ∧ bodL.getD j 0 < 2147483648 := by decide
    have hbr := hbr (3 * k + a) (by omega)
    refine x_aload_n (i := 0) (pc := 3) F dX8_byKind_3 rfl rfl ?_
    refine gf_X8_55 (pc := 4) F dX8_byKind_4 (vm_ok rfl) ?_
    refine x_iconst (pc := 7) F dX8_byKind_7 ?_
    refine x_iload (i := 5) (pc := 8) F dX8_byKind_8 rfl ?_
    refine x_imul (pc := 10) F dX8_byKind_10 ?_
    refine x_iload_n (i := 3) (pc := 11) F dX8_byKind_11 rfl rfl ?_
    refine x_iadd (pc := 12) F dX8_byKind_12 ?_
    refine tq_ia (pc := 13) F dX8_byKind_13 (vm_ok rfl) rfl (fun _ => rfl) (by omega) ?_
    rw [hbk k hk]
    refine x_if_ne (tgt := 29) (pc := 14) F dX8_byKind_14 rfl (by omega) (fun h14 => ?_) (fun h14 => ?_)
    · exact h1 h14
    · refine x_aload_n (i := 0) (pc := 17) F dX8_byKind_17 rfl rfl ?_
      refine gf_X8_52 (pc := 18) F dX8_byKind_18 (vm_ok rfl) ?_
      refine x_iload (i := 5) (pc := 21) F dX8_byKind_21 rfl ?_
      refine tq_ia (pc := 23) F dX8_byKind_23 (vm_ok rfl) rfl (fun _ => rfl) (by omega) ?_
      rw [hM.2 k hk]
      refine x_istore (i := 5) (pc := 24) F dX8_byKind_24 rfl ?_
      refine x_goto (tgt := 3) (pc := 26) F dX8_byKind_26 rfl ?_
      exact x_sub (L' := [(0, .ref (ad (30, 0, 0))), (2, .int (I c)), (3, .int (I a)), (4, .int (I x)), (5, .int (I (abvL.getD k 0)))]) ⟨rfl, rfl, rfl, rfl, rfl, trivial⟩ (h2 h14)
  have l3 : XX Γ 7 VM ad (vl ad μ) 0 0 3 [(0, .ref (ad (30, 0, 0))), (2, .int (I c)), (3, .int (I a)), (4, .int (I x)), (5, .int (I f))] [] := by
    clear hK hA hl n0 n10 n11 n12 n20 n30 n40 n50 n51 n60 n70 nall
    rcases (show a = 0 ∨ a = 1 ∨ a = 2 by omega) with rfl | rfl | rfl <;> rcases (show f = 0 ∨ f = 1 ∨ f = 2 ∨ f = 3 ∨ f = 4 ∨ f = 5 ∨ f = 6 by omega) with rfl | rfl | rfl | rfl | rfl | rfl | rfl <;> first | exact stp _ (by decide) (fun _ => l29) (fun h => absurd h (by decide)) | exact stp _ (by decide) (fun h => absurd rfl h) (fun _ => stp 0 (by decide) (fun _ => l29) (fun h => absurd h (by decide))) | exact stp _ (by decide) (fun h => absurd rfl h) (fun _ => stp 1 (by decide) (fun _ => l29) (fun h => absurd h (by decide))) | exact stp _ (by decide) (fun h => absurd rfl h) (fun _ => stp 2 (by decide) (fun _ => l29) (fun h => absurd h (by decide))) | exact stp _ (by decide) (fun h => absurd rfl h) (fun _ => stp 3 (by decide) (fun _ => l29) (fun h => absurd h (by decide))) | exact stp _ (by decide) (fun h => absurd rfl h) (fun _ => stp 1 (by decide) (fun h => absurd rfl h) (fun _ => stp 0 (by decide) (fun _ => l29) (fun h => absurd h (by decide)))) | exact stp _ (by decide) (fun h => absurd rfl h) (fun _ => stp 2 (by decide) (fun h => absurd rfl h) (fun _ => stp 0 (by decide) (fun _ => l29) (fun h => absurd h (by decide))))
  refine x_iload_n (i := 1) (pc := 0) F dX8_byKind_0 rfl rfl ?_
  refine x_istore (i := 5) (pc := 1) F dX8_byKind_1 rfl ?_
  exact x_sub (L' := [(0, .ref (ad (30, 0, 0))), (2, .int (I c)), (3, .int (I a)), (4, .int (I x)), (5, .int (I f))]) ⟨rfl, rfl, rfl, rfl, rfl, trivial⟩ l3
set_option maxRecDepth 20000 in
theorem ba_of (hc : 0 ≤ c ∧ c < 6) (v : Int) (kd : Nat) (hkd : T (16 + 10 * c) = kd) (a D : Nat) (hK : BKm ad T c v kd a kd D) : BAm ad T c v kd a (D + 1) := by
  intro μ L x hT hM hL hl l E A
  refine con (own := RX8) (by decide +kernel) rfl rfl rfl (fun Γ F => ?_)
  refine x_aload_n (i := 0) (pc := 0) F dX8_all_0 rfl rfl ?_
  refine x_aload_n (i := 0) (pc := 1) F dX8_all_1 rfl rfl ?_
  refine x_iload_n (i := 1) (pc := 2) F dX8_all_2 rfl rfl ?_
  refine x_iconst (pc := 3) F dX8_all_3 ?_
  refine x_V2i (ci := 8) (pc := 4) F dX8_all_4 lk_X8_82 rfl (vm_ok rfl) rfl (Nat.ble_eq_true_of_le (by omega)) (c_X8_one hT (16 + 10 * c) _ _ (by omega)) rfl rfl rfl ?_
  rintro _ _ ⟨rfl, rfl⟩
  rw [hkd]
  refine x_iload_n (i := 1) (pc := 7) F dX8_all_7 rfl rfl ?_
  refine x_iload_n (i := 2) (pc := 8) F dX8_all_8 rfl rfl ?_
  refine x_iload_n (i := 3) (pc := 9) F dX8_all_9 rfl rfl ?_
  refine x_V4i (ci := 8) (pc := 10) F dX8_all_10 lk_X8_258 rfl (vm_ok rfl) rfl (Nat.ble_eq_true_of_le (by omega)) (hK μ L x hT hM hL hl) rfl rfl rfl ?_
  rintro _ μ1 hp
  refine tq_reti (pc := 13) F dX8_all_13 ?_ rfl rfl rfl
  exact hp
theorem BKm.to {v kd : Int} {a f D D' : Nat} (h : BKm ad T c v kd a f D) (hD : D = D') : BKm ad T c v kd a f D' := hD ▸ h
theorem boV : boN 0 0 = 10 ∧ boN 0 1 = 10 ∧ boN 0 2 = 30 ∧ boN 0 3 = 10 ∧ boN 0 4 = 50 ∧ boN 0 5 = 30 ∧ boN 0 6 = 71 ∧ boN 1 0 = 11 ∧ boN 1 1 = 20 ∧ boN 1 2 = 11 ∧ boN 1 3 = 11 ∧ boN 1 4 = 51 ∧ boN 1 5 = 11 ∧ boN 1 6 = 70 ∧ boN 2 0 = 12 ∧ boN 2 1 = 12 ∧ boN 2 2 = 12 ∧ boN 2 3 = 40 ∧ boN 2 4 = 12 ∧ boN 2 5 = 60 ∧ boN 2 6 = 40 := by
  refine ⟨?_, ?_, ?_, ?_, ?_, ?_, ?_, ?_, ?_, ?_, ?_, ?_, ?_, ?_, ?_, ?_, ?_, ?_, ?_, ?_, ?_⟩ <;> decide
end MAC
section MAC2
variable {ad : Ob → Nat} {μ : Me} {T : Tn} {c : Int} {L : List Int}
theorem sK_no {b : Int} {a f : Nat} {P : Prop} (h : subK b a f) (h2 : b ≠ 20 ∧ b ≠ 30 ∧ b ≠ 40 ∧ b ≠ 50 ∧ b ≠ 51 ∧ b ≠ 60 ∧ b ≠ 70 ∧ b ≠ 71) : P := by unfold subK at h; omega
theorem sA_no {b : Int} {a : Nat} {P : Prop} (h : subA b a) (h2 : b ≠ 11 ∧ b ≠ 12 ∧ b ≠ 40) : P := by unfold subA at h; omega
theorem bW0 (hc : 0 ≤ c ∧ c < 6) (v : Int) (kd : Nat) (hv : T (17 + 10 * c) = v) (f D : Nat) (hf : f = 0 ∨ f = 1 ∨ f = 3) : BKm ad T c v kd 0 f (D + 1) := by
  have hb : boN 0 f = 10 := by rcases hf with rfl | rfl | rfl <;> decide
  exact bk_step hc v kd hv 0 f D (by omega) (by omega) (fun a' f' h => sK_no h (by rw [hb]; decide)) (fun a' h => sA_no h (by rw [hb]; decide))
theorem bW (hc : 0 ≤ c ∧ c < 6) (v : Int) (kd : Nat) (hv : T (17 + 10 * c) = v) (f D : Nat) (hf : f < 7) : BKm ad T c v kd 0 f (D + 2) := by
  have hb := boV
  refine bk_step hc v kd hv 0 f (D + 1) (by omega) hf (fun a' f' h => ?_) (fun a' h => ?_)
  · have h2 : a' = 0 ∧ (f' = 0 ∨ f' = 1 ∨ f' = 3) := by
      unfold subK at h
      rcases (show f = 0 ∨ f = 1 ∨ f = 2 ∨ f = 3 ∨ f = 4 ∨ f = 5 ∨ f = 6 by omega) with rfl | rfl | rfl | rfl | rfl | rfl | rfl <;> omega
    obtain ⟨rfl, h3⟩ := h2
    exact bW0 hc v kd hv f' D h3
  · unfold subA at h
    exfalso
    rcases (show f = 0 ∨ f = 1 ∨ f = 2 ∨ f = 3 ∨ f = 4 ∨ f = 5 ∨ f = 6 by omega) with rfl | rfl | rfl | rfl | rfl | rfl | rfl <;> omega
theorem bA0 (hc : 0 ≤ c ∧ c < 6) (v : Int) (kd : Nat) (hv : T (17 + 10 * c) = v) (hkd : T (16 + 10 * c) = kd) (h7 : kd < 7) (D : Nat) : BAm ad T c v kd 0 (D + 3) := ba_of hc v kd hkd 0 (D + 2) (bW hc v kd hv kd D h7)
theorem bK0 (hc : 0 ≤ c ∧ c < 6) (v : Int) (kd : Nat) (hv : T (17 + 10 * c) = v) (hkd : T (16 + 10 * c) = kd) (h7 : kd < 7) (f D : Nat) (hf : f = 0 ∨ f = 2 ∨ f = 3 ∨ f = 5) : BKm ad T c v kd 1 f (D + 4) := by
  have hb : boN 1 f = 11 := by rcases hf with rfl | rfl | rfl | rfl <;> decide
  refine bk_step hc v kd hv 1 f (D + 3) (by omega) (by omega) (fun a' f' h => sK_no h (by rw [hb]; decide)) (fun a' h => ?_)
  obtain rfl : a' = 0 := by unfold subA at h; omega
  exact bA0 hc v kd hv hkd h7 D
theorem bK1 (hc : 0 ≤ c ∧ c < 6) (v : Int) (kd : Nat) (hv : T (17 + 10 * c) = v) (hkd : T (16 + 10 * c) = kd) (h7 : kd < 7) (D : Nat) : BKm ad T c v kd 1 1 (D + 5) := by
  have hb := boV
  refine bk_step hc v kd hv 1 1 (D + 4) (by omega) (by omega) (fun a' f' h => ?_) (fun a' h => sA_no h (by omega))
  obtain ⟨rfl, rfl⟩ : a' = 1 ∧ f' = 0 := by unfold subK at h; omega
  exact bK0 hc v kd hv hkd h7 0 D (by omega)
theorem bK (hc : 0 ≤ c ∧ c < 6) (v : Int) (kd : Nat) (hv : T (17 + 10 * c) = v) (hkd : T (16 + 10 * c) = kd) (h7 : kd < 7) (f D : Nat) (hf : f < 7) : BKm ad T c v kd 1 f (D + 6) := by
  have hb := boV
  by_cases h0 : f = 0 ∨ f = 2 ∨ f = 3 ∨ f = 5
  · exact (bK0 hc v kd hv hkd h7 f (D + 2) h0).to (by omega)
  by_cases h1 : f = 1
  · subst h1
    exact (bK1 hc v kd hv hkd h7 (D + 1)).to (by omega)
  by_cases h4 : f = 4
  · subst h4
    refine bk_step hc v kd hv 1 4 (D + 5) (by omega) hf (fun a' f' h => ?_) (fun a' h => sA_no h (by omega))
    obtain ⟨rfl, rfl⟩ : a' = 1 ∧ f' = 1 := by unfold subK at h; omega
    exact bK1 hc v kd hv hkd h7 D
  · obtain rfl : f = 6 := by omega
    refine bk_step hc v kd hv 1 6 (D + 5) (by omega) hf (fun a' f' h => ?_) (fun a' h => sA_no h (by omega))
    rcases (show (a' = 1 ∧ f' = 3) ∨ (a' = 0 ∧ f' = 3) by unfold subK at h; omega) with ⟨rfl, rfl⟩ | ⟨rfl, rfl⟩
    · exact (bK0 hc v kd hv hkd h7 3 (D + 1) (by omega)).to (by omega)
    · exact (bW0 hc v kd hv 3 (D + 4) (by omega)).to (by omega)
theorem bA1 (hc : 0 ≤ c ∧ c < 6) (v : Int) (kd : Nat) (hv : T (17 + 10 * c) = v) (hkd : T (16 + 10 * c) = kd) (h7 : kd < 7) (D : Nat) : BAm ad T c v kd 1 (D + 7) := ba_of hc v kd hkd 1 (D + 6) (bK hc v kd hv hkd h7 kd D h7)
theorem bT0 (hc : 0 ≤ c ∧ c < 6) (v : Int) (kd : Nat) (hv : T (17 + 10 * c) = v) (hkd : T (16 + 10 * c) = kd) (h7 : kd < 7) (f D : Nat) (hf : f = 0 ∨ f = 1 ∨ f = 2 ∨ f = 4) : BKm ad T c v kd 2 f (D + 8) := by
  have hb : boN 2 f = 12 := by rcases hf with rfl | rfl | rfl | rfl <;> decide
  refine bk_step hc v kd hv 2 f (D + 7) (by omega) (by omega) (fun a' f' h => sK_no h (by rw [hb]; decide)) (fun a' h => ?_)
  obtain rfl : a' = 1 := by unfold subA at h; omega
  exact bA1 hc v kd hv hkd h7 D
theorem bT (hc : 0 ≤ c ∧ c < 6) (v : Int) (kd : Nat) (hv : T (17 + 10 * c) = v) (hkd : T (16 + 10 * c) = kd) (h7 : kd < 7) (f D : Nat) (hf : f < 7) : BKm ad T c v kd 2 f (D + 9) := by
  have hb := boV
  by_cases h0 : f = 0 ∨ f = 1 ∨ f = 2 ∨ f = 4
  · exact (bT0 hc v kd hv hkd h7 f (D + 1) h0).to (by omega)
  have hbo : boN 2 f = 40 ∨ boN 2 f = 60 := by rcases (show f = 3 ∨ f = 5 ∨ f = 6 by omega) with rfl | rfl | rfl <;> omega
  refine bk_step hc v kd hv 2 f (D + 8) (by omega) hf (fun a' f' h => ?_) (fun a' h => ?_)
  · obtain ⟨rfl, h3⟩ : a' = 2 ∧ (f' = 0 ∨ f' = 1 ∨ f' = 2 ∨ f' = 4) := by unfold subK at h; omega
    exact bT0 hc v kd hv hkd h7 f' D h3
  · obtain rfl : a' = 1 := by unfold subA at h; omega
    exact (show BAm ad T c v kd 1 (D + 1 + 7) from bA1 hc v kd hv hkd h7 (D + 1))
theorem bAll (hc : 0 ≤ c ∧ c < 6) (v : Int) (kd : Nat) (hv : T (17 + 10 * c) = v) (hkd : T (16 + 10 * c) = kd) (h7 : kd < 7) (a : Nat) (ha : a < 3) : BAm ad T c v kd a 10 := by
  rcases (show a = 0 ∨ a = 1 ∨ a = 2 by omega) with rfl | rfl | rfl
  · exact bA0 hc v kd hv hkd h7 7
  · exact bA1 hc v kd hv hkd h7 3
  · exact ba_of hc v kd hkd 2 9 (bT hc v kd hv hkd h7 kd 0 h7)
set_option maxRecDepth 20000 in
theorem c_X8_act (a x : Int) (hc : -2147483648 ≤ c ∧ c < 2147483648) (ha : -2147483648 ≤ a ∧ a < 2147483648) (hT : TN μ T) (hI : TI T) (hM : MA μ) (l : Launch) (E : Ev) (A : Nat → Prop) : Con l E 11 m_X8_act A VM ad μ [.ref (ad (30, 0, 0)), .int (I c), .int (I a), .int (I x)] (pi fun z μ' => z = actZ T c a x ∧ BTm μ' (actL T c a) ∧ FRm μ μ') := by
  have hI76 := hI.2.2.1
  refine con (own := RX8) (by decide +kernel) rfl rfl rfl (fun Γ F => ?_)
  refine x_aload_n (i := 0) (pc := 0) F dX8_act_0 rfl rfl ?_
  refine x_iconst (pc := 1) F dX8_act_1 ?_
  refine pf_X8_255 (pc := 2) F dX8_act_2 (vm_ok rfl) ?_
  have f0 : FRm μ (upM μ (30, 0, 0) 27 0) := ⟨fun k hk => by rw [upM_i, if_neg hk], fun o h _ => upM_ne h⟩
  have b0 : BTm (upM μ (30, 0, 0) 27 0) [] := ⟨by rw [upM_i, if_pos rfl]; rfl, fun i hi => absurd hi (Nat.not_lt_zero i)⟩
  have hT := hT.fr f0
  refine x_aload_n (i := 0) (pc := 5) F dX8_act_5 rfl rfl ?_
  refine x_iload_n (i := 1) (pc := 6) F dX8_act_6 rfl rfl ?_
  refine x_V1z (ci := 8) (pc := 7) F dX8_act_7 lk_X8_94 rfl (vm_ok rfl) rfl rfl (c_isComerW hT hI76 _ (by omega)) rfl rfl rfl ?_
  rintro _ _ ⟨rfl, rfl⟩
  refine x_if_eqB (tgt := 32) (pc := 10) F dX8_act_10 rfl (fun h10 => ?_) (fun h10 => ?_)
  · try simp only [decide_eq_true_eq, decide_eq_false_iff_not, Bool.and_eq_true, Bool.or_eq_true, Bool.not_eq_true', Bool.not_eq_false', Bool.and_eq_false_iff, Bool.or_eq_false_iff] at h10
    refine x_iconst (pc := 32) F dX8_act_32 ?_
    refine tq_reti (pc := 33) F dX8_act_33 ?_ rfl rfl rfl
    first | (refine ⟨?_, ?_, f0.trans p2⟩; (unfold actZ bkF; rw [if_pos (show 0 ≤ c ∧ c < T 76 by omega)]; rcases (show an = 0 ∨ an = 1 ∨ an = 2 by omega) with rfl | rfl | rfl <;> rfl); (have e : actL T c an = bkL an (T (16 + 10 * c)) (T (16 + 10 * c)) := (by unfold actL bkL; rw [if_pos (show 0 ≤ c ∧ c < T 76 by omega)]; rcases (show an = 0 ∨ an = 1 ∨ an = 2 by omega) with rfl | rfl | rfl <;> rfl); rw [e]; exact p1)) | (refine ⟨?_, ?_, f0⟩; (unfold actZ; (repeat' split) <;> first | rfl | (exfalso; omega)); (have e : actL T c a = [] := (by unfold actL; (repeat' split) <;> first | rfl | (exfalso; omega)); rw [e]; exact b0))
  · try simp only [decide_eq_true_eq, decide_eq_false_iff_not, Bool.and_eq_true, Bool.or_eq_true, Bool.not_eq_true', Bool.not_eq_false', Bool.and_eq_false_iff, Bool.or_eq_false_iff] at h10
    refine x_iload_n (i := 2) (pc := 13) F dX8_act_13 rfl rfl ?_
    refine x_iconst (pc := 14) F dX8_act_14 ?_
    refine x_iconst (pc := 15) F dX8_act_15 ?_
    refine x_S3z (pc := 16) F dX8_act_16 lk_X8_78 rfl (c_X8_isIn _ _ _ (by omega) _) rfl rfl rfl ?_
    rintro _ _ ⟨rfl, rfl⟩
    refine x_if_eqB (tgt := 32) (pc := 19) F dX8_act_19 rfl (fun h19 => ?_) (fun h19 => ?_)
    · try simp only [decide_eq_true_eq, decide_eq_false_iff_not, Bool.and_eq_true, Bool.or_eq_true, Bool.not_eq_true', Bool.not_eq_false', Bool.and_eq_false_iff, Bool.or_eq_false_iff] at h19
      refine x_iconst (pc := 32) F dX8_act_32 ?_
      refine tq_reti (pc := 33) F dX8_act_33 ?_ rfl rfl rfl
      first | (refine ⟨?_, ?_, f0.trans p2⟩; (unfold actZ bkF; rw [if_pos (show 0 ≤ c ∧ c < T 76 by omega)]; rcases (show an = 0 ∨ an = 1 ∨ an = 2 by omega) with rfl | rfl | rfl <;> rfl); (have e : actL T c an = bkL an (T (16 + 10 * c)) (T (16 + 10 * c)) := (by unfold actL bkL; rw [if_pos (show 0 ≤ c ∧ c < T 76 by omega)]; rcases (show an = 0 ∨ an = 1 ∨ an = 2 by omega) with rfl | rfl | rfl <;> rfl); rw [e]; exact p1)) | (refine ⟨?_, ?_, f0⟩; (unfold actZ; (repeat' split) <;> first | rfl | (exfalso; omega)); (have e : actL T c a = [] := (by unfold actL; (repeat' split) <;> first | rfl | (exfalso; omega)); rw [e]; exact b0))
    · try simp only [decide_eq_true_eq, decide_eq_false_iff_not, Bool.and_eq_true, Bool.or_eq_true, Bool.not_eq_true', Bool.not_eq_false', Bool.and_eq_false_iff, Bool.or_eq_false_iff] at h19
      refine x_aload_n (i := 0) (pc := 22) F dX8_act_22 rfl rfl ?_
      refine x_iload_n (i := 1) (pc := 23) F dX8_act_23 rfl rfl ?_
      refine x_iload_n (i := 2) (pc := 24) F dX8_act_24 rfl rfl ?_
      refine x_iload_n (i := 3) (pc := 25) F dX8_act_25 rfl rfl ?_
      obtain ⟨an, rfl⟩ : ∃ n : Nat, a = n := ⟨a.toNat, by omega⟩
      have hki := (hI.2.1 c (by omega) (by omega)).1
      refine x_V3i (ci := 8) (pc := 26) F dX8_act_26 lk_X8_264 rfl (vm_ok rfl) rfl rfl (bAll (by omega) _ (T (16 + 10 * c)).toNat rfl (by omega) (by omega) an (by omega) _ [] x hT (hM.fr f0) b0 (by have := bkL_len an ((T (16 + 10 * c)).toNat : Int) ((T (16 + 10 * c)).toNat : Int); simp only [List.length_nil]; omega)) rfl rfl rfl ?_
      rintro _ μ1 ⟨rfl, p1, p2⟩
      rw [toNat_c hki.1] at p1 ⊢
      rw [List.nil_append] at p1
      refine x_goto (tgt := 33) (pc := 29) F dX8_act_29 rfl ?_
      refine tq_reti (pc := 33) F dX8_act_33 ?_ rfl rfl rfl
      first | (refine ⟨?_, ?_, f0.trans p2⟩; (unfold actZ bkF; rw [if_pos (show 0 ≤ c ∧ c < T 76 by omega)]; rcases (show an = 0 ∨ an = 1 ∨ an = 2 by omega) with rfl | rfl | rfl <;> rfl); (have e : actL T c an = bkL an (T (16 + 10 * c)) (T (16 + 10 * c)) := (by unfold actL bkL; rw [if_pos (show 0 ≤ c ∧ c < T 76 by omega)]; rcases (show an = 0 ∨ an = 1 ∨ an = 2 by omega) with rfl | rfl | rfl <;> rfl); rw [e]; exact p1)) | (refine ⟨?_, ?_, f0⟩; (unfold actZ; (repeat' split) <;> first | rfl | (exfalso; omega)); (have e : actL T c a = [] := (by unfold actL; (repeat' split) <;> first | rfl | (exfalso; omega)); rw [e]; exact b0))
end MAC2
