/-! ===== the law's invariant: the class's cells, the reference's cells, the numbers ===== -/
def IC (μ : Me) (nh hc im tl : Int) (T K tx st ln it : Tn) (Hm : Int → Hs) (Lb : List Int) : Prop :=
  TR μ 0 T ∧ μ (0, 0, 0) 3 = im ∧ TR μ 1 K ∧ TX μ tx tl ∧ TPR μ st ln it ∧ BT μ Lb ∧ μ (0, 0, 0) 6 = hc ∧ (∀ k, 0 ≤ k → k < 6 → μ (17, 0, 0) k = if k < nh then k else 7) ∧ ∀ r, 0 ≤ r → r ≤ hc → HRel μ nh r (Hm r)
def IM (μ : Me) (hc im tl : Int) (T K tx st ln it : Tn) (Hm : Int → Hs) (Lb : List Int) : Prop :=
  TN μ T ∧ μ (30, 0, 0) 3 = im ∧ (∀ k, 0 ≤ k → k < 133 → μ (33, 0, 0) k = K k) ∧ TXm μ tx tl ∧ TPM μ st ln it ∧ BTm μ Lb ∧ μ (30, 0, 0) 8 = hc ∧ MS μ ∧ MA μ ∧ ∀ r, 0 ≤ r → r ≤ hc → MH μ r (Hm r)
def IP (nh hc im : Int) (T K st ln it : Tn) (Hm : Int → Hs) (Lb : List Int) : Prop :=
  (TI T ∧ T 77 ≤ 9999 ∧ T 78 ≤ hc) ∧ (TI K ∧ K 77 ≤ 9999 ∧ K 78 ≤ hc) ∧ (im = 0 ∨ im = 1) ∧ TPI st ln it ∧ Lb.length ≤ 20 ∧ (0 ≤ hc ∧ hc ≤ 6) ∧ (nh = hc ∨ nh = hc + 1 ∧ hc < 6) ∧ ∀ r, SB (Hm r)
def INV (μc μm : Me) (nh : Int) : Prop := ∃ (hc im tl : Int) (T K tx st ln it : Tn) (Hm : Int → Hs) (Lb : List Int), IC μc nh hc im tl T K tx st ln it Hm Lb ∧ IM μm hc im tl T K tx st ln it Hm Lb ∧ IP nh hc im T K st ln it Hm Lb
theorem TX_fr {μ μ' : Me} {tx : Tn} {tl : Int} (h : TX μ tx tl) (e1 : μ' (15, 0, 0) 1 = μ (15, 0, 0) 1) (e2 : μ' (16, 0, 0) = μ (16, 0, 0)) : TX μ' tx tl := by
  unfold TX
  rw [e1, e2]
  exact h
theorem BT_fr {μ μ' : Me} {L : List Int} (h : BT μ L) (e1 : μ' (0, 0, 0) 8 = μ (0, 0, 0) 8) (e2 : μ' (18, 0, 0) = μ (18, 0, 0)) : BT μ' L := by
  unfold BT
  rw [e1, e2]
  exact h
theorem TXm_fr {μ μ' : Me} {tx : Tn} {tl : Int} (h : TXm μ tx tl) (e1 : μ' (30, 0, 0) 5 = μ (30, 0, 0) 5) (e2 : μ' (34, 0, 0) = μ (34, 0, 0)) : TXm μ' tx tl := by
  unfold TXm
  rw [e1, e2]
  exact h
theorem BTm_fr {μ μ' : Me} {L : List Int} (h : BTm μ L) (e1 : μ' (30, 0, 0) 27 = μ (30, 0, 0) 27) (e2 : μ' (46, 0, 0) = μ (46, 0, 0)) : BTm μ' L := by
  unfold BTm
  rw [e1, e2]
  exact h
theorem TPM_fr {μ μ' : Me} {st ln it : Tn} (h : TPM μ st ln it) (e1 : μ' (47, 0, 0) = μ (47, 0, 0)) (e2 : μ' (48, 0, 0) = μ (48, 0, 0)) (e3 : μ' (49, 0, 0) = μ (49, 0, 0)) : TPM μ' st ln it := by
  unfold TPM
  rw [e1, e2, e3]
  exact h
theorem MS_fr {μ μ' : Me} (h : MS μ) (e1 : μ' (39, 0, 0) = μ (39, 0, 0)) (e2 : μ' (40, 0, 0) = μ (40, 0, 0)) : MS μ' := by
  unfold MS
  rw [e1, e2]
  exact h
theorem MA_fr {μ μ' : Me} (h : MA μ) (e1 : μ' (44, 0, 0) = μ (44, 0, 0)) (e2 : μ' (45, 0, 0) = μ (45, 0, 0)) : MA μ' := by
  unfold MA
  rw [e1, e2]
  exact h
theorem MH_fr {μ μ' : Me} {r : Int} {S : Hs} (h : MH μ r S) (e1 : μ' (35, 0, 0) = μ (35, 0, 0)) (e2 : μ' (36, 0, 0) = μ (36, 0, 0)) : MH μ' r S := by
  unfold MH
  rw [e1, e2]
  exact h
theorem TN_fr {μ μ' : Me} {T : Tn} (h : TN μ T) (e1 : μ' (31, 0, 0) = μ (31, 0, 0)) : TN μ' T := by
  unfold TN
  rw [e1]
  exact h
section LINV
variable {μ μ' : Me} {nh hc im tl : Int} {T T' K tx st ln it : Tn} {Hm : Int → Hs} {Lb : List Int}
theorem IC.fr (h : IC μ nh hc im tl T K tx st ln it Hm Lb) (hT : TR μ' 0 T') (f : ∀ o : Ob, o.1 = 0 ∨ (1 ≤ o.1 ∧ o.1 ≤ 9 ∧ o.2.1 = 1) ∨ (12 ≤ o.1 ∧ o.1 ≤ 21) → μ' o = μ o) : IC μ' nh hc im tl T' K tx st ln it Hm Lb := by
  obtain ⟨a1, a2, a3, a4, a5, a6, a7, a8, a9⟩ := h
  have f0 := f (0, 0, 0) (by simp)
  refine ⟨hT, by rw [f0]; exact a2, TR_fr a3 (fun o x y z => f o (Or.inr (Or.inl ⟨x, y, z⟩))), TX_fr a4 (by rw [f (15, 0, 0) (by simp)]) (f (16, 0, 0) (by simp)), TPR_fr a5 (fun o ho => f o (by unfold tapeO at ho; omega)), BT_fr a6 (by rw [f0]) (f (18, 0, 0) (by simp)), by rw [f0]; exact a7, fun k x y => by rw [f (17, 0, 0) (by simp)]; exact a8 k x y, fun r x y => (a9 r x y).fr (fun o ho => f o (by unfold hs3 at ho; omega))⟩
theorem IC.nw (h : IC μ nh hc im tl T K tx st ln it Hm Lb) (hT : TR μ' 0 T') (f : ∀ o, ¬ nwO o → μ' o = μ o) : IC μ' nh hc im tl T' K tx st ln it Hm Lb := h.fr hT (fun o ho => f o (by unfold nwO; omega))
theorem IC.sc (h : IC μ nh hc im tl T K tx st ln it Hm Lb) (f : ∀ o, ¬ scO o → μ' o = μ o) : IC μ' nh hc im tl T K tx st ln it Hm Lb := h.fr (TR_sc h.1 (Or.inl rfl) f) (fun o ho => f o (by unfold scO; omega))
theorem IM.fx (h : IM μ hc im tl T K tx st ln it Hm Lb) (e : FX μ μ') (hT : TN μ' T') : IM μ' hc im tl T' K tx st ln it Hm Lb := by
  obtain ⟨a1, a2, a3, a4, a5, a6, a7, a8, a9, a10⟩ := h
  obtain ⟨e1, e2⟩ := e
  have g : ∀ n : Nat, 30 < n → n ≠ 31 → n ≠ 32 → n ≠ 37 → n ≠ 38 → n ≠ 41 → n ≠ 42 → n ≠ 43 → μ' (n, 0, 0) = μ (n, 0, 0) := fun n n0 n1 n2 n3 n4 n5 n6 n7 => e2 _ (by simp; omega) (by simp; omega) (by simp; omega) (by simp; omega) (by simp; omega) (by simp; omega) (by simp; omega) (by simp; omega)
  have gg : ∀ n : Nat, decide (30 < n ∧ n ≠ 31 ∧ n ≠ 32 ∧ n ≠ 37 ∧ n ≠ 38 ∧ n ≠ 41 ∧ n ≠ 42 ∧ n ≠ 43) = true → μ' (n, 0, 0) = μ (n, 0, 0) := fun n hn => by
    have hn := of_decide_eq_true hn
    exact g n hn.1 hn.2.1 hn.2.2.1 hn.2.2.2.1 hn.2.2.2.2.1 hn.2.2.2.2.2.1 hn.2.2.2.2.2.2.1 hn.2.2.2.2.2.2.2
  exact ⟨hT, by rw [e1 3 (by decide)]; exact a2, fun k x y => by rw [gg 33 rfl]; exact a3 k x y, TXm_fr a4 (e1 5 (by decide)) (gg 34 rfl), TPM_fr a5 (gg 47 rfl) (gg 48 rfl) (gg 49 rfl), BTm_fr a6 (e1 27 (by decide)) (gg 46 rfl), by rw [e1 8 (by decide)]; exact a7, MS_fr a8 (gg 39 rfl) (gg 40 rfl), MA_fr a9 (gg 44 rfl) (gg 45 rfl), fun r x y => MH_fr (a10 r x y) (gg 35 rfl) (gg 36 rfl)⟩
/-- the bodies -/
theorem IC.act {L : List Int} (h : IC μ nh hc im tl T K tx st ln it Hm Lb) (hB : BT μ' L) (e : FRa μ μ') : IC μ' nh hc im tl T K tx st ln it Hm L := by
  obtain ⟨a1, a2, a3, a4, a5, a6, a7, a8, a9⟩ := h
  obtain ⟨e1, e2⟩ := e
  have f : ∀ o : Ob, o.1 ≠ 0 → o.1 ≠ 18 → μ' o = μ o := fun o h0 h1 => e2 o (fun z => h0 (by rw [z])) (fun z => h1 (by rw [z]))
  exact ⟨TR_fr a1 (fun o x y z => f o (by omega) (by omega)), by rw [e1 3 (by decide)]; exact a2, TR_fr a3 (fun o x y z => f o (by omega) (by omega)), TX_fr a4 (by rw [f (15, 0, 0) (by simp) (by simp)]) (f (16, 0, 0) (by simp) (by simp)), TPR_fr a5 (fun o ho => f o (by unfold tapeO at ho; omega) (by unfold tapeO at ho; omega)), hB, by rw [e1 6 (by decide)]; exact a7, fun k x y => by rw [f (17, 0, 0) (by simp) (by simp)]; exact a8 k x y, fun r x y => (a9 r x y).fr (fun o ho => f o (by unfold hs3 at ho; omega) (by unfold hs3 at ho; omega))⟩
theorem IM.act {L : List Int} (h : IM μ hc im tl T K tx st ln it Hm Lb) (hB : BTm μ' L) (e : FRm μ μ') : IM μ' hc im tl T K tx st ln it Hm L := by
  obtain ⟨a1, a2, a3, a4, a5, a6, a7, a8, a9, a10⟩ := h
  obtain ⟨e1, e2⟩ := e
  have f : ∀ n : Nat, n ≠ 30 → n ≠ 46 → μ' (n, 0, 0) = μ (n, 0, 0) := fun n h0 h1 => e2 _ (by simp; omega) (by simp; omega)
  exact ⟨TN_fr a1 (f 31 (by decide) (by decide)), by rw [e1 3 (by decide)]; exact a2, fun k x y => by rw [f 33 (by decide) (by decide)]; exact a3 k x y, TXm_fr a4 (e1 5 (by decide)) (f 34 (by decide) (by decide)), TPM_fr a5 (f 47 (by decide) (by decide)) (f 48 (by decide) (by decide)) (f 49 (by decide) (by decide)), hB, by rw [e1 8 (by decide)]; exact a7, MS_fr a8 (f 39 (by decide) (by decide)) (f 40 (by decide) (by decide)), MA_fr a9 (f 44 (by decide) (by decide)) (f 45 (by decide) (by decide)), fun r x y => MH_fr (a10 r x y) (f 35 (by decide) (by decide)) (f 36 (by decide) (by decide))⟩
/-- the tapes -/
theorem IC.tp {st' ln' it' : Tn} (h : IC μ nh hc im tl T K tx st ln it Hm Lb) (hP : TPR μ' st' ln' it') (f : ∀ o, ¬ tapeO o → μ' o = μ o) : IC μ' nh hc im tl T K tx st' ln' it' Hm Lb := by
  obtain ⟨a1, a2, a3, a4, a5, a6, a7, a8, a9⟩ := h
  have f0 := f (0, 0, 0) (by unfold tapeO; simp)
  have g : ∀ o : Ob, o.1 ≠ 20 → o.1 ≠ 21 → μ' o = μ o := fun o h0 h1 => f o (by unfold tapeO; omega)
  exact ⟨TR_fr a1 (fun o x y z => g o (by omega) (by omega)), by rw [f0]; exact a2, TR_fr a3 (fun o x y z => g o (by omega) (by omega)), TX_fr a4 (by rw [g (15, 0, 0) (by simp) (by simp)]) (g (16, 0, 0) (by simp) (by simp)), hP, BT_fr a6 (by rw [f0]) (g (18, 0, 0) (by simp) (by simp)), by rw [f0]; exact a7, fun k x y => by rw [g (17, 0, 0) (by simp) (by simp)]; exact a8 k x y, fun r x y => (a9 r x y).fr (fun o ho => g o (by unfold hs3 at ho; omega) (by unfold hs3 at ho; omega))⟩
theorem IM.tp {st' ln' it' : Tn} (h : IM μ hc im tl T K tx st ln it Hm Lb) (hP : TPM μ' st' ln' it') (e : ∀ o, ¬ tapO o → μ' o = μ o) : IM μ' hc im tl T K tx st' ln' it' Hm Lb := by
  obtain ⟨a1, a2, a3, a4, a5, a6, a7, a8, a9, a10⟩ := h
  have f : ∀ n : Nat, n < 47 → μ' (n, 0, 0) = μ (n, 0, 0) := fun n h0 => e _ (by unfold tapO; simp; omega)
  have f0 := f 30 (by decide)
  exact ⟨TN_fr a1 (f 31 (by decide)), by rw [f0]; exact a2, fun k x y => by rw [f 33 (by decide)]; exact a3 k x y, TXm_fr a4 (by rw [f0]) (f 34 (by decide)), hP, BTm_fr a6 (by rw [f0]) (f 46 (by decide)), by rw [f0]; exact a7, MS_fr a8 (f 39 (by decide)) (f 40 (by decide)), MA_fr a9 (f 44 (by decide)) (f 45 (by decide)), fun r x y => MH_fr (a10 r x y) (f 35 (by decide)) (f 36 (by decide))⟩
/-- the text fed -/
theorem IC.fd {tx' : Tn} {tl' : Int} (h : IC μ nh hc im tl T K tx st ln it Hm Lb) (hX : TX μ' tx' tl') (f : ∀ o, o ≠ (15, 0, 0) → o ≠ (16, 0, 0) → μ' o = μ o) : IC μ' nh hc im tl' T K tx' st ln it Hm Lb := by
  obtain ⟨a1, a2, a3, a4, a5, a6, a7, a8, a9⟩ := h
  have g : ∀ o : Ob, o.1 ≠ 15 → o.1 ≠ 16 → μ' o = μ o := fun o h0 h1 => f o (fun z => h0 (by rw [z])) (fun z => h1 (by rw [z]))
  have f0 := g (0, 0, 0) (by simp) (by simp)
  exact ⟨TR_fr a1 (fun o x y z => g o (by omega) (by omega)), by rw [f0]; exact a2, TR_fr a3 (fun o x y z => g o (by omega) (by omega)), hX, TPR_fr a5 (fun o ho => g o (by unfold tapeO at ho; omega) (by unfold tapeO at ho; omega)), BT_fr a6 (by rw [f0]) (g (18, 0, 0) (by simp) (by simp)), by rw [f0]; exact a7, fun k x y => by rw [g (17, 0, 0) (by simp) (by simp)]; exact a8 k x y, fun r x y => (a9 r x y).fr (fun o ho => g o (by unfold hs3 at ho; omega) (by unfold hs3 at ho; omega))⟩
theorem IM.fd {tx' : Tn} {tl' : Int} (h : IM μ hc im tl T K tx st ln it Hm Lb) (hX : TXm μ' tx' tl') (e1 : ∀ k, k ≠ 5 → μ' (30, 0, 0) k = μ (30, 0, 0) k) (e : ∀ o, o ≠ (30, 0, 0) → o ≠ (34, 0, 0) → μ' o = μ o) : IM μ' hc im tl' T K tx' st ln it Hm Lb := by
  obtain ⟨a1, a2, a3, a4, a5, a6, a7, a8, a9, a10⟩ := h
  have f : ∀ n : Nat, n ≠ 30 → n ≠ 34 → μ' (n, 0, 0) = μ (n, 0, 0) := fun n h0 h1 => e _ (by simp; omega) (by simp; omega)
  exact ⟨TN_fr a1 (f 31 (by decide) (by decide)), by rw [e1 3 (by decide)]; exact a2, fun k x y => by rw [f 33 (by decide) (by decide)]; exact a3 k x y, hX, TPM_fr a5 (f 47 (by decide) (by decide)) (f 48 (by decide) (by decide)) (f 49 (by decide) (by decide)), BTm_fr a6 (e1 27 (by decide)) (f 46 (by decide) (by decide)), by rw [e1 8 (by decide)]; exact a7, MS_fr a8 (f 39 (by decide) (by decide)) (f 40 (by decide) (by decide)), MA_fr a9 (f 44 (by decide) (by decide)) (f 45 (by decide) (by decide)), fun r x y => MH_fr (a10 r x y) (f 35 (by decide) (by decide)) (f 36 (by decide) (by decide))⟩
/-- the image -/
theorem IC.img (h : IC μ nh hc im tl T K tx st ln it Hm Lb) (hT : TR μ' 1 T) (e3 : μ' (0, 0, 0) 3 = 1) (e1 : ∀ k, k ≠ 3 → μ' (0, 0, 0) k = μ (0, 0, 0) k) (f : ∀ o, o ≠ (0, 0, 0) → ¬ (1 ≤ o.1 ∧ o.1 ≤ 9 ∧ o.2.1 = 1) → μ' o = μ o) : IC μ' nh hc 1 tl T T tx st ln it Hm Lb := by
  obtain ⟨a1, a2, a3, a4, a5, a6, a7, a8, a9⟩ := h
  have g : ∀ o : Ob, o.1 ≠ 0 → ¬ (1 ≤ o.1 ∧ o.1 ≤ 9 ∧ o.2.1 = 1) → μ' o = μ o := fun o h0 h1 => f o (fun z => h0 (by rw [z])) h1
  exact ⟨TR_fr a1 (fun o x y z => g o (by omega) (by omega)), e3, hT, TX_fr a4 (by rw [g (15, 0, 0) (by simp) (by simp)]) (g (16, 0, 0) (by simp) (by simp)), TPR_fr a5 (fun o ho => g o (by unfold tapeO at ho; omega) (by unfold tapeO at ho; omega)), BT_fr a6 (e1 8 (by decide)) (g (18, 0, 0) (by simp) (by simp)), by rw [e1 6 (by decide)]; exact a7, fun k x y => by rw [g (17, 0, 0) (by simp) (by simp)]; exact a8 k x y, fun r x y => (a9 r x y).fr (fun o ho => g o (by unfold hs3 at ho; omega) (by unfold hs3 at ho; omega))⟩
theorem IM.img (h : IM μ hc im tl T K tx st ln it Hm Lb) (e3 : μ' (30, 0, 0) 3 = 1) (eK : ∀ k, 0 ≤ k → k < 133 → μ' (33, 0, 0) k = T k) (e1 : ∀ k, k ≠ 3 → μ' (30, 0, 0) k = μ (30, 0, 0) k) (e : ∀ o, o ≠ (30, 0, 0) → o ≠ (33, 0, 0) → μ' o = μ o) : IM μ' hc 1 tl T T tx st ln it Hm Lb := by
  obtain ⟨a1, a2, a3, a4, a5, a6, a7, a8, a9, a10⟩ := h
  have f : ∀ n : Nat, n ≠ 30 → n ≠ 33 → μ' (n, 0, 0) = μ (n, 0, 0) := fun n h0 h1 => e _ (by simp; omega) (by simp; omega)
  exact ⟨TN_fr a1 (f 31 (by decide) (by decide)), e3, eK, TXm_fr a4 (e1 5 (by decide)) (f 34 (by decide) (by decide)), TPM_fr a5 (f 47 (by decide) (by decide)) (f 48 (by decide) (by decide)) (f 49 (by decide) (by decide)), BTm_fr a6 (e1 27 (by decide)) (f 46 (by decide) (by decide)), by rw [e1 8 (by decide)]; exact a7, MS_fr a8 (f 39 (by decide) (by decide)) (f 40 (by decide) (by decide)), MA_fr a9 (f 44 (by decide) (by decide)) (f 45 (by decide) (by decide)), fun r x y => MH_fr (a10 r x y) (f 35 (by decide) (by decide)) (f 36 (by decide) (by decide))⟩
/-- undo -/
theorem IM.und (h : IM μ hc im tl T K tx st ln it Hm Lb) (hT : TN μ' K) (e : ∀ o, o ≠ (31, 0, 0) → μ' o = μ o) : IM μ' hc im tl K K tx st ln it Hm Lb := by
  obtain ⟨a1, a2, a3, a4, a5, a6, a7, a8, a9, a10⟩ := h
  have f : ∀ n : Nat, n ≠ 31 → μ' (n, 0, 0) = μ (n, 0, 0) := fun n h0 => e _ (by simp; omega)
  have f0 := f 30 (by decide)
  exact ⟨hT, by rw [f0]; exact a2, fun k x y => by rw [f 33 (by decide)]; exact a3 k x y, TXm_fr a4 (by rw [f0]) (f 34 (by decide)), TPM_fr a5 (f 47 (by decide)) (f 48 (by decide)) (f 49 (by decide)), BTm_fr a6 (by rw [f0]) (f 46 (by decide)), by rw [f0]; exact a7, MS_fr a8 (f 39 (by decide)) (f 40 (by decide)), MA_fr a9 (f 44 (by decide)) (f 45 (by decide)), fun r x y => MH_fr (a10 r x y) (f 35 (by decide)) (f 36 (by decide))⟩
/-- the numbers behind a call -/
theorem IP.up (h : IP nh hc im T K st ln it Hm Lb) (h1 : TI T') (h2 : T' 77 ≤ 9999) (h3 : T' 78 = T 78) : IP nh hc im T' K st ln it Hm Lb := ⟨⟨h1, h2, by rw [h3]; exact h.1.2.2⟩, h.2⟩
theorem tape_ok {t s n : Int} (h : TPI st ln it) : TPI (tapeS st t s n) (tapeN ln t s n) (tapeI it t s n) := by
  intro u hu hu6
  obtain ⟨b1, b2, b3, b4⟩ := h u hu hu6
  unfold tapeS tapeN tapeI
  by_cases hz : tapeZ t s n = 1
  · rw [if_pos hz, if_pos hz, if_pos hz]
    unfold tapeZ at hz
    refine ⟨?_, ?_, ?_, fun k x y => ?_⟩
    · rw [upT_i]
      split
      · (repeat' split at hz) <;> omega
      · exact b1
    · rw [upT_i]
      split
      · (repeat' split at hz) <;> split <;> omega
      · exact b2
    · rw [upT_i, upT_i]
      split
      · (repeat' split at hz) <;> split <;> omega
      · exact b3
    · show -9223372036854775808 ≤ (if 60 * t ≤ 60 * u + k ∧ 60 * u + k < 60 * t + 60 then 0 else it (60 * u + k)) ∧ (if 60 * t ≤ 60 * u + k ∧ 60 * u + k < 60 * t + 60 then 0 else it (60 * u + k)) < 9223372036854775808
      split
      · omega
      · exact b4 k x y
  · rw [if_neg hz, if_neg hz, if_neg hz]
    exact ⟨b1, b2, b3, b4⟩
theorem shift_ok {t i o j n : Int} (h : TPI st ln it) : TPI st ln (shiftI st ln it t i o j n) := by
  intro u hu hu6
  obtain ⟨b1, b2, b3, b4⟩ := h u hu hu6
  refine ⟨b1, b2, b3, fun k x y => ?_⟩
  unfold shiftI
  split
  · rename_i hs
    obtain ⟨⟨h1, h2⟩, h3, h4, h5⟩ := hs
    obtain ⟨c1, c2, c3, c4⟩ := h t h1.1 h1.2
    obtain ⟨d1, d2, d3, d4⟩ := h o h2.1 h2.2
    show -9223372036854775808 ≤ (if 60 * o + j ≤ 60 * u + k ∧ 60 * u + k < 60 * o + j + n then it (60 * t + i + (60 * u + k - (60 * o + j))) else it (60 * u + k)) ∧ (if 60 * o + j ≤ 60 * u + k ∧ 60 * u + k < 60 * o + j + n then it (60 * t + i + (60 * u + k - (60 * o + j))) else it (60 * u + k)) < 9223372036854775808
    split
    · have := c4 (i + (60 * u + k - (60 * o + j))) (by omega) (by omega)
      rw [show 60 * t + i + (60 * u + k - (60 * o + j)) = 60 * t + (i + (60 * u + k - (60 * o + j))) by omega]
      exact this
    · exact b4 k x y
  · exact b4 k x y
theorem cut_rg (s v : Int) (hv : -9223372036854775808 ≤ v ∧ v < 9223372036854775808) : -9223372036854775808 ≤ cutS s v ∧ cutS s v < 9223372036854775808 := by
  have h1 := w32_rg v
  have h2 := b8_rg (w32 v)
  have h3 := s16_rg (w32 v)
  unfold cutS
  (repeat' split) <;> omega
theorem item_ok {t i v : Int} (hv : -9223372036854775808 ≤ v ∧ v < 9223372036854775808) (h : TPI st ln it) : TPI st ln (itemI st ln it t i v) := by
  intro u hu hu6
  obtain ⟨b1, b2, b3, b4⟩ := h u hu hu6
  refine ⟨b1, b2, b3, fun k x y => ?_⟩
  unfold itemI
  split
  · rw [upT_i]
    split
    · exact cut_rg _ _ hv
    · exact b4 k x y
  · exact b4 k x y
end LINV
