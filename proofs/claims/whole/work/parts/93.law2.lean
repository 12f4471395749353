/-! ===== the law's cases, on ===== -/
section LCASE
variable {Γ : Ct} {P : Pq} {nh i : Int} {ad : Ob → Nat} {μc μm : Me} {cs sl b n : Nat} {xs : Nat → Int32}

theorem law_8 (F : Fx Γ cL_law "GatesBentLaw" 4 (some .boolean) P 2000 600000 7302250) (hS : Scr Γ b n xs) (hi : 0 ≤ i ∧ i + 6 ≤ n ∧ n ≤ 3072) (hcs : cs ≤ 500000) (hsl : sl ≤ 7000000) (hI : INV μc μm nh) (kk : ∀ (nh' : Int) (ad2 : Ob → Nat) (μc' μm' : Me), INV μc' μm' nh' → XX Γ 4 (VL nh') ad2 (vl ad2 (mx μc' μm')) (cs + 3) (sl + 205) 1345 [(0, .ref b), (1, .ref (ad2 (0, 0, 0))), (2, .ref (ad2 (30, 0, 0))), (3, .int (I i))] []) : XX Γ 4 (VL nh) ad (vl ad (mx μc μm)) cs sl 478 [(0, .ref b), (1, .ref (ad (0, 0, 0))), (2, .ref (ad (30, 0, 0))), (3, .int (I i))] [] := by
  refine law_n38 ?_
  obtain ⟨hc, im, tl, T, K, tx, sT, ln, it, Hm, Lb, hC, hM, hP⟩ := hI
  have hM := hM.n38
  have hN := NM_n38 (μm := μm) (by obtain ⟨_, _, _, _, _, _, _, h, _⟩ := hM; exact MS_fr h (n38_o (by simp)).symm (n38_o (by simp)).symm)
  generalize n38 μm = μn at hM hN
  obtain ⟨h6a, h6b⟩ := hP.2.2.2.2.2.1
  have htl := hC.2.2.2.1.1.2
  refine x_aload_n (i := 1) (pc := 478) F dL_law_478 rfl rfl ?_
  refine lc_house (pc := 479) F dL_law_479 lk_L_49 rfl rfl (by omega) (by omega) (by omega) hC.2.2.2.1 ⟨h6a, h6b⟩ hC.2.2.2.2.2.2.1 hP.2.2.2.2.2.2.1 hC.2.2.2.2.2.2.2.1 ?_
  intro ad2 μ1 nh2 g0 g30 hq
  rw [← g0, ← g30]
  refine x_aload_n (i := 2) (pc := 482) F dL_law_482 rfl rfl ?_
  refine lc_Mi (ad := ad2) (As := []) (pc := 483) F dL_law_483 lk_L_53 rfl rfl rfl (by omega) (by omega) (by omega) (c_X8_house hM.1 hM.2.2.2.1 hN ⟨hM.2.2.2.2.2.2.1, h6a, h6b⟩) ?_
  rintro _ μ2 ⟨rfl, hr⟩
  refine x_icmp_same (tgt := 1345) (pc := 486) F dL_law_486 rfl ?_
  refine kk nh2 ad2 _ _ ?_
  rcases hq with ⟨z6, rfl, rfl⟩ | ⟨z6, rfl, μ3, hn, ho⟩
  · rcases hr with ⟨y6, rfl⟩ | ⟨y6, _⟩
    · exact ⟨_, _, _, _, _, _, _, _, _, _, _, hC, hM, hP⟩
    · omega
  · have hC1 := hC.mk hP z6 hn
    rcases hr with ⟨y6, _⟩ | ⟨y6, m5, mF, hr⟩
    · omega
    · rcases hr with ⟨r1, r2, r3⟩ | ⟨r1, r2, r3, r4, r5⟩
      · exact ⟨_, _, _, _, _, _, _, _, _, _, _, hC1.hof ⟨h6a, z6⟩ ho r1, hM.hof m5 mF r2 r3, ⟨hP.1, hP.2.1, hP.2.2.1, hP.2.2.2.1, hP.2.2.2.2.1, ⟨h6a, h6b⟩, Or.inr ⟨rfl, z6⟩, hP.2.2.2.2.2.2.2⟩⟩
      · obtain ⟨hC2, hsb⟩ := hC1.hok ⟨h6a, z6⟩ ho r1
        refine ⟨_, _, _, _, _, _, _, _, _, _, _, hC2, hM.hok ⟨h6a, z6⟩ m5 mF r1 r2 r3 r4 r5, ⟨⟨up78_TI hP.1.1 (by omega), ?_, ?_⟩, ⟨hP.2.1.1, hP.2.1.2.1, ?_⟩, hP.2.2.1, hP.2.2.2.1, hP.2.2.2.2.1, ⟨by omega, by omega⟩, Or.inl rfl, fun r => ?_⟩⟩
        · rw [upT_i, if_neg (by decide)]; exact hP.1.2.1
        · rw [upT_i, if_pos rfl]; exact Int.le_refl _
        · have := hP.2.1.2.2; omega
        · unfold HmN; split
          · exact hsb
          · exact hP.2.2.2.2.2.2.2 r
end LCASE
