/-! ===== String.length, charAt ===== -/
theorem stC_rg {i : Nat} {j : Int} (hi : i < 6) (hj : 0 ≤ j ∧ j < stN i) : 0 ≤ stC i j ∧ stC i j < 128 := by
  have h : ∀ i < 6, ∀ k < 6, 0 ≤ ((strByt.getD i []).getD k 0).toInt ∧ ((strByt.getD i []).getD k 0).toInt < 128 := by decide
  have hl : ∀ i < 6, strLen.getD i 0 ≤ 6 := by decide
  have := hl i hi
  unfold stN at hj
  exact h i hi j.toNat (by omega)
theorem c128 {c : Int} (h : 0 ≤ c ∧ c < 128) : ((I c).toUInt32 % 65536).toInt32 = I c ∧ I (wa c 255) = I c := by
  have h0 : ∀ k < 128, ((I ((k : Nat) : Int)).toUInt32 % 65536).toInt32 = I ((k : Nat) : Int) ∧ I (wa ((k : Nat) : Int) 255) = I ((k : Nat) : Int) := by decide +kernel
  have := h0 c.toNat (by omega)
  rwa [toNat_c h.1] at this
theorem nar_char {c : Int} (h : 0 ≤ c ∧ c < 128) : narrow .char (.int (I c)) = .int (I c) := by
  show Value.int (((I c).toUInt32 % 65536).toInt32) = _
  rw [(c128 h).1]
section STR2
variable {V : Ob → Prop} {ad : Ob → Nat} {μ : Me} {i : Nat}
theorem c_coder (hi : i < 6) (l : Launch) (E : Ev) (A : Nat → Prop) : Con l E 0 m_J0_coder_7d493 A V ad μ [.ref (stA E i)] (pi fun z μ' => z = 0 ∧ μ = μ') := by
  refine conE (own := "java/lang/String") (by decide +kernel) rfl rfl rfl (fun Γ F hE => ?_)
  subst hE
  refine x_gcs (pc := 0) F dJ0_coder_7d493_0 ?_
  refine x_if_eq (tgt := 13) (pc := 3) F dJ0_coder_7d493_3 rfl (by omega) (fun h => absurd h (by decide)) (fun h => ?_)
  refine x_aload_n (i := 0) (pc := 6) F dJ0_coder_7d493_6 rfl rfl ?_
  refine x_scod (pc := 7) F dJ0_coder_7d493_7 hi ?_
  refine x_goto (tgt := 14) (pc := 10) F dJ0_coder_7d493_10 rfl ?_
  exact x_nret F dJ0_coder_7d493_14 ⟨rfl, rfl, μ, rfl, 0, rfl, rfl, rfl⟩ rfl (nar_byte (by decide)) rfl rfl
theorem c_isLatin1 (hi : i < 6) (l : Launch) (E : Ev) (A : Nat → Prop) : Con l E 0 m_J0_isLatin1_aae02 A V ad μ [.ref (stA E i)] (pz fun z μ' => z = true ∧ μ = μ') := by
  refine conE (own := "java/lang/String") (by decide +kernel) rfl rfl rfl (fun Γ F hE => ?_)
  subst hE
  refine x_gcs (pc := 0) F dJ0_isLatin1_aae02_0 ?_
  refine x_if_eq (tgt := 17) (pc := 3) F dJ0_isLatin1_aae02_3 rfl (by omega) (fun h => absurd h (by decide)) (fun h => ?_)
  refine x_aload_n (i := 0) (pc := 6) F dJ0_isLatin1_aae02_6 rfl rfl ?_
  refine x_scod (pc := 7) F dJ0_isLatin1_aae02_7 hi ?_
  refine x_if_ne (tgt := 17) (pc := 10) F dJ0_isLatin1_aae02_10 rfl (by omega) (fun h => absurd rfl h) (fun h => ?_)
  refine x_iconst (pc := 13) F dJ0_isLatin1_aae02_13 ?_
  refine x_goto (tgt := 18) (pc := 14) F dJ0_isLatin1_aae02_14 rfl ?_
  exact tq_retz (b := true) F dJ0_isLatin1_aae02_18 ⟨rfl, rfl⟩ rfl rfl rfl
theorem c_slen (hi : i < 6) (l : Launch) (E : Ev) (A : Nat → Prop) : Con l E 1 m_J0_length_8abf5 A V ad μ [.ref (stA E i)] (pi fun z μ' => z = stN i ∧ μ = μ') := by
  refine conE (own := "java/lang/String") (by decide +kernel) rfl rfl rfl (fun Γ F hE => ?_)
  subst hE
  refine x_aload_n (i := 0) (pc := 0) F dJ0_length_8abf5_0 rfl rfl ?_
  refine x_sval (pc := 1) F dJ0_length_8abf5_1 hi ?_
  refine x_slen (pc := 4) F dJ0_length_8abf5_4 hi ?_
  refine x_aload_n (i := 0) (pc := 5) F dJ0_length_8abf5_5 rfl rfl ?_
  refine x_callSV (As := []) (mc2 := 0) (ms2 := 0) (d2 := 0) (pc := 6) F dJ0_length_8abf5_6 lk_J0_335 hi rfl rfl rfl rfl rfl rfl (fun l A => c_coder hi l _ A) ?_
  rintro v V' ad' ν' ⟨rfl, rfl, μ', rfl, z, rfl, rfl, rfl⟩
  refine r_ishr (z := I (stN i)) (pc := 9) F dJ0_length_8abf5_9 ?_ ?_
  · have h : ∀ i < 6, I (stN i) >>> (I 0 &&& 31) = I (stN i) := by decide +kernel
    exact h i hi
  · exact tq_reti (pc := 10) F dJ0_length_8abf5_10 ⟨rfl, rfl⟩ rfl rfl rfl
theorem c_pchk {j n : Int} {w : Value} (hw : w = .null ∨ ∃ t, w = .ref t) (hj : 0 ≤ j ∧ j < n ∧ n ≤ 2147483647) (l : Launch) (E : Ev) (A : Nat → Prop) : Con l E 0 m_J3_checkIndex_8e157 A V ad μ [.int (I j), .int (I n), w] (pi fun z μ' => z = j ∧ μ = μ') := by
  rcases hw with rfl | ⟨t, rfl⟩
  all_goals
    refine con (own := RJ3) (by decide +kernel) rfl rfl rfl (fun Γ F => ?_)
    refine x_iload_n (i := 0) (pc := 0) F dJ3_checkIndex_8e157_0 rfl rfl ?_
    refine x_if_lt (tgt := 9) (pc := 1) F dJ3_checkIndex_8e157_1 rfl (by omega) (fun h => (by omega)) (fun h => ?_)
    refine x_iload_n (i := 0) (pc := 4) F dJ3_checkIndex_8e157_4 rfl rfl ?_
    refine x_iload_n (i := 1) (pc := 5) F dJ3_checkIndex_8e157_5 rfl rfl ?_
    refine x_icmp_lt (tgt := 16) (pc := 6) F dJ3_checkIndex_8e157_6 rfl (by omega) (fun h => ?_) (fun h => (by omega))
    refine x_iload_n (i := 0) (pc := 16) F dJ3_checkIndex_8e157_16 rfl rfl ?_
    exact tq_reti (pc := 17) F dJ3_checkIndex_8e157_17 ⟨rfl, rfl⟩ rfl rfl rfl
theorem c_schk {j n : Int} (hj : 0 ≤ j ∧ j < n ∧ n ≤ 2147483647) (l : Launch) (E : Ev) (A : Nat → Prop) : Con l E 1 m_J0_checkIndex_df160 A V ad μ [.int (I j), .int (I n)] (pv fun μ' => μ = μ') := by
  refine con (own := "java/lang/String") (by decide +kernel) rfl rfl rfl (fun Γ F => ?_)
  refine x_iload_n (i := 0) (pc := 0) F dJ0_checkIndex_df160_0 rfl rfl ?_
  refine x_iload_n (i := 1) (pc := 1) F dJ0_checkIndex_df160_1 rfl rfl ?_
  refine x_gsio (pc := 2) F dJ0_checkIndex_df160_2 (fun w hw => ?_)
  refine x_S3i (d2 := 0) (pc := 5) F dJ0_checkIndex_df160_5 lk_J0_1059 rfl (c_pchk hw hj) rfl rfl rfl ?_
  rintro z _ ⟨rfl, rfl⟩
  refine x_pop (pc := 8) F dJ0_checkIndex_df160_8 rfl ?_
  exact tq_retv (pc := 9) F dJ0_checkIndex_df160_9 rfl rfl rfl rfl
theorem c_lchar {j : Int} (hi : i < 6) (hj : 0 ≤ j ∧ j < stN i ∧ stN i ≤ 2147483647) (l : Launch) (E : Ev) (A : Nat → Prop) : Con l E 2 m_J1_charAt_3b067 A V ad μ [.ref (stV E i), .int (I j)] (pi fun z μ' => z = stC i j ∧ μ = μ') := by
  have hc := stC_rg hi ⟨hj.1, hj.2.1⟩
  refine conE (own := RJ1) (by decide +kernel) rfl rfl rfl (fun Γ F hE => ?_)
  subst hE
  refine x_iload_n (i := 1) (pc := 0) F dJ1_charAt_3b067_0 rfl rfl ?_
  refine x_aload_n (i := 0) (pc := 1) F dJ1_charAt_3b067_1 rfl rfl ?_
  refine x_slen (pc := 2) F dJ1_charAt_3b067_2 hi ?_
  refine x_S2v (d2 := 1) (pc := 3) F dJ1_charAt_3b067_3 lk_J1_9 rfl (c_schk hj) rfl rfl rfl ?_
  rintro _ rfl
  refine x_aload_n (i := 0) (pc := 6) F dJ1_charAt_3b067_6 rfl rfl ?_
  refine x_iload_n (i := 1) (pc := 7) F dJ1_charAt_3b067_7 rfl rfl ?_
  refine x_sbal (pc := 8) F dJ1_charAt_3b067_8 hi hj ?_
  refine x_sipush (n := 255) (pc := 9) F dJ1_charAt_3b067_9 (by decide) ?_
  refine tq_iand (pc := 12) F dJ1_charAt_3b067_12 (by omega) ?_
  rw [(c128 hc).2]
  refine r_i2c (z := I (stC i j)) (pc := 13) F dJ1_charAt_3b067_13 (c128 hc).1 ?_
  exact x_nret (pc := 14) F dJ1_charAt_3b067_14 ⟨rfl, rfl, μ, rfl, _, rfl, rfl, rfl⟩ rfl (nar_char hc) rfl rfl
theorem c_char {j : Int} (hi : i < 6) (hj : 0 ≤ j ∧ j < stN i) (l : Launch) (E : Ev) (A : Nat → Prop) : Con l E 3 m_J0_charAt_5068e A V ad μ [.ref (stA E i), .int (I j)] (pi fun z μ' => z = stC i j ∧ μ = μ') := by
  have hc := stC_rg hi hj
  have hl : ∀ i < 6, stN i ≤ 6 := by decide
  have hl := hl i hi
  refine conE (own := "java/lang/String") (by decide +kernel) rfl rfl rfl (fun Γ F hE => ?_)
  subst hE
  refine x_aload_n (i := 0) (pc := 0) F dJ0_charAt_5068e_0 rfl rfl ?_
  refine x_callSV (As := []) (mc2 := 0) (ms2 := 0) (d2 := 0) (pc := 1) F dJ0_charAt_5068e_1 lk_J0_492 hi rfl rfl rfl rfl rfl rfl (fun l A => c_isLatin1 hi l _ A) ?_
  rintro v V' ad' ν' ⟨rfl, rfl, μ', rfl, z, rfl, rfl, rfl⟩
  refine x_if_eqB (tgt := 16) (pc := 4) F dJ0_charAt_5068e_4 rfl (fun h => (by cases h)) (fun h => ?_)
  refine x_aload_n (i := 0) (pc := 7) F dJ0_charAt_5068e_7 rfl rfl ?_
  refine x_sval (pc := 8) F dJ0_charAt_5068e_8 hi ?_
  refine x_iload_n (i := 1) (pc := 11) F dJ0_charAt_5068e_11 rfl rfl ?_
  refine x_callSE (As := [.ref (stV (gE Γ) i), .int (I j)]) (mc2 := 0) (ms2 := 0) (d2 := 2) (pc := 12) F dJ0_charAt_5068e_12 lk_J0_495 rfl rfl rfl rfl rfl rfl (fun l A => c_lchar hi (by omega) l _ A) ?_
  rintro v V' ad' ν' ⟨rfl, rfl, μ', rfl, z, rfl, rfl, rfl⟩
  exact x_nret (pc := 15) F dJ0_charAt_5068e_15 ⟨rfl, rfl, _, rfl, _, rfl, rfl, rfl⟩ rfl (nar_char hc) rfl rfl
end STR2
