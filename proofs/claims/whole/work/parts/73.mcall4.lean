/-! ===== the reference: ends, odds, feign, lessons ===== -/
section MC4
variable {ad : Ob → Nat} {μ : Me} {T : Tn} {S : Hs} {c g w n k : Int}
set_option maxRecDepth 20000 in
theorem c_X8_ends (hE : MEn μ T S) (hI : TI T) (hS : SB S) (hd : T 77 ≤ 9999) (hw : -2147483648 ≤ w ∧ w < 2147483648) (l : Launch) (E : Ev) (A : Nat → Prop) : Con l E 26 m_X8_ends A VM ad μ [.ref (ad (30, 0, 0)), .int (I w)] (pi fun z μ' => z = endsZ S T w ∧ TN μ' T ∧ FX μ μ') := by
  have hT := hE.1
  have h95 := hI.2.2.2.2.2.2.2.1
  have h96 := hI.2.2.2.2.2.2.2.2.1
  have hgo := fun (r : Nat) (hr : (r : Int) ≤ T 95) => goT_ok (S := S) hI hS.2.2.1 r hr
  refine con (own := RX8) (by decide +kernel) rfl rfl rfl (fun Γ F => ?_)
  have l141 : ∀ (μ1 : Me) (q : Int), K0 μ1 T → FX μ μ1 → q = endsZ S T w → XX Γ 5 VM ad (vl ad μ1) 0 0 141 [(0, .ref (ad (30, 0, 0)))] [.int (I q)] := by
    intro μ1 q b1 b2 b3
    refine x_istore_n (i := 2) (pc := 141) F dX8_ends_141 rfl rfl ?_
    refine x_aload_n (i := 0) (pc := 142) F dX8_ends_142 rfl rfl ?_
    refine x_iconst (pc := 143) F dX8_ends_143 ?_
    refine x_V1v (ci := 8) (pc := 144) F dX8_ends_144 lk_X8_209 rfl (vm_ok rfl) rfl rfl (c_X8_lay 0 (by decide)) rfl rfl rfl ?_
    rintro μ2 ⟨p1, p2⟩
    refine x_iload_n (i := 2) (pc := 147) F dX8_ends_147 rfl rfl ?_
    refine tq_reti (pc := 148) F dX8_ends_148 ?_ rfl rfl rfl
    exact ⟨b3, fun k a b => by rw [p1 k a b]; exact b1 k a b, b2.trans (FX.o31 p2)⟩
  have loop : 0 ≤ w ∧ w < 2 → ∀ (N r : Nat) (μ1 : Me), T 95 - r < N → r ≤ T 95 → TN μ1 (goT S T r) → K0 μ1 T → FX μ μ1 → XX Γ 5 VM ad (vl ad μ1) 0 0 18 [(0, .ref (ad (30, 0, 0))), (1, .int (I w)), (2, .int (I r))] [] := by
    intro hw1 N
    induction N with
    | zero => intro r μ1 b1; omega
    | succ N ih =>
      intro r μ1 b1 b2 b3 b4 b5
      obtain ⟨hI1, ho1, h77a, h77b⟩ := hgo r b2
      have hJ1 : TJ (goT S T r) := hI1.j (by omega)
      have hE1 : MEn μ1 (goT S T r) S := hE.fx b5 b3 (ho1 78 (by omega))
      have hm95 := b3 95 (by omega) (by omega)
      rw [ho1 95 (by omega)] at hm95
      have hgs : goT S T (r + 1) = plS S (goT S T r) (T (96 + 2 * (r : Int))) (T (97 + 2 * (r : Int))) := rfl
      have h76 := hI.2.2.1
      refine x_iload_n (i := 2) (pc := 18) F dX8_ends_18 rfl rfl ?_
      refine x_aload_n (i := 0) (pc := 19) F dX8_ends_19 rfl rfl ?_
      refine gf_X8_9 (pc := 20) F dX8_ends_20 (vm_ok rfl) ?_
      refine x_bipush (pc := 23) F dX8_ends_23 (by decide) ?_
      refine tq_ia (pc := 25) F dX8_ends_25 (vm_ok rfl) rfl (fun _ => rfl) (by omega) ?_
      refine x_icmp_ge (tgt := 126) (pc := 26) F dX8_ends_26 rfl (by omega) (fun h26 => ?_) (fun h26 => ?_)
      · have er : (T 95).toNat = r := by omega
        have e76 := ho1 76 (by omega)
        refine x_iload_n (i := 1) (pc := 126) F dX8_ends_126 rfl rfl ?_
        refine x_if_ne (tgt := 137) (pc := 127) F dX8_ends_127 rfl (by omega) (fun h127 => ?_) (fun h127 => ?_)
        · refine x_aload_n (i := 0) (pc := 137) F dX8_ends_137 rfl rfl ?_
          refine x_V0i (ci := 8) (pc := 138) F dX8_ends_138 lk_X8_215 rfl (vm_ok rfl) rfl rfl (c_X8_bys hE1 hJ1 hS) rfl rfl rfl ?_
          rintro _ μ2 ⟨rfl, p1⟩
          first | exact x_sub (L' := [(0, .ref (ad (30, 0, 0)))]) ⟨rfl, trivial⟩ (l141 μ1 _ b4 b5 (by unfold endsZ; rw [if_pos hw1, if_pos (by omega), er])) | exact x_sub (L' := [(0, .ref (ad (30, 0, 0)))]) ⟨rfl, trivial⟩ (l141 μ2 _ (b4.fd (FD.fh p1)) (b5.trans (FX.fh p1)) (by unfold endsZ; rw [if_pos hw1, if_neg (by omega), er]))
        · refine x_aload_n (i := 0) (pc := 130) F dX8_ends_130 rfl rfl ?_
          refine x_V0i (ci := 8) (pc := 131) F dX8_ends_131 lk_X8_218 rfl (vm_ok rfl) rfl rfl (c_X8_passes b3 (by rw [e76]; exact h76)) rfl rfl rfl ?_
          rintro _ _ ⟨rfl, rfl⟩
          refine x_goto (tgt := 141) (pc := 134) F dX8_ends_134 rfl ?_
          first | exact x_sub (L' := [(0, .ref (ad (30, 0, 0)))]) ⟨rfl, trivial⟩ (l141 μ1 _ b4 b5 (by unfold endsZ; rw [if_pos hw1, if_pos (by omega), er])) | exact x_sub (L' := [(0, .ref (ad (30, 0, 0)))]) ⟨rfl, trivial⟩ (l141 μ2 _ (b4.fd (FD.fh p1)) (b5.trans (FX.fh p1)) (by unfold endsZ; rw [if_pos hw1, if_neg (by omega), er]))
      · have hpr := h96 r (by omega) (by omega)
        unfold PI1 at hpr
        refine x_aload_n (i := 0) (pc := 29) F dX8_ends_29 rfl rfl ?_
        refine gf_X8_9 (pc := 30) F dX8_ends_30 (vm_ok rfl) ?_
        refine x_bipush (pc := 33) F dX8_ends_33 (by decide) ?_
        refine x_iconst (pc := 35) F dX8_ends_35 ?_
        refine x_iload_n (i := 2) (pc := 36) F dX8_ends_36 rfl rfl ?_
        refine x_imul (pc := 37) F dX8_ends_37 ?_
        refine x_iadd (pc := 38) F dX8_ends_38 ?_
        refine tq_ia (pc := 39) F dX8_ends_39 (vm_ok rfl) rfl (fun _ => rfl) (by omega) ?_
        rw [b3 _ (by omega) (by omega), ho1 _ (by omega)]
        refine x_istore_n (i := 3) (pc := 40) F dX8_ends_40 rfl rfl ?_
        refine x_aload_n (i := 0) (pc := 41) F dX8_ends_41 rfl rfl ?_
        refine gf_X8_9 (pc := 42) F dX8_ends_42 (vm_ok rfl) ?_
        refine x_bipush (pc := 45) F dX8_ends_45 (by decide) ?_
        refine x_iconst (pc := 47) F dX8_ends_47 ?_
        refine x_iload_n (i := 2) (pc := 48) F dX8_ends_48 rfl rfl ?_
        refine x_imul (pc := 49) F dX8_ends_49 ?_
        refine x_iadd (pc := 50) F dX8_ends_50 ?_
        refine tq_ia (pc := 51) F dX8_ends_51 (vm_ok rfl) rfl (fun _ => rfl) (by omega) ?_
        rw [b3 _ (by omega) (by omega), ho1 _ (by omega)]
        refine x_istore (i := 4) (pc := 52) F dX8_ends_52 rfl ?_
        refine x_iload_n (i := 3) (pc := 54) F dX8_ends_54 rfl rfl ?_
        refine x_if_ne (tgt := 65) (pc := 55) F dX8_ends_55 rfl (by omega) (fun h55 => ?_) (fun h55 => ?_)
        · refine x_iload_n (i := 3) (pc := 65) F dX8_ends_65 rfl rfl ?_
          refine x_iconst (pc := 66) F dX8_ends_66 ?_
          refine x_icmp_ne (tgt := 93) (pc := 67) F dX8_ends_67 rfl (by omega) (fun h67 => ?_) (fun h67 => ?_)
          · refine x_iload_n (i := 3) (pc := 93) F dX8_ends_93 rfl rfl ?_
            refine x_iconst (pc := 94) F dX8_ends_94 ?_
            refine x_icmp_ne (tgt := 111) (pc := 95) F dX8_ends_95 rfl (by omega) (fun h95 => ?_) (fun h95 => ?_)
            · refine x_aload_n (i := 0) (pc := 111) F dX8_ends_111 rfl rfl ?_
              refine x_iload (i := 4) (pc := 112) F dX8_ends_112 rfl ?_
              refine x_iconst (pc := 114) F dX8_ends_114 ?_
              refine x_iconst (pc := 115) F dX8_ends_115 ?_
              refine x_V3i (ci := 8) (pc := 116) F dX8_ends_116 lk_X8_90 rfl (vm_ok rfl) rfl rfl (c_X8_change b3 (20 + 10 * T (97 + 2 * (r : Int))) _ _ _ (by omega)) rfl rfl rfl ?_
              rintro _ _ ⟨rfl, rfl⟩
              refine x_pop (pc := 119) F dX8_ends_119 rfl ?_
              refine x_iinc (pc := 120) F dX8_ends_120 rfl rfl ?_
              refine x_goto (tgt := 18) (pc := 123) F dX8_ends_123 rfl ?_
              first | (have eg : goT S T (r + 1) = dayT S (goT S T r) := (by rw [hgs]; unfold plS; rw [if_pos (by omega)]); exact x_sub (L' := [(0, .ref (ad (30, 0, 0))), (1, .int (I w)), (2, .int (I ((r + 1 : Nat) : Int)))]) ⟨rfl, rfl, rfl, trivial⟩ (ih (r + 1) μ2 (by omega) (by omega) (by rw [eg]; exact p1) (b4.fd p2) (b5.trans (FX.fd p2)))) | (have eg : goT S T (r + 1) = tauT (goT S T r) (T (97 + 2 * (r : Int)) / 10) (goT S T r (18 + 10 * (T (97 + 2 * (r : Int)) % 10))) := (by rw [hgs]; unfold plS; rw [if_neg (by omega), if_pos (by omega)]); exact x_sub (L' := [(0, .ref (ad (30, 0, 0))), (1, .int (I w)), (2, .int (I ((r + 1 : Nat) : Int)))]) ⟨rfl, rfl, rfl, trivial⟩ (ih (r + 1) μ2 (by omega) (by omega) (by rw [eg]; exact p1) (b4.fd (FD.o31 p2)) (b5.trans (FX.o31 p2)))) | (have eg : goT S T (r + 1) = (fun k => if k = 4 * T (97 + 2 * (r : Int)) then 0 else goT S T r k) := (by rw [hgs]; unfold plS; rw [if_neg (by omega), if_neg (by omega), if_pos (by omega)]); exact x_sub (L' := [(0, .ref (ad (30, 0, 0))), (1, .int (I w)), (2, .int (I ((r + 1 : Nat) : Int)))]) ⟨rfl, rfl, rfl, trivial⟩ (ih (r + 1) _ (by omega) (by omega) (by rw [eg]; exact b3.up) (b4.fd FD.up) (b5.trans FX.up))) | (have eg : goT S T (r + 1) = (fun k => if k = 20 + 10 * T (97 + 2 * (r : Int)) then 0 else goT S T r k) := (by rw [hgs]; unfold plS; rw [if_neg (by omega), if_neg (by omega), if_neg (by omega)]); exact x_sub (L' := [(0, .ref (ad (30, 0, 0))), (1, .int (I w)), (2, .int (I ((r + 1 : Nat) : Int)))]) ⟨rfl, rfl, rfl, trivial⟩ (ih (r + 1) _ (by omega) (by omega) (by rw [eg]; exact b3.up) (b4.fd FD.up) (b5.trans FX.up)))
            · refine x_aload_n (i := 0) (pc := 98) F dX8_ends_98 rfl rfl ?_
              refine gf_X8_9 (pc := 99) F dX8_ends_99 (vm_ok rfl) ?_
              refine x_iconst (pc := 102) F dX8_ends_102 ?_
              refine x_iload (i := 4) (pc := 103) F dX8_ends_103 rfl ?_
              refine x_imul (pc := 105) F dX8_ends_105 ?_
              refine x_iconst (pc := 106) F dX8_ends_106 ?_
              refine tq_ias (pc := 107) F dX8_ends_107 (vm_ok rfl) rfl (fun _ => rfl) (by omega) ?_
              refine x_goto (tgt := 120) (pc := 108) F dX8_ends_108 rfl ?_
              refine x_iinc (pc := 120) F dX8_ends_120 rfl rfl ?_
              refine x_goto (tgt := 18) (pc := 123) F dX8_ends_123 rfl ?_
              first | (have eg : goT S T (r + 1) = dayT S (goT S T r) := (by rw [hgs]; unfold plS; rw [if_pos (by omega)]); exact x_sub (L' := [(0, .ref (ad (30, 0, 0))), (1, .int (I w)), (2, .int (I ((r + 1 : Nat) : Int)))]) ⟨rfl, rfl, rfl, trivial⟩ (ih (r + 1) μ2 (by omega) (by omega) (by rw [eg]; exact p1) (b4.fd p2) (b5.trans (FX.fd p2)))) | (have eg : goT S T (r + 1) = tauT (goT S T r) (T (97 + 2 * (r : Int)) / 10) (goT S T r (18 + 10 * (T (97 + 2 * (r : Int)) % 10))) := (by rw [hgs]; unfold plS; rw [if_neg (by omega), if_pos (by omega)]); exact x_sub (L' := [(0, .ref (ad (30, 0, 0))), (1, .int (I w)), (2, .int (I ((r + 1 : Nat) : Int)))]) ⟨rfl, rfl, rfl, trivial⟩ (ih (r + 1) μ2 (by omega) (by omega) (by rw [eg]; exact p1) (b4.fd (FD.o31 p2)) (b5.trans (FX.o31 p2)))) | (have eg : goT S T (r + 1) = (fun k => if k = 4 * T (97 + 2 * (r : Int)) then 0 else goT S T r k) := (by rw [hgs]; unfold plS; rw [if_neg (by omega), if_neg (by omega), if_pos (by omega)]); exact x_sub (L' := [(0, .ref (ad (30, 0, 0))), (1, .int (I w)), (2, .int (I ((r + 1 : Nat) : Int)))]) ⟨rfl, rfl, rfl, trivial⟩ (ih (r + 1) _ (by omega) (by omega) (by rw [eg]; exact b3.up) (b4.fd FD.up) (b5.trans FX.up))) | (have eg : goT S T (r + 1) = (fun k => if k = 20 + 10 * T (97 + 2 * (r : Int)) then 0 else goT S T r k) := (by rw [hgs]; unfold plS; rw [if_neg (by omega), if_neg (by omega), if_neg (by omega)]); exact x_sub (L' := [(0, .ref (ad (30, 0, 0))), (1, .int (I w)), (2, .int (I ((r + 1 : Nat) : Int)))]) ⟨rfl, rfl, rfl, trivial⟩ (ih (r + 1) _ (by omega) (by omega) (by rw [eg]; exact b3.up) (b4.fd FD.up) (b5.trans FX.up)))
          · refine x_aload_n (i := 0) (pc := 70) F dX8_ends_70 rfl rfl ?_
            refine x_iload (i := 4) (pc := 71) F dX8_ends_71 rfl ?_
            refine x_bipush (pc := 73) F dX8_ends_73 (by decide) ?_
            refine tq_idiv (pc := 75) F dX8_ends_75 (by omega) ?_
            refine x_aload_n (i := 0) (pc := 76) F dX8_ends_76 rfl rfl ?_
            refine x_iload (i := 4) (pc := 77) F dX8_ends_77 rfl ?_
            refine x_bipush (pc := 79) F dX8_ends_79 (by decide) ?_
            refine tq_irem (pc := 81) F dX8_ends_81 (by omega) ?_
            refine x_iconst (pc := 82) F dX8_ends_82 ?_
            refine x_V2i (ci := 8) (pc := 83) F dX8_ends_83 lk_X8_82 rfl (vm_ok rfl) rfl rfl (c_X8_one b3 (18 + 10 * (T (97 + 2 * (r : Int)) % 10)) _ _ (by omega)) rfl rfl rfl ?_
            rintro _ _ ⟨rfl, rfl⟩
            have hwr := (hI1.2.1 (T (97 + 2 * (r : Int)) % 10) (by omega) (by omega)).2.2.1
            refine x_V2i (ci := 8) (pc := 86) F dX8_ends_86 lk_X8_197 rfl (vm_ok rfl) rfl rfl (c_X8_taught b3 (hI1.1 (T (97 + 2 * (r : Int)) / 10) (by omega) (by omega)) (by omega) hwr) rfl rfl rfl ?_
            rintro _ μ2 ⟨rfl, p1, p2⟩
            refine x_pop (pc := 89) F dX8_ends_89 rfl ?_
            refine x_goto (tgt := 120) (pc := 90) F dX8_ends_90 rfl ?_
            refine x_iinc (pc := 120) F dX8_ends_120 rfl rfl ?_
            refine x_goto (tgt := 18) (pc := 123) F dX8_ends_123 rfl ?_
            first | (have eg : goT S T (r + 1) = dayT S (goT S T r) := (by rw [hgs]; unfold plS; rw [if_pos (by omega)]); exact x_sub (L' := [(0, .ref (ad (30, 0, 0))), (1, .int (I w)), (2, .int (I ((r + 1 : Nat) : Int)))]) ⟨rfl, rfl, rfl, trivial⟩ (ih (r + 1) μ2 (by omega) (by omega) (by rw [eg]; exact p1) (b4.fd p2) (b5.trans (FX.fd p2)))) | (have eg : goT S T (r + 1) = tauT (goT S T r) (T (97 + 2 * (r : Int)) / 10) (goT S T r (18 + 10 * (T (97 + 2 * (r : Int)) % 10))) := (by rw [hgs]; unfold plS; rw [if_neg (by omega), if_pos (by omega)]); exact x_sub (L' := [(0, .ref (ad (30, 0, 0))), (1, .int (I w)), (2, .int (I ((r + 1 : Nat) : Int)))]) ⟨rfl, rfl, rfl, trivial⟩ (ih (r + 1) μ2 (by omega) (by omega) (by rw [eg]; exact p1) (b4.fd (FD.o31 p2)) (b5.trans (FX.o31 p2)))) | (have eg : goT S T (r + 1) = (fun k => if k = 4 * T (97 + 2 * (r : Int)) then 0 else goT S T r k) := (by rw [hgs]; unfold plS; rw [if_neg (by omega), if_neg (by omega), if_pos (by omega)]); exact x_sub (L' := [(0, .ref (ad (30, 0, 0))), (1, .int (I w)), (2, .int (I ((r + 1 : Nat) : Int)))]) ⟨rfl, rfl, rfl, trivial⟩ (ih (r + 1) _ (by omega) (by omega) (by rw [eg]; exact b3.up) (b4.fd FD.up) (b5.trans FX.up))) | (have eg : goT S T (r + 1) = (fun k => if k = 20 + 10 * T (97 + 2 * (r : Int)) then 0 else goT S T r k) := (by rw [hgs]; unfold plS; rw [if_neg (by omega), if_neg (by omega), if_neg (by omega)]); exact x_sub (L' := [(0, .ref (ad (30, 0, 0))), (1, .int (I w)), (2, .int (I ((r + 1 : Nat) : Int)))]) ⟨rfl, rfl, rfl, trivial⟩ (ih (r + 1) _ (by omega) (by omega) (by rw [eg]; exact b3.up) (b4.fd FD.up) (b5.trans FX.up)))
        · refine x_aload_n (i := 0) (pc := 58) F dX8_ends_58 rfl rfl ?_
          refine x_V0v (ci := 8) (pc := 59) F dX8_ends_59 lk_X8_203 rfl (vm_ok rfl) rfl rfl (c_X8_day hE1 hJ1 hS (by omega)) rfl rfl rfl ?_
          rintro μ2 ⟨p1, p2⟩
          refine x_goto (tgt := 120) (pc := 62) F dX8_ends_62 rfl ?_
          refine x_iinc (pc := 120) F dX8_ends_120 rfl rfl ?_
          refine x_goto (tgt := 18) (pc := 123) F dX8_ends_123 rfl ?_
          first | (have eg : goT S T (r + 1) = dayT S (goT S T r) := (by rw [hgs]; unfold plS; rw [if_pos (by omega)]); exact x_sub (L' := [(0, .ref (ad (30, 0, 0))), (1, .int (I w)), (2, .int (I ((r + 1 : Nat) : Int)))]) ⟨rfl, rfl, rfl, trivial⟩ (ih (r + 1) μ2 (by omega) (by omega) (by rw [eg]; exact p1) (b4.fd p2) (b5.trans (FX.fd p2)))) | (have eg : goT S T (r + 1) = tauT (goT S T r) (T (97 + 2 * (r : Int)) / 10) (goT S T r (18 + 10 * (T (97 + 2 * (r : Int)) % 10))) := (by rw [hgs]; unfold plS; rw [if_neg (by omega), if_pos (by omega)]); exact x_sub (L' := [(0, .ref (ad (30, 0, 0))), (1, .int (I w)), (2, .int (I ((r + 1 : Nat) : Int)))]) ⟨rfl, rfl, rfl, trivial⟩ (ih (r + 1) μ2 (by omega) (by omega) (by rw [eg]; exact p1) (b4.fd (FD.o31 p2)) (b5.trans (FX.o31 p2)))) | (have eg : goT S T (r + 1) = (fun k => if k = 4 * T (97 + 2 * (r : Int)) then 0 else goT S T r k) := (by rw [hgs]; unfold plS; rw [if_neg (by omega), if_neg (by omega), if_pos (by omega)]); exact x_sub (L' := [(0, .ref (ad (30, 0, 0))), (1, .int (I w)), (2, .int (I ((r + 1 : Nat) : Int)))]) ⟨rfl, rfl, rfl, trivial⟩ (ih (r + 1) _ (by omega) (by omega) (by rw [eg]; exact b3.up) (b4.fd FD.up) (b5.trans FX.up))) | (have eg : goT S T (r + 1) = (fun k => if k = 20 + 10 * T (97 + 2 * (r : Int)) then 0 else goT S T r k) := (by rw [hgs]; unfold plS; rw [if_neg (by omega), if_neg (by omega), if_neg (by omega)]); exact x_sub (L' := [(0, .ref (ad (30, 0, 0))), (1, .int (I w)), (2, .int (I ((r + 1 : Nat) : Int)))]) ⟨rfl, rfl, rfl, trivial⟩ (ih (r + 1) _ (by omega) (by omega) (by rw [eg]; exact b3.up) (b4.fd FD.up) (b5.trans FX.up)))
  refine x_iload_n (i := 1) (pc := 0) F dX8_ends_0 rfl rfl ?_
  refine x_iconst (pc := 1) F dX8_ends_1 ?_
  refine x_iconst (pc := 2) F dX8_ends_2 ?_
  refine x_S3z (pc := 3) F dX8_ends_3 lk_X8_78 rfl (c_X8_isIn _ _ _ (by omega) _) rfl rfl rfl ?_
  rintro _ _ ⟨rfl, rfl⟩
  refine x_if_neB (tgt := 11) (pc := 6) F dX8_ends_6 rfl (fun h6 => ?_) (fun h6 => ?_)
  · try simp only [decide_eq_true_eq, decide_eq_false_iff_not, Bool.and_eq_true, Bool.or_eq_true, Bool.not_eq_true', Bool.not_eq_false', Bool.and_eq_false_iff, Bool.or_eq_false_iff] at h6
    refine x_aload_n (i := 0) (pc := 11) F dX8_ends_11 rfl rfl ?_
    refine x_iconst (pc := 12) F dX8_ends_12 ?_
    refine x_V1v (ci := 8) (pc := 13) F dX8_ends_13 lk_X8_206 rfl (vm_ok rfl) rfl rfl (c_X8_keep 0 (by decide)) rfl rfl rfl ?_
    rintro μ1 p1
    refine x_iconst (pc := 16) F dX8_ends_16 ?_
    refine x_istore_n (i := 2) (pc := 17) F dX8_ends_17 rfl rfl ?_
    exact x_sub (L' := [(0, .ref (ad (30, 0, 0))), (1, .int (I w)), (2, .int (I ((0 : Nat) : Int)))]) ⟨rfl, rfl, rfl, trivial⟩ (loop (by omega) 11 0 μ1 (by omega) (by omega) (hE.kp p1).1 (K0.kp p1 hT) (FX.kp p1))
  · try simp only [decide_eq_true_eq, decide_eq_false_iff_not, Bool.and_eq_true, Bool.or_eq_true, Bool.not_eq_true', Bool.not_eq_false', Bool.and_eq_false_iff, Bool.or_eq_false_iff] at h6
    refine x_iconst (pc := 9) F dX8_ends_9 ?_
    refine tq_reti (pc := 10) F dX8_ends_10 ?_ rfl rfl rfl
    exact ⟨by unfold endsZ; rw [if_neg (by omega)], hT, FX.refl μ⟩
theorem LTg_up (hc : 0 ≤ c) (hg : 0 ≤ g ∧ g < 4) (hk : T (4 * g) ≤ 3) : LTg S (upT T (18 + 10 * c) w) c g ↔ LW S T c g (T (4 * g)) (fun k => T (4 * g + 1 + k)) w := by
  unfold LTg LW
  rw [upT_ne (by omega)]
  refine exists_congr fun k => and_congr_right fun k1 => and_congr_right fun k2 => ?_
  have e : lkT S (upT T (18 + 10 * c) w) c g (upT T (18 + 10 * c) w (4 * g + 1 + k)) = lbT T c g (alk (T (4 * g + 1 + k)) w + S.1 (vsT T c g)) := by
    unfold lkT lbT vsT
    rw [upT_eq, upT_ne (by omega), upT_ne (by omega), upT_ne (by omega), upT_ne (by omega), upT_ne (by omega), upT_ne (by omega), upT_ne (by omega)]
  rw [e]
set_option maxRecDepth 20000 in
theorem c_X8_odds (hE : MEn μ T S) (hI : TI T) (hS : SB S) (hd : T 77 ≤ 9999) (hc : -2147483648 ≤ c ∧ c < 2147483648) (hg : -2147483648 ≤ g ∧ g < 2147483648) (hw : -2147483648 ≤ w ∧ w < 2147483648) (l : Launch) (E : Ev) (A : Nat → Prop) : Con l E 25 m_X8_odds A VM ad μ [.ref (ad (30, 0, 0)), .int (I c), .int (I g), .int (I w)] (pl fun z μ' => z = oddsZ S T c g w ∧ TN μ' T ∧ FX μ μ') := by
  have hJ := hI.j (by omega)
  have hT := hE.1
  have hI76 := hI.2.2.1
  refine con (own := RX8) (by decide +kernel) rfl rfl rfl (fun Γ F => ?_)
  have loop : (0 ≤ c ∧ c < T 76) ∧ (0 ≤ g ∧ g < 4) ∧ 0 ≤ w ∧ w < 2 → ∀ (N m : Nat) (μ1 : Me) (X : Tn), 12 - m < N → m ≤ 12 → TN μ1 X → (∀ i, 0 ≤ i → i < 133 → i ≠ 18 + 10 * c → X i = T i) → FX μ μ1 → XX Γ 7 VM ad (vl ad μ1) 0 0 42 [(0, .ref (ad (30, 0, 0))), (1, .int (I c)), (2, .int (I g)), (3, .int (I w)), (4, .int (I (T (18 + 10 * c)))), (5, .int (I (cntP (fun m => LW S T c g (T (4 * g)) (fun k => T (4 * g + 1 + k)) (wx (T (18 + 10 * c)) (p2 m))) m))), (6, .int (I m))] [] := by
    intro hq N
    induction N with
    | zero => intro m μ1 X b1; omega
    | succ N ih =>
      intro m μ1 X b1 b2 b3 b4 b5
      have hcr := cntP_rg (fun m => LW S T c g (T (4 * g)) (fun k => T (4 * g + 1 + k)) (wx (T (18 + 10 * c)) (p2 m))) m
      have hcs : cntP (fun m => LW S T c g (T (4 * g)) (fun k => T (4 * g + 1 + k)) (wx (T (18 + 10 * c)) (p2 m))) (m + 1) = cntP (fun m => LW S T c g (T (4 * g)) (fun k => T (4 * g + 1 + k)) (wx (T (18 + 10 * c)) (p2 m))) m + pI (LW S T c g (T (4 * g)) (fun k => T (4 * g + 1 + k)) (wx (T (18 + 10 * c)) (p2 m))) := rfl
      have hci := (hI.2.1 c (by omega) (by omega)).2.2.1
      have hgi := (hI.1 g (by omega) (by omega)).1
      refine x_iload (i := 6) (pc := 42) F dX8_odds_42 rfl ?_
      refine x_bipush (pc := 44) F dX8_odds_44 (by decide) ?_
      refine x_icmp_ge (tgt := 88) (pc := 46) F dX8_odds_46 rfl (by omega) (fun h46 => ?_) (fun h46 => ?_)
      · obtain rfl : m = 12 := by omega
        refine x_aload_n (i := 0) (pc := 88) F dX8_odds_88 rfl rfl ?_
        refine x_iload_n (i := 1) (pc := 89) F dX8_odds_89 rfl rfl ?_
        refine x_iconst (pc := 90) F dX8_odds_90 ?_
        refine x_iload (i := 4) (pc := 91) F dX8_odds_91 rfl ?_
        refine x_V3i (ci := 8) (pc := 93) F dX8_odds_93 lk_X8_90 rfl (vm_ok rfl) rfl rfl (c_X8_change b3 (18 + 10 * c) _ _ _ (by omega)) rfl rfl rfl ?_
        rintro _ _ ⟨rfl, rfl⟩
        refine x_pop (pc := 96) F dX8_odds_96 rfl ?_
        refine x_iload (i := 5) (pc := 97) F dX8_odds_97 rfl ?_
        refine x_i2l (pc := 99) F dX8_odds_99 (by omega) ?_
        refine x_ldc2 (z := 12) (pc := 100) F dX8_odds_100 kw_1160 rfl ?_
        refine x_iload_n (i := 3) (pc := 103) F dX8_odds_103 rfl rfl ?_
        refine x_S3l (pc := 104) F dX8_odds_104 lk_X8_251 rfl (c_X8_fraction _ 12 _ (by omega) (by decide) (by omega) _) rfl rfl rfl ?_
        rintro _ _ ⟨rfl, rfl⟩
        refine tq_retl (pc := 107) F dX8_odds_107 ?_ rfl rfl rfl
        exact ⟨by unfold oddsZ; rw [if_pos hq], b3.up.c (fun i x y => by unfold upT; by_cases e : i = 18 + 10 * c; (rw [if_pos e, e]); rw [if_neg e]; exact b4 i x y e), b5.trans FX.up⟩
      · refine x_aload_n (i := 0) (pc := 49) F dX8_odds_49 rfl rfl ?_
        refine x_iload_n (i := 1) (pc := 50) F dX8_odds_50 rfl rfl ?_
        refine x_iconst (pc := 51) F dX8_odds_51 ?_
        refine x_iload (i := 4) (pc := 52) F dX8_odds_52 rfl ?_
        refine x_iconst (pc := 54) F dX8_odds_54 ?_
        refine x_iload (i := 6) (pc := 55) F dX8_odds_55 rfl ?_
        refine tq_ishl (pc := 57) F dX8_odds_57 (by omega) ?_
        have hp2 := p2_rg (k := (m : Int)) (by omega)
        have hxr := wx_rg (a := T (18 + 10 * c)) (b := p2 m) (by omega)
        refine tq_ixor (pc := 58) F dX8_odds_58 (by omega) ?_
        refine x_V3i (ci := 8) (pc := 59) F dX8_odds_59 lk_X8_90 rfl (vm_ok rfl) rfl rfl (c_X8_change b3 (18 + 10 * c) _ _ _ (by omega)) rfl rfl rfl ?_
        rintro _ _ ⟨rfl, rfl⟩
        refine x_pop (pc := 62) F dX8_odds_62 rfl ?_
        have hTv : TN (upM μ1 (31, 0, 0) (18 + 10 * c) (wx (T (18 + 10 * c)) (p2 m))) (upT T (18 + 10 * c) (wx (T (18 + 10 * c)) (p2 m))) := b3.up.c (fun i x y => by unfold upT; by_cases e : i = 18 + 10 * c; (rw [if_pos e, if_pos e]); rw [if_neg e, if_neg e]; exact b4 i x y e)
        have hEv : MEn (upM μ1 (31, 0, 0) (18 + 10 * c) (wx (T (18 + 10 * c)) (p2 m))) (upT T (18 + 10 * c) (wx (T (18 + 10 * c)) (p2 m))) S := hE.fx (b5.trans FX.up) hTv (upT_ne (by omega))
        have hJv := TJ_up (c := c) (k := 18 + 10 * c) (v := wx (T (18 + 10 * c)) (p2 m)) hJ (by omega) (by omega)
        refine x_iload (i := 5) (pc := 63) F dX8_odds_63 rfl ?_
        refine x_aload_n (i := 0) (pc := 65) F dX8_odds_65 rfl rfl ?_
        refine x_iload_n (i := 1) (pc := 66) F dX8_odds_66 rfl rfl ?_
        refine x_iload_n (i := 2) (pc := 67) F dX8_odds_67 rfl rfl ?_
        refine x_V2z (ci := 8) (pc := 68) F dX8_odds_68 lk_X8_101 rfl (vm_ok rfl) rfl rfl (c_X8_lets hEv hJv hS (by omega) (by omega)) rfl rfl rfl ?_
        rintro z μ2 ⟨hz, p2'⟩
        rw [LTg_up (by omega) (by omega) hgi.2] at hz
        refine x_if_eqB (tgt := 78) (pc := 71) F dX8_odds_71 rfl (fun h71 => ?_) (fun h71 => ?_)
        · try simp only [decide_eq_true_eq, decide_eq_false_iff_not, Bool.and_eq_true, Bool.or_eq_true, Bool.not_eq_true', Bool.not_eq_false', Bool.and_eq_false_iff, Bool.or_eq_false_iff] at h71
          refine x_iconst (pc := 78) F dX8_odds_78 ?_
          refine x_iadd (pc := 79) F dX8_odds_79 ?_
          refine x_istore (i := 5) (pc := 80) F dX8_odds_80 rfl ?_
          refine x_iinc (pc := 82) F dX8_odds_82 rfl rfl ?_
          refine x_goto (tgt := 42) (pc := 85) F dX8_odds_85 rfl ?_
          first | exact x_sub (L' := [(0, .ref (ad (30, 0, 0))), (1, .int (I c)), (2, .int (I g)), (3, .int (I w)), (4, .int (I (T (18 + 10 * c)))), (5, .int (I (cntP (fun m => LW S T c g (T (4 * g)) (fun k => T (4 * g + 1 + k)) (wx (T (18 + 10 * c)) (p2 m))) (m + 1)))), (6, .int (I ((m + 1 : Nat) : Int)))]) ⟨rfl, rfl, rfl, rfl, rfl, lk_i rfl (by rw [hcs, pI_t (hz.mp h71)]), rfl, trivial⟩ (ih (m + 1) μ2 _ (by omega) (by omega) (hTv.fh p2') (fun i x y e => upT_ne e) ((b5.trans FX.up).trans (FX.fh p2'))) | exact x_sub (L' := [(0, .ref (ad (30, 0, 0))), (1, .int (I c)), (2, .int (I g)), (3, .int (I w)), (4, .int (I (T (18 + 10 * c)))), (5, .int (I (cntP (fun m => LW S T c g (T (4 * g)) (fun k => T (4 * g + 1 + k)) (wx (T (18 + 10 * c)) (p2 m))) (m + 1)))), (6, .int (I ((m + 1 : Nat) : Int)))]) ⟨rfl, rfl, rfl, rfl, rfl, lk_i rfl (by rw [hcs, pI_f (fun q => by rw [hz.mpr q] at h71; cases h71)]), rfl, trivial⟩ (ih (m + 1) μ2 _ (by omega) (by omega) (hTv.fh p2') (fun i x y e => upT_ne e) ((b5.trans FX.up).trans (FX.fh p2')))
        · try simp only [decide_eq_true_eq, decide_eq_false_iff_not, Bool.and_eq_true, Bool.or_eq_true, Bool.not_eq_true', Bool.not_eq_false', Bool.and_eq_false_iff, Bool.or_eq_false_iff] at h71
          refine x_iconst (pc := 74) F dX8_odds_74 ?_
          refine x_goto (tgt := 79) (pc := 75) F dX8_odds_75 rfl ?_
          refine x_iadd (pc := 79) F dX8_odds_79 ?_
          refine x_istore (i := 5) (pc := 80) F dX8_odds_80 rfl ?_
          refine x_iinc (pc := 82) F dX8_odds_82 rfl rfl ?_
          refine x_goto (tgt := 42) (pc := 85) F dX8_odds_85 rfl ?_
          first | exact x_sub (L' := [(0, .ref (ad (30, 0, 0))), (1, .int (I c)), (2, .int (I g)), (3, .int (I w)), (4, .int (I (T (18 + 10 * c)))), (5, .int (I (cntP (fun m => LW S T c g (T (4 * g)) (fun k => T (4 * g + 1 + k)) (wx (T (18 + 10 * c)) (p2 m))) (m + 1)))), (6, .int (I ((m + 1 : Nat) : Int)))]) ⟨rfl, rfl, rfl, rfl, rfl, lk_i rfl (by rw [hcs, pI_t (hz.mp h71)]), rfl, trivial⟩ (ih (m + 1) μ2 _ (by omega) (by omega) (hTv.fh p2') (fun i x y e => upT_ne e) ((b5.trans FX.up).trans (FX.fh p2'))) | exact x_sub (L' := [(0, .ref (ad (30, 0, 0))), (1, .int (I c)), (2, .int (I g)), (3, .int (I w)), (4, .int (I (T (18 + 10 * c)))), (5, .int (I (cntP (fun m => LW S T c g (T (4 * g)) (fun k => T (4 * g + 1 + k)) (wx (T (18 + 10 * c)) (p2 m))) (m + 1)))), (6, .int (I ((m + 1 : Nat) : Int)))]) ⟨rfl, rfl, rfl, rfl, rfl, lk_i rfl (by rw [hcs, pI_f (fun q => by rw [hz.mpr q] at h71; cases h71)]), rfl, trivial⟩ (ih (m + 1) μ2 _ (by omega) (by omega) (hTv.fh p2') (fun i x y e => upT_ne e) ((b5.trans FX.up).trans (FX.fh p2')))
  refine x_aload_n (i := 0) (pc := 0) F dX8_odds_0 rfl rfl ?_
  refine x_iload_n (i := 1) (pc := 1) F dX8_odds_1 rfl rfl ?_
  refine x_V1z (ci := 8) (pc := 2) F dX8_odds_2 lk_X8_94 rfl (vm_ok rfl) rfl rfl (c_isComerW hT hI76 _ (by omega)) rfl rfl rfl ?_
  rintro _ _ ⟨rfl, rfl⟩
  refine x_if_eqB (tgt := 24) (pc := 5) F dX8_odds_5 rfl (fun h5 => ?_) (fun h5 => ?_)
  · try simp only [decide_eq_true_eq, decide_eq_false_iff_not, Bool.and_eq_true, Bool.or_eq_true, Bool.not_eq_true', Bool.not_eq_false', Bool.and_eq_false_iff, Bool.or_eq_false_iff] at h5
    refine x_ldc2 (z := -9223372036854775808) (pc := 24) F dX8_odds_24 kw_1159 rfl ?_
    refine tq_retl (pc := 27) F dX8_odds_27 ?_ rfl rfl rfl
    exact ⟨by unfold oddsZ; rw [if_neg (by omega)], hT, FX.refl μ⟩
  · try simp only [decide_eq_true_eq, decide_eq_false_iff_not, Bool.and_eq_true, Bool.or_eq_true, Bool.not_eq_true', Bool.not_eq_false', Bool.and_eq_false_iff, Bool.or_eq_false_iff] at h5
    refine x_iload_n (i := 2) (pc := 8) F dX8_odds_8 rfl rfl ?_
    refine x_S1z (pc := 9) F dX8_odds_9 lk_X8_86 rfl (c_isGateW _ _ (by omega)) rfl rfl rfl ?_
    rintro _ _ ⟨rfl, rfl⟩
    refine x_if_eqB (tgt := 24) (pc := 12) F dX8_odds_12 rfl (fun h12 => ?_) (fun h12 => ?_)
    · try simp only [decide_eq_true_eq, decide_eq_false_iff_not, Bool.and_eq_true, Bool.or_eq_true, Bool.not_eq_true', Bool.not_eq_false', Bool.and_eq_false_iff, Bool.or_eq_false_iff] at h12
      refine x_ldc2 (z := -9223372036854775808) (pc := 24) F dX8_odds_24 kw_1159 rfl ?_
      refine tq_retl (pc := 27) F dX8_odds_27 ?_ rfl rfl rfl
      exact ⟨by unfold oddsZ; rw [if_neg (by omega)], hT, FX.refl μ⟩
    · try simp only [decide_eq_true_eq, decide_eq_false_iff_not, Bool.and_eq_true, Bool.or_eq_true, Bool.not_eq_true', Bool.not_eq_false', Bool.and_eq_false_iff, Bool.or_eq_false_iff] at h12
      refine x_iload_n (i := 3) (pc := 15) F dX8_odds_15 rfl rfl ?_
      refine x_iconst (pc := 16) F dX8_odds_16 ?_
      refine x_iconst (pc := 17) F dX8_odds_17 ?_
      refine x_S3z (pc := 18) F dX8_odds_18 lk_X8_78 rfl (c_X8_isIn _ _ _ (by omega) _) rfl rfl rfl ?_
      rintro _ _ ⟨rfl, rfl⟩
      refine x_if_neB (tgt := 28) (pc := 21) F dX8_odds_21 rfl (fun h21 => ?_) (fun h21 => ?_)
      · try simp only [decide_eq_true_eq, decide_eq_false_iff_not, Bool.and_eq_true, Bool.or_eq_true, Bool.not_eq_true', Bool.not_eq_false', Bool.and_eq_false_iff, Bool.or_eq_false_iff] at h21
        refine x_aload_n (i := 0) (pc := 28) F dX8_odds_28 rfl rfl ?_
        refine x_iload_n (i := 1) (pc := 29) F dX8_odds_29 rfl rfl ?_
        refine x_iconst (pc := 30) F dX8_odds_30 ?_
        refine x_V2i (ci := 8) (pc := 31) F dX8_odds_31 lk_X8_82 rfl (vm_ok rfl) rfl rfl (c_X8_one hT (18 + 10 * c) _ _ (by omega)) rfl rfl rfl ?_
        rintro _ _ ⟨rfl, rfl⟩
        refine x_istore (i := 4) (pc := 34) F dX8_odds_34 rfl ?_
        refine x_iconst (pc := 36) F dX8_odds_36 ?_
        refine x_istore (i := 5) (pc := 37) F dX8_odds_37 rfl ?_
        refine x_iconst (pc := 39) F dX8_odds_39 ?_
        refine x_istore (i := 6) (pc := 40) F dX8_odds_40 rfl ?_
        exact x_sub (L' := [(0, .ref (ad (30, 0, 0))), (1, .int (I c)), (2, .int (I g)), (3, .int (I w)), (4, .int (I (T (18 + 10 * c)))), (5, .int (I (cntP (fun m => LW S T c g (T (4 * g)) (fun k => T (4 * g + 1 + k)) (wx (T (18 + 10 * c)) (p2 m))) 0))), (6, .int (I ((0 : Nat) : Int)))]) ⟨rfl, rfl, rfl, rfl, rfl, rfl, rfl, trivial⟩ (loop (by omega) 13 0 μ T (by omega) (by omega) hT (fun _ _ _ _ => rfl) (FX.refl μ))
      · try simp only [decide_eq_true_eq, decide_eq_false_iff_not, Bool.and_eq_true, Bool.or_eq_true, Bool.not_eq_true', Bool.not_eq_false', Bool.and_eq_false_iff, Bool.or_eq_false_iff] at h21
        refine x_ldc2 (z := -9223372036854775808) (pc := 24) F dX8_odds_24 kw_1159 rfl ?_
        refine tq_retl (pc := 27) F dX8_odds_27 ?_ rfl rfl rfl
        exact ⟨by unfold oddsZ; rw [if_neg (by omega)], hT, FX.refl μ⟩
set_option maxRecDepth 20000 in
theorem c_X8_feign (hE : MEn μ T S) (hI : TI T) (hS : SB S) (hd : T 77 ≤ 9999) (hc : -2147483648 ≤ c ∧ c < 2147483648) (hg : -2147483648 ≤ g ∧ g < 2147483648) (hw : -2147483648 ≤ w ∧ w < 2147483648) (l : Launch) (E : Ev) (A : Nat → Prop) : Con l E 25 m_X8_feign A VM ad μ [.ref (ad (30, 0, 0)), .int (I c), .int (I g), .int (I w)] (pi fun z μ' => z = feignZ S T c g w ∧ TN μ' T ∧ FX μ μ') := by
  have hJ := hI.j (by omega)
  have hT := hE.1
  have hI76 := hI.2.2.1
  have hnr := hS.2.1
  refine con (own := RX8) (by decide +kernel) rfl rfl rfl (fun Γ F => ?_)
  have loop : (0 ≤ c ∧ c < T 76) ∧ (0 ≤ g ∧ g < 4) ∧ 0 ≤ w ∧ w < 2 → ∀ (Lw : Int → Prop), (∀ v, Lw v ↔ LW S T c g (T (4 * g)) (fun k => T (4 * g + 1 + k)) v) → ∀ (fe : Nat → Int × Int), (∀ n, fe n = feL Lw (T (18 + 10 * c)) n) → feT S T c g = fe 4096 → ∀ (μh : Me), FX μ μh → μh (30, 0, 0) 15 = S.2.1 → ∀ (N v : Nat) (μ1 : Me) (X : Tn) (ff : Int), 4096 - v < N → v ≤ 4096 → ff = (if (fe v).2 = -5 then -5 else (fe v).1) → TN μ1 X → (∀ i, 0 ≤ i → i < 133 → i ≠ 18 + 10 * c → X i = T i) → (∀ o, o ≠ (31, 0, 0) → μ1 o = μh o) → XX Γ 12 VM ad (vl ad μ1) 0 0 53 [(0, .ref (ad (30, 0, 0))), (1, .int (I c)), (2, .int (I g)), (3, .int (I w)), (4, .int (I (S.1 (vsT T c g)))), (5, .int (I (T (18 + 10 * c)))), (6, .int (I ff)), (7, .int (I (fe v).2)), (8, .int (I v))] [] := by
    intro hq Lw hLw fe hfe hfT μh hxh hnd N
    have hci := (hI.2.1 c (by omega) (by omega)).2.2.1
    have hgi := (hI.1 g (by omega) (by omega)).1
    induction N with
    | zero => intro v μ1 X ff b1; omega
    | succ N ih =>
      intro v μ1 X ff b1 b2 bf b3 b4 b5
      have hfr : ((fe v).1 = 13 ∧ (fe v).2 = -5) ∨ (0 ≤ (fe v).1 ∧ (fe v).1 ≤ 12 ∧ 0 ≤ (fe v).2 ∧ (fe v).2 < v) := by rw [hfe]; exact feL_rg v
      have hff : (fe v).2 = -5 ∧ ff = -5 ∨ (fe v).2 ≠ -5 ∧ ff = (fe v).1 := by split at bf; (left; exact ⟨by assumption, bf⟩); (right; exact ⟨by assumption, bf⟩)
      have l178 : v < 4096 → ∀ (μ2 : Me) (X2 : Tn) (q1 q2 : Int), q1 = (if (fe (v + 1)).2 = -5 then -5 else (fe (v + 1)).1) → q2 = (fe (v + 1)).2 → TN μ2 X2 → (∀ i, 0 ≤ i → i < 133 → i ≠ 18 + 10 * c → X2 i = T i) → (∀ o, o ≠ (31, 0, 0) → μ2 o = μh o) → XX Γ 12 VM ad (vl ad μ2) 0 0 178 [(0, .ref (ad (30, 0, 0))), (1, .int (I c)), (2, .int (I g)), (3, .int (I w)), (4, .int (I (S.1 (vsT T c g)))), (5, .int (I (T (18 + 10 * c)))), (6, .int (I q1)), (7, .int (I q2)), (8, .int (I v))] [] := by
        rintro hv μ2 X2 q1 q2 e1 rfl d1 d2 d3
        refine x_iinc (pc := 178) F dX8_feign_178 rfl rfl ?_
        refine x_goto (tgt := 53) (pc := 181) F dX8_feign_181 rfl ?_
        exact x_sub (L' := [(0, .ref (ad (30, 0, 0))), (1, .int (I c)), (2, .int (I g)), (3, .int (I w)), (4, .int (I (S.1 (vsT T c g)))), (5, .int (I (T (18 + 10 * c)))), (6, .int (I q1)), (7, .int (I (fe (v + 1)).2)), (8, .int (I ((v + 1 : Nat) : Int)))]) ⟨rfl, rfl, rfl, rfl, rfl, rfl, rfl, rfl, rfl, trivial⟩ (ih (v + 1) μ2 X2 q1 (by omega) (by omega) e1 d1 d2 d3)
      have hmk : pop (wx (v : Int) (T (18 + 10 * c))) = pop (wx (T (18 + 10 * c)) v) := by unfold wx; rw [Nat.xor_comm]
      have hmr := pop_rg (wx (T (18 + 10 * c)) v)
      have l100 : v < 4096 → pop (wx (T (18 + 10 * c)) v) < (fe v).1 → ∀ (μ2 : Me), TN μ2 (upT T (18 + 10 * c) v) → (∀ o, o ≠ (31, 0, 0) → μ2 o = μh o) → ∀ (M k : Nat) (b : Bool), T (4 * g) - k < M → k ≤ T (4 * g) → (b = true ↔ ∃ j, 0 ≤ j ∧ j < (k : Int) ∧ S.2.1 ≤ lbT T c g (alk (T (4 * g + 1 + j)) v + S.1 (vsT T c g))) → XX Γ 12 VM ad (vl ad μ2) 0 0 100 [(0, .ref (ad (30, 0, 0))), (1, .int (I c)), (2, .int (I g)), (3, .int (I w)), (4, .int (I (S.1 (vsT T c g)))), (5, .int (I (T (18 + 10 * c)))), (6, .int (I ff)), (7, .int (I (fe v).2)), (8, .int (I v)), (9, .int (I (pop (wx (T (18 + 10 * c)) v)))), (10, .int (I (bI b))), (11, .int (I k))] [] := by
        intro hv hlt μ2 d1 d3 M
        have hJ2 := TJ_up (c := c) (k := 18 + 10 * c) (v := (v : Int)) hJ (by omega) (by omega)
        have hn2 : μ2 (30, 0, 0) 15 = S.2.1 := by rw [d3 _ (by simp), hnd]
        have d2 : ∀ i, 0 ≤ i → i < 133 → i ≠ 18 + 10 * c → upT T (18 + 10 * c) v i = T i := fun i _ _ e => upT_ne e
        induction M with
        | zero => intro k b e1; omega
        | succ M ihM =>
          intro k b e1 e2 e3
          have ek : upT T (18 + 10 * c) v (4 * g) = T (4 * g) := upT_ne (by omega)
          have hx : ∀ q : Prop, (q ↔ S.2.1 ≤ lbT T c g (alk (T (4 * g + 1 + k)) v + S.1 (vsT T c g))) → ((b = true ∨ q) ↔ ∃ j, 0 ≤ j ∧ j < ((k + 1 : Nat) : Int) ∧ S.2.1 ≤ lbT T c g (alk (T (4 * g + 1 + j)) v + S.1 (vsT T c g))) := fun q hq => by
            rw [e3, hq]
            constructor
            · rintro (⟨j, a, a2, a3⟩ | h)
              · exact ⟨j, a, by omega, a3⟩
              · exact ⟨k, by omega, by omega, h⟩
            · rintro ⟨j, a, a2, a3⟩
              by_cases e : j = k
              · right; rw [e] at a3; exact a3
              · left; exact ⟨j, a, by omega, a3⟩
          have hlk : lbT (upT T (18 + 10 * c) v) c g (alk (upT T (18 + 10 * c) v (4 * g + 1 + k)) (upT T (18 + 10 * c) v (18 + 10 * c)) + S.1 (vsT T c g)) = lbT T c g (alk (T (4 * g + 1 + k)) v + S.1 (vsT T c g)) ∨ ¬ (k : Int) < 3 := by
            by_cases h3 : (k : Int) < 3
            · left
              unfold lbT
              rw [upT_eq, upT_ne (by omega), upT_ne (by omega), upT_ne (by omega), upT_ne (by omega), upT_ne (by omega), upT_ne (by omega), upT_ne (by omega)]
            · right; exact h3
          have hlkr := lkT_rg (i := c) (w := upT T (18 + 10 * c) v (4 * g + 1 + k)) hJ2 hS (by omega) hq.2.1
          have hvs : vsT (upT T (18 + 10 * c) v) c g = vsT T c g := by unfold vsT; rw [upT_ne (by omega), upT_ne (by omega), upT_ne (by omega), upT_ne (by omega)]
          unfold lkT at hlkr
          rw [hvs] at hlkr
          refine x_iload (i := 11) (pc := 100) F dX8_feign_100 rfl ?_
          refine x_aload_n (i := 0) (pc := 102) F dX8_feign_102 rfl rfl ?_
          refine x_iload_n (i := 2) (pc := 103) F dX8_feign_103 rfl rfl ?_
          refine x_V1i (ci := 8) (pc := 104) F dX8_feign_104 lk_X8_108 rfl (vm_ok rfl) rfl rfl (c_X8_known d1 g (by omega)) rfl rfl rfl ?_
          rintro _ _ ⟨rfl, rfl⟩
          rw [ek]
          refine x_icmp_ge (tgt := 150) (pc := 107) F dX8_feign_107 rfl (by omega) (fun h107 => ?_) (fun h107 => ?_)
          · have hb : b = true ↔ Lw v := by rw [hLw]; unfold LW; rw [show T (4 * g) = k by omega]; exact e3
            have hst : b = true → fe (v + 1) = (pop (wx (T (18 + 10 * c)) v), (v : Int)) := fun e => by rw [hfe]; rw [hfe] at hlt; exact feL_t ⟨hlt, hb.mp e⟩
            have hsf : b = false → fe (v + 1) = fe v := fun e => by rw [hfe, hfe]; exact feL_f (fun z => by rw [hb.mpr z.2] at e; cases e)
            refine x_iload (i := 10) (pc := 150) F dX8_feign_150 rfl ?_
            refine x_if_eqB (tgt := 160) (pc := 152) F dX8_feign_152 rfl (fun h152 => ?_) (fun h152 => ?_)
            · try simp only [decide_eq_true_eq, decide_eq_false_iff_not, Bool.and_eq_true, Bool.or_eq_true, Bool.not_eq_true', Bool.not_eq_false', Bool.and_eq_false_iff, Bool.or_eq_false_iff] at h152
              refine x_iload (i := 7) (pc := 160) F dX8_feign_160 rfl ?_
              refine x_istore (i := 7) (pc := 162) F dX8_feign_162 rfl ?_
              refine x_iload (i := 10) (pc := 164) F dX8_feign_164 rfl ?_
              refine x_if_eqB (tgt := 174) (pc := 166) F dX8_feign_166 rfl (fun h166 => ?_) (fun h166 => ?_)
              · try simp only [decide_eq_true_eq, decide_eq_false_iff_not, Bool.and_eq_true, Bool.or_eq_true, Bool.not_eq_true', Bool.not_eq_false', Bool.and_eq_false_iff, Bool.or_eq_false_iff] at h166
                refine x_iload (i := 6) (pc := 174) F dX8_feign_174 rfl ?_
                refine x_istore (i := 6) (pc := 176) F dX8_feign_176 rfl ?_
                first | (exfalso; rw [h152] at h166; exact absurd h166 (by decide)) | exact x_sub (L' := [(0, .ref (ad (30, 0, 0))), (1, .int (I c)), (2, .int (I g)), (3, .int (I w)), (4, .int (I (S.1 (vsT T c g)))), (5, .int (I (T (18 + 10 * c)))), (6, .int (I (pop (wx (T (18 + 10 * c)) v)))), (7, .int (I v)), (8, .int (I v))]) ⟨rfl, rfl, rfl, rfl, rfl, rfl, rfl, rfl, rfl, trivial⟩ (l178 hv μ2 _ _ _ (by rw [hst h152, if_neg (by simp only; omega)]) (by rw [hst h152]) d1 d2 d3) | exact x_sub (L' := [(0, .ref (ad (30, 0, 0))), (1, .int (I c)), (2, .int (I g)), (3, .int (I w)), (4, .int (I (S.1 (vsT T c g)))), (5, .int (I (T (18 + 10 * c)))), (6, .int (I ff)), (7, .int (I (fe v).2)), (8, .int (I v))]) ⟨rfl, rfl, rfl, rfl, rfl, rfl, rfl, rfl, rfl, trivial⟩ (l178 hv μ2 _ _ _ (by rw [hsf h152]; exact bf) (by rw [hsf h152]) d1 d2 d3)
              · try simp only [decide_eq_true_eq, decide_eq_false_iff_not, Bool.and_eq_true, Bool.or_eq_true, Bool.not_eq_true', Bool.not_eq_false', Bool.and_eq_false_iff, Bool.or_eq_false_iff] at h166
                refine x_iload (i := 9) (pc := 169) F dX8_feign_169 rfl ?_
                refine x_goto (tgt := 176) (pc := 171) F dX8_feign_171 rfl ?_
                refine x_istore (i := 6) (pc := 176) F dX8_feign_176 rfl ?_
                first | (exfalso; rw [h152] at h166; exact absurd h166 (by decide)) | exact x_sub (L' := [(0, .ref (ad (30, 0, 0))), (1, .int (I c)), (2, .int (I g)), (3, .int (I w)), (4, .int (I (S.1 (vsT T c g)))), (5, .int (I (T (18 + 10 * c)))), (6, .int (I (pop (wx (T (18 + 10 * c)) v)))), (7, .int (I v)), (8, .int (I v))]) ⟨rfl, rfl, rfl, rfl, rfl, rfl, rfl, rfl, rfl, trivial⟩ (l178 hv μ2 _ _ _ (by rw [hst h152, if_neg (by simp only; omega)]) (by rw [hst h152]) d1 d2 d3) | exact x_sub (L' := [(0, .ref (ad (30, 0, 0))), (1, .int (I c)), (2, .int (I g)), (3, .int (I w)), (4, .int (I (S.1 (vsT T c g)))), (5, .int (I (T (18 + 10 * c)))), (6, .int (I ff)), (7, .int (I (fe v).2)), (8, .int (I v))]) ⟨rfl, rfl, rfl, rfl, rfl, rfl, rfl, rfl, rfl, trivial⟩ (l178 hv μ2 _ _ _ (by rw [hsf h152]; exact bf) (by rw [hsf h152]) d1 d2 d3)
            · try simp only [decide_eq_true_eq, decide_eq_false_iff_not, Bool.and_eq_true, Bool.or_eq_true, Bool.not_eq_true', Bool.not_eq_false', Bool.and_eq_false_iff, Bool.or_eq_false_iff] at h152
              refine x_iload (i := 8) (pc := 155) F dX8_feign_155 rfl ?_
              refine x_goto (tgt := 162) (pc := 157) F dX8_feign_157 rfl ?_
              refine x_istore (i := 7) (pc := 162) F dX8_feign_162 rfl ?_
              refine x_iload (i := 10) (pc := 164) F dX8_feign_164 rfl ?_
              refine x_if_eqB (tgt := 174) (pc := 166) F dX8_feign_166 rfl (fun h166 => ?_) (fun h166 => ?_)
              · try simp only [decide_eq_true_eq, decide_eq_false_iff_not, Bool.and_eq_true, Bool.or_eq_true, Bool.not_eq_true', Bool.not_eq_false', Bool.and_eq_false_iff, Bool.or_eq_false_iff] at h166
                refine x_iload (i := 6) (pc := 174) F dX8_feign_174 rfl ?_
                refine x_istore (i := 6) (pc := 176) F dX8_feign_176 rfl ?_
                first | (exfalso; rw [h152] at h166; exact absurd h166 (by decide)) | exact x_sub (L' := [(0, .ref (ad (30, 0, 0))), (1, .int (I c)), (2, .int (I g)), (3, .int (I w)), (4, .int (I (S.1 (vsT T c g)))), (5, .int (I (T (18 + 10 * c)))), (6, .int (I (pop (wx (T (18 + 10 * c)) v)))), (7, .int (I v)), (8, .int (I v))]) ⟨rfl, rfl, rfl, rfl, rfl, rfl, rfl, rfl, rfl, trivial⟩ (l178 hv μ2 _ _ _ (by rw [hst h152, if_neg (by simp only; omega)]) (by rw [hst h152]) d1 d2 d3) | exact x_sub (L' := [(0, .ref (ad (30, 0, 0))), (1, .int (I c)), (2, .int (I g)), (3, .int (I w)), (4, .int (I (S.1 (vsT T c g)))), (5, .int (I (T (18 + 10 * c)))), (6, .int (I ff)), (7, .int (I (fe v).2)), (8, .int (I v))]) ⟨rfl, rfl, rfl, rfl, rfl, rfl, rfl, rfl, rfl, trivial⟩ (l178 hv μ2 _ _ _ (by rw [hsf h152]; exact bf) (by rw [hsf h152]) d1 d2 d3)
              · try simp only [decide_eq_true_eq, decide_eq_false_iff_not, Bool.and_eq_true, Bool.or_eq_true, Bool.not_eq_true', Bool.not_eq_false', Bool.and_eq_false_iff, Bool.or_eq_false_iff] at h166
                refine x_iload (i := 9) (pc := 169) F dX8_feign_169 rfl ?_
                refine x_goto (tgt := 176) (pc := 171) F dX8_feign_171 rfl ?_
                refine x_istore (i := 6) (pc := 176) F dX8_feign_176 rfl ?_
                first | (exfalso; rw [h152] at h166; exact absurd h166 (by decide)) | exact x_sub (L' := [(0, .ref (ad (30, 0, 0))), (1, .int (I c)), (2, .int (I g)), (3, .int (I w)), (4, .int (I (S.1 (vsT T c g)))), (5, .int (I (T (18 + 10 * c)))), (6, .int (I (pop (wx (T (18 + 10 * c)) v)))), (7, .int (I v)), (8, .int (I v))]) ⟨rfl, rfl, rfl, rfl, rfl, rfl, rfl, rfl, rfl, trivial⟩ (l178 hv μ2 _ _ _ (by rw [hst h152, if_neg (by simp only; omega)]) (by rw [hst h152]) d1 d2 d3) | exact x_sub (L' := [(0, .ref (ad (30, 0, 0))), (1, .int (I c)), (2, .int (I g)), (3, .int (I w)), (4, .int (I (S.1 (vsT T c g)))), (5, .int (I (T (18 + 10 * c)))), (6, .int (I ff)), (7, .int (I (fe v).2)), (8, .int (I v))]) ⟨rfl, rfl, rfl, rfl, rfl, rfl, rfl, rfl, rfl, trivial⟩ (l178 hv μ2 _ _ _ (by rw [hsf h152]; exact bf) (by rw [hsf h152]) d1 d2 d3)
          · refine x_iload (i := 10) (pc := 110) F dX8_feign_110 rfl ?_
            refine x_if_neB (tgt := 137) (pc := 112) F dX8_feign_112 rfl (fun h112 => ?_) (fun h112 => ?_)
            · try simp only [decide_eq_true_eq, decide_eq_false_iff_not, Bool.and_eq_true, Bool.or_eq_true, Bool.not_eq_true', Bool.not_eq_false', Bool.and_eq_false_iff, Bool.or_eq_false_iff] at h112
              refine x_iconst (pc := 137) F dX8_feign_137 ?_
              refine x_goto (tgt := 142) (pc := 138) F dX8_feign_138 rfl ?_
              refine x_istore (i := 10) (pc := 142) F dX8_feign_142 rfl ?_
              refine x_iinc (pc := 144) F dX8_feign_144 rfl rfl ?_
              refine x_goto (tgt := 100) (pc := 147) F dX8_feign_147 rfl ?_
              first | (refine x_sub (L' := [(0, .ref (ad (30, 0, 0))), (1, .int (I c)), (2, .int (I g)), (3, .int (I w)), (4, .int (I (S.1 (vsT T c g)))), (5, .int (I (T (18 + 10 * c)))), (6, .int (I ff)), (7, .int (I (fe v).2)), (8, .int (I v)), (9, .int (I (pop (wx (T (18 + 10 * c)) v)))), (10, .int (I (bI true))), (11, .int (I ((k + 1 : Nat) : Int)))]) ⟨rfl, rfl, rfl, rfl, rfl, rfl, rfl, rfl, rfl, rfl, rfl, rfl, trivial⟩ (ihM (k + 1) true (by omega) (by omega) ⟨fun _ => (hx _ Iff.rfl).mp ?_, fun _ => rfl⟩); first | exact Or.inl h112 | exact Or.inr (by omega)) | exact x_sub (L' := [(0, .ref (ad (30, 0, 0))), (1, .int (I c)), (2, .int (I g)), (3, .int (I w)), (4, .int (I (S.1 (vsT T c g)))), (5, .int (I (T (18 + 10 * c)))), (6, .int (I ff)), (7, .int (I (fe v).2)), (8, .int (I v)), (9, .int (I (pop (wx (T (18 + 10 * c)) v)))), (10, .int (I (bI false))), (11, .int (I ((k + 1 : Nat) : Int)))]) ⟨rfl, rfl, rfl, rfl, rfl, rfl, rfl, rfl, rfl, rfl, rfl, rfl, trivial⟩ (ihM (k + 1) false (by omega) (by omega) ⟨fun z => (by cases z), fun z => by rcases (hx _ Iff.rfl).mpr z with q | q; (rw [h112] at q; cases q); (exfalso; omega)⟩)
            · try simp only [decide_eq_true_eq, decide_eq_false_iff_not, Bool.and_eq_true, Bool.or_eq_true, Bool.not_eq_true', Bool.not_eq_false', Bool.and_eq_false_iff, Bool.or_eq_false_iff] at h112
              refine x_aload_n (i := 0) (pc := 115) F dX8_feign_115 rfl rfl ?_
              refine x_iload_n (i := 1) (pc := 116) F dX8_feign_116 rfl rfl ?_
              refine x_iload_n (i := 2) (pc := 117) F dX8_feign_117 rfl rfl ?_
              refine x_aload_n (i := 0) (pc := 118) F dX8_feign_118 rfl rfl ?_
              refine x_iload_n (i := 2) (pc := 119) F dX8_feign_119 rfl rfl ?_
              refine x_iload (i := 11) (pc := 120) F dX8_feign_120 rfl ?_
              refine x_V2i (ci := 8) (pc := 122) F dX8_feign_122 lk_X8_111 rfl (vm_ok rfl) rfl rfl (c_X8_walkAt d1 g k (by omega)) rfl rfl rfl ?_
              rintro _ _ ⟨rfl, rfl⟩
              refine x_iload (i := 4) (pc := 125) F dX8_feign_125 rfl ?_
              refine x_V4i (ci := 8) (pc := 127) F dX8_feign_127 lk_X8_117 rfl (vm_ok rfl) rfl rfl (c_X8_likeTo d1 hJ2 (by omega) (by omega) _ _ (kI_rg hJ2 (by omega) (by omega)) (hS.1 _)) rfl rfl rfl ?_
              rintro _ _ ⟨rfl, rfl⟩
              have hlk := hlk.resolve_right (by omega)
              rw [hlk] at hlkr ⊢
              refine x_aload_n (i := 0) (pc := 130) F dX8_feign_130 rfl rfl ?_
              refine gf_X8_164 (pc := 131) F dX8_feign_131 (vm_ok rfl) ?_
              rw [hn2]
              refine x_icmp_lt (tgt := 141) (pc := 134) F dX8_feign_134 rfl (by omega) (fun h134 => ?_) (fun h134 => ?_)
              · refine x_iconst (pc := 141) F dX8_feign_141 ?_
                refine x_istore (i := 10) (pc := 142) F dX8_feign_142 rfl ?_
                refine x_iinc (pc := 144) F dX8_feign_144 rfl rfl ?_
                refine x_goto (tgt := 100) (pc := 147) F dX8_feign_147 rfl ?_
                first | (refine x_sub (L' := [(0, .ref (ad (30, 0, 0))), (1, .int (I c)), (2, .int (I g)), (3, .int (I w)), (4, .int (I (S.1 (vsT T c g)))), (5, .int (I (T (18 + 10 * c)))), (6, .int (I ff)), (7, .int (I (fe v).2)), (8, .int (I v)), (9, .int (I (pop (wx (T (18 + 10 * c)) v)))), (10, .int (I (bI true))), (11, .int (I ((k + 1 : Nat) : Int)))]) ⟨rfl, rfl, rfl, rfl, rfl, rfl, rfl, rfl, rfl, rfl, rfl, rfl, trivial⟩ (ihM (k + 1) true (by omega) (by omega) ⟨fun _ => (hx _ Iff.rfl).mp ?_, fun _ => rfl⟩); first | exact Or.inl h112 | exact Or.inr (by omega)) | exact x_sub (L' := [(0, .ref (ad (30, 0, 0))), (1, .int (I c)), (2, .int (I g)), (3, .int (I w)), (4, .int (I (S.1 (vsT T c g)))), (5, .int (I (T (18 + 10 * c)))), (6, .int (I ff)), (7, .int (I (fe v).2)), (8, .int (I v)), (9, .int (I (pop (wx (T (18 + 10 * c)) v)))), (10, .int (I (bI false))), (11, .int (I ((k + 1 : Nat) : Int)))]) ⟨rfl, rfl, rfl, rfl, rfl, rfl, rfl, rfl, rfl, rfl, rfl, rfl, trivial⟩ (ihM (k + 1) false (by omega) (by omega) ⟨fun z => (by cases z), fun z => by rcases (hx _ Iff.rfl).mpr z with q | q; (rw [h112] at q; cases q); (exfalso; omega)⟩)
              · refine x_iconst (pc := 137) F dX8_feign_137 ?_
                refine x_goto (tgt := 142) (pc := 138) F dX8_feign_138 rfl ?_
                refine x_istore (i := 10) (pc := 142) F dX8_feign_142 rfl ?_
                refine x_iinc (pc := 144) F dX8_feign_144 rfl rfl ?_
                refine x_goto (tgt := 100) (pc := 147) F dX8_feign_147 rfl ?_
                first | (refine x_sub (L' := [(0, .ref (ad (30, 0, 0))), (1, .int (I c)), (2, .int (I g)), (3, .int (I w)), (4, .int (I (S.1 (vsT T c g)))), (5, .int (I (T (18 + 10 * c)))), (6, .int (I ff)), (7, .int (I (fe v).2)), (8, .int (I v)), (9, .int (I (pop (wx (T (18 + 10 * c)) v)))), (10, .int (I (bI true))), (11, .int (I ((k + 1 : Nat) : Int)))]) ⟨rfl, rfl, rfl, rfl, rfl, rfl, rfl, rfl, rfl, rfl, rfl, rfl, trivial⟩ (ihM (k + 1) true (by omega) (by omega) ⟨fun _ => (hx _ Iff.rfl).mp ?_, fun _ => rfl⟩); first | exact Or.inl h112 | exact Or.inr (by omega)) | exact x_sub (L' := [(0, .ref (ad (30, 0, 0))), (1, .int (I c)), (2, .int (I g)), (3, .int (I w)), (4, .int (I (S.1 (vsT T c g)))), (5, .int (I (T (18 + 10 * c)))), (6, .int (I ff)), (7, .int (I (fe v).2)), (8, .int (I v)), (9, .int (I (pop (wx (T (18 + 10 * c)) v)))), (10, .int (I (bI false))), (11, .int (I ((k + 1 : Nat) : Int)))]) ⟨rfl, rfl, rfl, rfl, rfl, rfl, rfl, rfl, rfl, rfl, rfl, rfl, trivial⟩ (ihM (k + 1) false (by omega) (by omega) ⟨fun z => (by cases z), fun z => by rcases (hx _ Iff.rfl).mpr z with q | q; (rw [h112] at q; cases q); (exfalso; omega)⟩)
      refine x_iload (i := 8) (pc := 53) F dX8_feign_53 rfl ?_
      refine x_sipush (pc := 55) F dX8_feign_55 (by decide) ?_
      refine x_icmp_ge (tgt := 184) (pc := 58) F dX8_feign_58 rfl (by omega) (fun h58 => ?_) (fun h58 => ?_)
      · obtain rfl : v = 4096 := by omega
        refine x_aload_n (i := 0) (pc := 184) F dX8_feign_184 rfl rfl ?_
        refine x_iload_n (i := 1) (pc := 185) F dX8_feign_185 rfl rfl ?_
        refine x_iconst (pc := 186) F dX8_feign_186 ?_
        refine x_iload (i := 5) (pc := 187) F dX8_feign_187 rfl ?_
        refine x_V3i (ci := 8) (pc := 189) F dX8_feign_189 lk_X8_90 rfl (vm_ok rfl) rfl rfl (c_X8_change b3 (18 + 10 * c) _ _ _ (by omega)) rfl rfl rfl ?_
        rintro _ _ ⟨rfl, rfl⟩
        refine x_pop (pc := 192) F dX8_feign_192 rfl ?_
        refine x_iload_n (i := 3) (pc := 193) F dX8_feign_193 rfl rfl ?_
        refine x_if_ne (tgt := 202) (pc := 194) F dX8_feign_194 rfl (by omega) (fun h194 => ?_) (fun h194 => ?_)
        · refine x_iload (i := 7) (pc := 202) F dX8_feign_202 rfl ?_
          refine tq_reti (pc := 204) F dX8_feign_204 ?_ rfl rfl rfl
          have hTe : TN (upM μ1 (31, 0, 0) (18 + 10 * c) (T (18 + 10 * c))) T := b3.up.c (fun i x y => by unfold upT; by_cases e : i = 18 + 10 * c; (rw [if_pos e, e]); rw [if_neg e]; exact b4 i x y e)
          have hxe : FX μ μ1 := hxh.trans (FX.o31 b5)
          refine ⟨?_, hTe, hxe.trans FX.up⟩
          unfold feignZ
          rw [if_pos hq, hfT]
          first | (rcases hff with ⟨e1, e2⟩ | ⟨e1, e2⟩; (rw [if_pos e1]; omega); (rw [if_neg e1, if_neg (show ¬ w = 1 by omega)]; exact e2)) | (rcases hff with ⟨e1, e2⟩ | ⟨e1, e2⟩; (rw [if_pos e1]; exact e1); (rw [if_neg e1, if_pos (show w = 1 by omega)]))
        · refine x_iload (i := 6) (pc := 197) F dX8_feign_197 rfl ?_
          refine x_goto (tgt := 204) (pc := 199) F dX8_feign_199 rfl ?_
          refine tq_reti (pc := 204) F dX8_feign_204 ?_ rfl rfl rfl
          have hTe : TN (upM μ1 (31, 0, 0) (18 + 10 * c) (T (18 + 10 * c))) T := b3.up.c (fun i x y => by unfold upT; by_cases e : i = 18 + 10 * c; (rw [if_pos e, e]); rw [if_neg e]; exact b4 i x y e)
          have hxe : FX μ μ1 := hxh.trans (FX.o31 b5)
          refine ⟨?_, hTe, hxe.trans FX.up⟩
          unfold feignZ
          rw [if_pos hq, hfT]
          first | (rcases hff with ⟨e1, e2⟩ | ⟨e1, e2⟩; (rw [if_pos e1]; omega); (rw [if_neg e1, if_neg (show ¬ w = 1 by omega)]; exact e2)) | (rcases hff with ⟨e1, e2⟩ | ⟨e1, e2⟩; (rw [if_pos e1]; exact e1); (rw [if_neg e1, if_pos (show w = 1 by omega)]))
      · refine x_iload (i := 8) (pc := 61) F dX8_feign_61 rfl ?_
        refine x_iload (i := 5) (pc := 63) F dX8_feign_63 rfl ?_
        refine tq_ixor (pc := 65) F dX8_feign_65 (by omega) ?_
        have hxr := wx_rg (a := (v : Int)) (b := T (18 + 10 * c)) (by omega)
        refine x_S1i (pc := 66) F dX8_feign_66 lk_X8_186 rfl (c_X8_many _ (by omega) _) rfl rfl rfl ?_
        rintro _ _ ⟨rfl, rfl⟩
        rw [hmk]
        refine x_istore (i := 9) (pc := 69) F dX8_feign_69 rfl ?_
        refine x_iload (i := 6) (pc := 71) F dX8_feign_71 rfl ?_
        refine x_bipush (pc := 73) F dX8_feign_73 (by decide) ?_
        refine x_icmp_eq (tgt := 85) (pc := 75) F dX8_feign_75 rfl (by omega) (fun h75 => ?_) (fun h75 => ?_)
        · refine x_aload_n (i := 0) (pc := 85) F dX8_feign_85 rfl rfl ?_
          refine x_iload_n (i := 1) (pc := 86) F dX8_feign_86 rfl rfl ?_
          refine x_iconst (pc := 87) F dX8_feign_87 ?_
          refine x_iload (i := 8) (pc := 88) F dX8_feign_88 rfl ?_
          refine x_V3i (ci := 8) (pc := 90) F dX8_feign_90 lk_X8_90 rfl (vm_ok rfl) rfl rfl (c_X8_change b3 (18 + 10 * c) _ _ _ (by omega)) rfl rfl rfl ?_
          rintro _ _ ⟨rfl, rfl⟩
          refine x_pop (pc := 93) F dX8_feign_93 rfl ?_
          have hTv : TN (upM μ1 (31, 0, 0) (18 + 10 * c) v) (upT T (18 + 10 * c) v) := b3.up.c (fun i x y => by unfold upT; by_cases e : i = 18 + 10 * c; (rw [if_pos e, if_pos e]); rw [if_neg e, if_neg e]; exact b4 i x y e)
          refine x_iconst (pc := 94) F dX8_feign_94 ?_
          refine x_istore (i := 10) (pc := 95) F dX8_feign_95 rfl ?_
          refine x_iconst (pc := 97) F dX8_feign_97 ?_
          refine x_istore (i := 11) (pc := 98) F dX8_feign_98 rfl ?_
          exact x_sub (L' := [(0, .ref (ad (30, 0, 0))), (1, .int (I c)), (2, .int (I g)), (3, .int (I w)), (4, .int (I (S.1 (vsT T c g)))), (5, .int (I (T (18 + 10 * c)))), (6, .int (I ff)), (7, .int (I (fe v).2)), (8, .int (I v)), (9, .int (I (pop (wx (T (18 + 10 * c)) v)))), (10, .int (I (bI false))), (11, .int (I ((0 : Nat) : Int)))]) ⟨rfl, rfl, rfl, rfl, rfl, rfl, rfl, rfl, rfl, rfl, rfl, rfl, trivial⟩ (l100 (by omega) (by omega) _ hTv (fun o ho => by rw [upM_ne ho]; exact b5 o ho) 5 0 false (by omega) (by omega) ⟨fun z => (by cases z), fun ⟨j, a, a2, _⟩ => by omega⟩)
        · refine x_iload (i := 9) (pc := 78) F dX8_feign_78 rfl ?_
          refine x_iload (i := 6) (pc := 80) F dX8_feign_80 rfl ?_
          refine x_icmp_ge (tgt := 178) (pc := 82) F dX8_feign_82 rfl (by omega) (fun h82 => ?_) (fun h82 => ?_)
          · have hno : ¬ (pop (wx (T (18 + 10 * c)) v) < (fe v).1 ∧ Lw v) := fun z => by omega
            have hsf : fe (v + 1) = fe v := by rw [hfe] at hno; rw [hfe, hfe]; exact feL_f hno
            exact x_sub (L' := [(0, .ref (ad (30, 0, 0))), (1, .int (I c)), (2, .int (I g)), (3, .int (I w)), (4, .int (I (S.1 (vsT T c g)))), (5, .int (I (T (18 + 10 * c)))), (6, .int (I ff)), (7, .int (I (fe v).2)), (8, .int (I v))]) ⟨rfl, rfl, rfl, rfl, rfl, rfl, rfl, rfl, rfl, trivial⟩ (l178 (by omega) μ1 X _ _ (by rw [hsf]; exact bf) (by rw [hsf]) b3 b4 b5)
          · refine x_aload_n (i := 0) (pc := 85) F dX8_feign_85 rfl rfl ?_
            refine x_iload_n (i := 1) (pc := 86) F dX8_feign_86 rfl rfl ?_
            refine x_iconst (pc := 87) F dX8_feign_87 ?_
            refine x_iload (i := 8) (pc := 88) F dX8_feign_88 rfl ?_
            refine x_V3i (ci := 8) (pc := 90) F dX8_feign_90 lk_X8_90 rfl (vm_ok rfl) rfl rfl (c_X8_change b3 (18 + 10 * c) _ _ _ (by omega)) rfl rfl rfl ?_
            rintro _ _ ⟨rfl, rfl⟩
            refine x_pop (pc := 93) F dX8_feign_93 rfl ?_
            have hTv : TN (upM μ1 (31, 0, 0) (18 + 10 * c) v) (upT T (18 + 10 * c) v) := b3.up.c (fun i x y => by unfold upT; by_cases e : i = 18 + 10 * c; (rw [if_pos e, if_pos e]); rw [if_neg e, if_neg e]; exact b4 i x y e)
            refine x_iconst (pc := 94) F dX8_feign_94 ?_
            refine x_istore (i := 10) (pc := 95) F dX8_feign_95 rfl ?_
            refine x_iconst (pc := 97) F dX8_feign_97 ?_
            refine x_istore (i := 11) (pc := 98) F dX8_feign_98 rfl ?_
            exact x_sub (L' := [(0, .ref (ad (30, 0, 0))), (1, .int (I c)), (2, .int (I g)), (3, .int (I w)), (4, .int (I (S.1 (vsT T c g)))), (5, .int (I (T (18 + 10 * c)))), (6, .int (I ff)), (7, .int (I (fe v).2)), (8, .int (I v)), (9, .int (I (pop (wx (T (18 + 10 * c)) v)))), (10, .int (I (bI false))), (11, .int (I ((0 : Nat) : Int)))]) ⟨rfl, rfl, rfl, rfl, rfl, rfl, rfl, rfl, rfl, rfl, rfl, rfl, trivial⟩ (l100 (by omega) (by omega) _ hTv (fun o ho => by rw [upM_ne ho]; exact b5 o ho) 5 0 false (by omega) (by omega) ⟨fun z => (by cases z), fun ⟨j, a, a2, _⟩ => by omega⟩)
  refine x_aload_n (i := 0) (pc := 0) F dX8_feign_0 rfl rfl ?_
  refine x_iload_n (i := 1) (pc := 1) F dX8_feign_1 rfl rfl ?_
  refine x_V1z (ci := 8) (pc := 2) F dX8_feign_2 lk_X8_94 rfl (vm_ok rfl) rfl rfl (c_isComerW hT hI76 _ (by omega)) rfl rfl rfl ?_
  rintro _ _ ⟨rfl, rfl⟩
  refine x_if_eqB (tgt := 24) (pc := 5) F dX8_feign_5 rfl (fun h5 => ?_) (fun h5 => ?_)
  · try simp only [decide_eq_true_eq, decide_eq_false_iff_not, Bool.and_eq_true, Bool.or_eq_true, Bool.not_eq_true', Bool.not_eq_false', Bool.and_eq_false_iff, Bool.or_eq_false_iff] at h5
    refine x_iconst (pc := 24) F dX8_feign_24 ?_
    refine tq_reti (pc := 25) F dX8_feign_25 ?_ rfl rfl rfl
    exact ⟨by unfold feignZ; rw [if_neg (by omega)], hT, FX.refl μ⟩
  · try simp only [decide_eq_true_eq, decide_eq_false_iff_not, Bool.and_eq_true, Bool.or_eq_true, Bool.not_eq_true', Bool.not_eq_false', Bool.and_eq_false_iff, Bool.or_eq_false_iff] at h5
    refine x_iload_n (i := 2) (pc := 8) F dX8_feign_8 rfl rfl ?_
    refine x_S1z (pc := 9) F dX8_feign_9 lk_X8_86 rfl (c_isGateW _ _ (by omega)) rfl rfl rfl ?_
    rintro _ _ ⟨rfl, rfl⟩
    refine x_if_eqB (tgt := 24) (pc := 12) F dX8_feign_12 rfl (fun h12 => ?_) (fun h12 => ?_)
    · try simp only [decide_eq_true_eq, decide_eq_false_iff_not, Bool.and_eq_true, Bool.or_eq_true, Bool.not_eq_true', Bool.not_eq_false', Bool.and_eq_false_iff, Bool.or_eq_false_iff] at h12
      refine x_iconst (pc := 24) F dX8_feign_24 ?_
      refine tq_reti (pc := 25) F dX8_feign_25 ?_ rfl rfl rfl
      exact ⟨by unfold feignZ; rw [if_neg (by omega)], hT, FX.refl μ⟩
    · try simp only [decide_eq_true_eq, decide_eq_false_iff_not, Bool.and_eq_true, Bool.or_eq_true, Bool.not_eq_true', Bool.not_eq_false', Bool.and_eq_false_iff, Bool.or_eq_false_iff] at h12
      refine x_iload_n (i := 3) (pc := 15) F dX8_feign_15 rfl rfl ?_
      refine x_iconst (pc := 16) F dX8_feign_16 ?_
      refine x_iconst (pc := 17) F dX8_feign_17 ?_
      refine x_S3z (pc := 18) F dX8_feign_18 lk_X8_78 rfl (c_X8_isIn _ _ _ (by omega) _) rfl rfl rfl ?_
      rintro _ _ ⟨rfl, rfl⟩
      refine x_if_neB (tgt := 26) (pc := 21) F dX8_feign_21 rfl (fun h21 => ?_) (fun h21 => ?_)
      · try simp only [decide_eq_true_eq, decide_eq_false_iff_not, Bool.and_eq_true, Bool.or_eq_true, Bool.not_eq_true', Bool.not_eq_false', Bool.and_eq_false_iff, Bool.or_eq_false_iff] at h21
        refine x_aload_n (i := 0) (pc := 26) F dX8_feign_26 rfl rfl ?_
        refine x_iload_n (i := 1) (pc := 27) F dX8_feign_27 rfl rfl ?_
        refine x_iload_n (i := 2) (pc := 28) F dX8_feign_28 rfl rfl ?_
        refine x_V2i (ci := 8) (pc := 29) F dX8_feign_29 lk_X8_114 rfl (vm_ok rfl) rfl rfl (c_X8_helps hE hJ (by omega) (by omega)) rfl rfl rfl ?_
        rintro _ μ1 ⟨rfl, p1, p2', p3⟩
        refine x_istore (i := 4) (pc := 32) F dX8_feign_32 rfl ?_
        refine x_aload_n (i := 0) (pc := 34) F dX8_feign_34 rfl rfl ?_
        refine x_iload_n (i := 1) (pc := 35) F dX8_feign_35 rfl rfl ?_
        refine x_iconst (pc := 36) F dX8_feign_36 ?_
        refine x_V2i (ci := 8) (pc := 37) F dX8_feign_37 lk_X8_82 rfl (vm_ok rfl) rfl rfl (c_X8_one (hT.fh p1) (18 + 10 * c) _ _ (by omega)) rfl rfl rfl ?_
        rintro _ _ ⟨rfl, rfl⟩
        refine x_istore (i := 5) (pc := 40) F dX8_feign_40 rfl ?_
        refine x_bipush (pc := 42) F dX8_feign_42 (by decide) ?_
        refine x_istore (i := 6) (pc := 44) F dX8_feign_44 rfl ?_
        refine x_bipush (pc := 46) F dX8_feign_46 (by decide) ?_
        refine x_istore (i := 7) (pc := 48) F dX8_feign_48 rfl ?_
        refine x_iconst (pc := 50) F dX8_feign_50 ?_
        refine x_istore (i := 8) (pc := 51) F dX8_feign_51 rfl ?_
        exact x_sub (L' := [(0, .ref (ad (30, 0, 0))), (1, .int (I c)), (2, .int (I g)), (3, .int (I w)), (4, .int (I (S.1 (vsT T c g)))), (5, .int (I (T (18 + 10 * c)))), (6, .int (I (-5))), (7, .int (I (feL (fun v => LW S T c g (T (4 * g)) (fun k => T (4 * g + 1 + k)) v) (T (18 + 10 * c)) 0).2)), (8, .int (I ((0 : Nat) : Int)))]) ⟨rfl, rfl, rfl, rfl, rfl, rfl, rfl, rfl, rfl, trivial⟩ (loop (by omega) (fun v => LW S T c g (T (4 * g)) (fun k => T (4 * g + 1 + k)) v) (fun v => Iff.rfl) (fun n => feL (fun v => LW S T c g (T (4 * g)) (fun k => T (4 * g + 1 + k)) v) (T (18 + 10 * c)) n) (fun n => rfl) rfl μ1 (FX.fh p1) p2' 4097 0 μ1 T (-5) (by omega) (by omega) rfl (hT.fh p1) (fun _ _ _ _ => rfl) (fun _ _ => rfl))
      · try simp only [decide_eq_true_eq, decide_eq_false_iff_not, Bool.and_eq_true, Bool.or_eq_true, Bool.not_eq_true', Bool.not_eq_false', Bool.and_eq_false_iff, Bool.or_eq_false_iff] at h21
        refine x_iconst (pc := 24) F dX8_feign_24 ?_
        refine tq_reti (pc := 25) F dX8_feign_25 ?_ rfl rfl rfl
        exact ⟨by unfold feignZ; rw [if_neg (by omega)], hT, FX.refl μ⟩
end MC4
