/-! ===== what stands at the law's start: classes, arrays, Strings ===== -/
theorem arr_p {s : State} {args : Array Value} {t : FieldType} (h : (Cond.arrayClass t).before args s = true) (ht : t.isReference = false) : ∃ cA, ArrOfT s cA t ∧ va_RA s cA t := by
  obtain ⟨c, k, comp, h1, h2, h3⟩ := Cond.arrayClass_spec h
  refine ⟨c, fun N z => ⟨fun k h => (by cases h), k, h2, comp, h3⟩, ?_⟩
  cases t <;> first | exact h1 | cases ht
theorem arr_o {s : State} {args : Array Value} {C : String} (h : (Cond.arrayOver (.object C)).before args s = true) : ∃ cA, ArrOfT s cA (.object C) ∧ va_RA s cA (.object C) := by
  obtain ⟨comp, c, k, h1, h2, h3, h4, h5⟩ := Cond.arrayOver_spec h
  exact ⟨c, fun N z => ⟨fun k h => (by cases h), k, h3, comp, h4⟩, k, comp, h3, h4, h1, h5⟩
def tmS (i : Nat) : Term := .string "GatesBent$Reader" (match i with | 0 => 77 | 1 => 79 | 2 => 81 | 3 => 82 | 4 => 96 | _ => 101)
section KNST
variable {s : State} {args : Array Value}
theorem str_start (hgv : (Jvm.Cond.and given_1 narrow_1).before args s = true) {A : Nat → Prop} (hA : ∀ a : Nat, a < s.heap.size → ¬ A a) : ∃ adK adV : Nat → Nat, vk_S 6 strLen strByt adK adV A s s.heap ∧ ∀ i : Nat, i < 6 → (tmS i).eval args s none [] s = some (.ref (adK i)) := by
  have hs := flat_of_before _ hgv
  refine vk_Sof (tm := tmS) (fun i hi => ?_) (fun i hi => ?_) (fun i hi => ?_) (fun i hi => ?_) (fun i hi => ?_) (fun i hi j hj => ?_) (fun i j hi hj hne => ?_) hA
  · rcases (show i = 0 ∨ i = 1 ∨ i = 2 ∨ i = 3 ∨ i = 4 ∨ i = 5 by omega) with rfl | rfl | rfl | rfl | rfl | rfl <;> decide
  · rcases (show i = 0 ∨ i = 1 ∨ i = 2 ∨ i = 3 ∨ i = 4 ∨ i = 5 by omega) with rfl | rfl | rfl | rfl | rfl | rfl
    · exact hs _ (by decide +kernel)
    · exact hs _ (by decide +kernel)
    · exact hs _ (by decide +kernel)
    · exact hs _ (by decide +kernel)
    · exact hs _ (by decide +kernel)
    · exact hs _ (by decide +kernel)
  · rcases (show i = 0 ∨ i = 1 ∨ i = 2 ∨ i = 3 ∨ i = 4 ∨ i = 5 by omega) with rfl | rfl | rfl | rfl | rfl | rfl
    · exact hs _ (by decide +kernel)
    · exact hs _ (by decide +kernel)
    · exact hs _ (by decide +kernel)
    · exact hs _ (by decide +kernel)
    · exact hs _ (by decide +kernel)
    · exact hs _ (by decide +kernel)
  · rcases (show i = 0 ∨ i = 1 ∨ i = 2 ∨ i = 3 ∨ i = 4 ∨ i = 5 by omega) with rfl | rfl | rfl | rfl | rfl | rfl
    · exact hs _ (by decide +kernel)
    · exact hs _ (by decide +kernel)
    · exact hs _ (by decide +kernel)
    · exact hs _ (by decide +kernel)
    · exact hs _ (by decide +kernel)
    · exact hs _ (by decide +kernel)
  · rcases (show i = 0 ∨ i = 1 ∨ i = 2 ∨ i = 3 ∨ i = 4 ∨ i = 5 by omega) with rfl | rfl | rfl | rfl | rfl | rfl
    · exact hs _ (by decide +kernel)
    · exact hs _ (by decide +kernel)
    · exact hs _ (by decide +kernel)
    · exact hs _ (by decide +kernel)
    · exact hs _ (by decide +kernel)
    · exact hs _ (by decide +kernel)
  · rcases (show i = 0 ∨ i = 1 ∨ i = 2 ∨ i = 3 ∨ i = 4 ∨ i = 5 by omega) with rfl | rfl | rfl | rfl | rfl | rfl
    · have hj : j < 4 := hj
      rcases (show j = 0 ∨ j = 1 ∨ j = 2 ∨ j = 3 by omega) with rfl | rfl | rfl | rfl
      · exact hs _ (by decide +kernel)
      · exact hs _ (by decide +kernel)
      · exact hs _ (by decide +kernel)
      · exact hs _ (by decide +kernel)
    · have hj : j < 6 := hj
      rcases (show j = 0 ∨ j = 1 ∨ j = 2 ∨ j = 3 ∨ j = 4 ∨ j = 5 by omega) with rfl | rfl | rfl | rfl | rfl | rfl
      · exact hs _ (by decide +kernel)
      · exact hs _ (by decide +kernel)
      · exact hs _ (by decide +kernel)
      · exact hs _ (by decide +kernel)
      · exact hs _ (by decide +kernel)
      · exact hs _ (by decide +kernel)
    · have hj : j < 4 := hj
      rcases (show j = 0 ∨ j = 1 ∨ j = 2 ∨ j = 3 by omega) with rfl | rfl | rfl | rfl
      · exact hs _ (by decide +kernel)
      · exact hs _ (by decide +kernel)
      · exact hs _ (by decide +kernel)
      · exact hs _ (by decide +kernel)
    · have hj : j < 3 := hj
      rcases (show j = 0 ∨ j = 1 ∨ j = 2 by omega) with rfl | rfl | rfl
      · exact hs _ (by decide +kernel)
      · exact hs _ (by decide +kernel)
      · exact hs _ (by decide +kernel)
    · have hj : j < 6 := hj
      rcases (show j = 0 ∨ j = 1 ∨ j = 2 ∨ j = 3 ∨ j = 4 ∨ j = 5 by omega) with rfl | rfl | rfl | rfl | rfl | rfl
      · exact hs _ (by decide +kernel)
      · exact hs _ (by decide +kernel)
      · exact hs _ (by decide +kernel)
      · exact hs _ (by decide +kernel)
      · exact hs _ (by decide +kernel)
      · exact hs _ (by decide +kernel)
    · have hj : j < 3 := hj
      rcases (show j = 0 ∨ j = 1 ∨ j = 2 by omega) with rfl | rfl | rfl
      · exact hs _ (by decide +kernel)
      · exact hs _ (by decide +kernel)
      · exact hs _ (by decide +kernel)
  · rcases (show i = 0 ∨ i = 1 ∨ i = 2 ∨ i = 3 ∨ i = 4 ∨ i = 5 by omega) with rfl | rfl | rfl | rfl | rfl | rfl
    · rcases (show j = 0 ∨ j = 1 ∨ j = 2 ∨ j = 3 ∨ j = 4 ∨ j = 5 by omega) with rfl | rfl | rfl | rfl | rfl | rfl
      · exact absurd rfl hne
      · exact Or.inl (hs _ (by decide +kernel))
      · exact Or.inl (hs _ (by decide +kernel))
      · exact Or.inl (hs _ (by decide +kernel))
      · exact Or.inl (hs _ (by decide +kernel))
      · exact Or.inl (hs _ (by decide +kernel))
    · rcases (show j = 0 ∨ j = 1 ∨ j = 2 ∨ j = 3 ∨ j = 4 ∨ j = 5 by omega) with rfl | rfl | rfl | rfl | rfl | rfl
      · exact Or.inr (hs _ (by decide +kernel))
      · exact absurd rfl hne
      · exact Or.inl (hs _ (by decide +kernel))
      · exact Or.inl (hs _ (by decide +kernel))
      · exact Or.inl (hs _ (by decide +kernel))
      · exact Or.inl (hs _ (by decide +kernel))
    · rcases (show j = 0 ∨ j = 1 ∨ j = 2 ∨ j = 3 ∨ j = 4 ∨ j = 5 by omega) with rfl | rfl | rfl | rfl | rfl | rfl
      · exact Or.inr (hs _ (by decide +kernel))
      · exact Or.inr (hs _ (by decide +kernel))
      · exact absurd rfl hne
      · exact Or.inl (hs _ (by decide +kernel))
      · exact Or.inl (hs _ (by decide +kernel))
      · exact Or.inl (hs _ (by decide +kernel))
    · rcases (show j = 0 ∨ j = 1 ∨ j = 2 ∨ j = 3 ∨ j = 4 ∨ j = 5 by omega) with rfl | rfl | rfl | rfl | rfl | rfl
      · exact Or.inr (hs _ (by decide +kernel))
      · exact Or.inr (hs _ (by decide +kernel))
      · exact Or.inr (hs _ (by decide +kernel))
      · exact absurd rfl hne
      · exact Or.inl (hs _ (by decide +kernel))
      · exact Or.inl (hs _ (by decide +kernel))
    · rcases (show j = 0 ∨ j = 1 ∨ j = 2 ∨ j = 3 ∨ j = 4 ∨ j = 5 by omega) with rfl | rfl | rfl | rfl | rfl | rfl
      · exact Or.inr (hs _ (by decide +kernel))
      · exact Or.inr (hs _ (by decide +kernel))
      · exact Or.inr (hs _ (by decide +kernel))
      · exact Or.inr (hs _ (by decide +kernel))
      · exact absurd rfl hne
      · exact Or.inl (hs _ (by decide +kernel))
    · rcases (show j = 0 ∨ j = 1 ∨ j = 2 ∨ j = 3 ∨ j = 4 ∨ j = 5 by omega) with rfl | rfl | rfl | rfl | rfl | rfl
      · exact Or.inr (hs _ (by decide +kernel))
      · exact Or.inr (hs _ (by decide +kernel))
      · exact Or.inr (hs _ (by decide +kernel))
      · exact Or.inr (hs _ (by decide +kernel))
      · exact Or.inr (hs _ (by decide +kernel))
      · exact absurd rfl hne
theorem kn_start (hts : ∀ w ∈ lw_tbl, w.before args s = true) (hgv : (Jvm.Cond.and given_1 narrow_1).before args s = true) : ∃ E : Ev, E.2.2.1 = s.heap.size ∧ Kn E s := by
  have hs := flat_of_before _ hgv
  obtain ⟨c0, i0, hK0⟩ := u_known (C := RX0) (T := TX0) (N := 8) (n := 8) hts (fun w hw => (inx0 w hw).1) (hts _ (tb1 _ (List.mem_of_getElem? (i := 70) rfl)))
  obtain ⟨c1, i1, hK1⟩ := u_known (C := RX1) (T := TX1) (N := 2) (n := 2) hts (fun w hw => (inx1 w hw).1) (hts _ (tb1 _ (List.mem_of_getElem? (i := 53) rfl)))
  obtain ⟨c2, i2, hK2⟩ := u_known (C := RX2) (T := TX2) (N := 5) (n := 5) hts (fun w hw => (inx2 w hw).1) (hts _ (tb1 _ (List.mem_of_getElem? (i := 120) rfl)))
  obtain ⟨c3, i3, hK3⟩ := u_known (C := RX3) (T := TX3) (N := 4) (n := 4) hts (fun w hw => (inx3 w hw).1) (hts _ (tb1 _ (List.mem_of_getElem? (i := 26) rfl)))
  obtain ⟨c4, i4, hK4⟩ := u_known (C := RX4) (T := TX4) (N := 4) (n := 4) hts (fun w hw => (inx4 w hw).1) (hts _ (tb1 _ (List.mem_of_getElem? (i := 158) rfl)))
  obtain ⟨c5, i5, hK5⟩ := u_known (C := RX5) (T := TX5) (N := 3) (n := 3) hts (fun w hw => (inx5 w hw).1) (hts _ (tb1 _ (List.mem_of_getElem? (i := 218) rfl)))
  obtain ⟨c6, i6, hK6⟩ := u_known (C := RX6) (T := TX6) (N := 8) (n := 8) hts (fun w hw => (inx6 w hw).1) (hts _ (tb1 _ (List.mem_of_getElem? (i := 148) rfl)))
  obtain ⟨c7, i7, hK7⟩ := u_known (C := RX7) (T := TX7) (N := 14) (n := 14) hts (fun w hw => (inx7 w hw).1) (hts _ (tb1 _ (List.mem_of_getElem? (i := 18) rfl)))
  obtain ⟨c8, i8, hK8⟩ := u_known (C := RX8) (T := TX8) (N := 32) (n := 32) hts (fun w hw => (inx8 w hw).1) (hts _ (tb4 _ (List.mem_of_getElem? (i := 30) rfl)))
  obtain ⟨a0, hA0⟩ := arr_p (hts _ (tb1 _ (List.mem_of_getElem? (i := 68) rfl))) rfl
  obtain ⟨a1, hA1⟩ := arr_p (hts _ (tb1 _ (List.mem_of_getElem? (i := 235) rfl))) rfl
  obtain ⟨a2, hA2⟩ := arr_p (hts _ (tb1 _ (List.mem_of_getElem? (i := 47) rfl))) rfl
  obtain ⟨a3, hA3⟩ := arr_p (hts _ (tb4 _ (List.mem_of_getElem? (i := 132) rfl))) rfl
  obtain ⟨a4, hA4⟩ := arr_o (hts _ (tb1 _ (List.mem_of_getElem? (i := 154) rfl)))
  obtain ⟨a5, hA5⟩ := arr_o (hts _ (tb1 _ (List.mem_of_getElem? (i := 156) rfl)))
  obtain ⟨a6, hA6⟩ := arr_o (hts _ (tb1 _ (List.mem_of_getElem? (i := 49) rfl)))
  obtain ⟨a7, hA7⟩ := arr_o (hts _ (tb1 _ (List.mem_of_getElem? (i := 51) rfl)))
  have hA : ∀ a : Nat, a < s.heap.size → ¬ s.heap.size ≤ a := fun a h => Nat.not_le.mpr h
  obtain ⟨adK, adV, hS, hT⟩ := str_start hgv (A := fun q => s.heap.size ≤ q) hA
  refine ⟨((fun k => [c0, c1, c2, c3, c4, c5, c6, c7, c8].getD k c0, fun k => [i0, i1, i2, i3, i4, i5, i6, i7, i8].getD k i0), fun k => [a0, a1, a2, a3, a4, a5, a6, a7].getD k a0, s.heap.size, adK, adV), rfl, ⟨fun k q hq => ?_, fun k q hq => ?_⟩, fun w hw => ?_, fun i q hi => ?_, hS, ?_, ?_⟩
  · have hk : k < 9 := (List.getElem?_eq_some_iff.mp hq).1
    rcases (show k = 0 ∨ k = 1 ∨ k = 2 ∨ k = 3 ∨ k = 4 ∨ k = 5 ∨ k = 6 ∨ k = 7 ∨ k = 8 by omega) with rfl | rfl | rfl | rfl | rfl | rfl | rfl | rfl | rfl <;> cases hq
    · exact hK0
    · exact hK1
    · exact hK2
    · exact hK3
    · exact hK4
    · exact hK5
    · exact hK6
    · exact hK7
    · exact hK8
  · have hk : k < 8 := (List.getElem?_eq_some_iff.mp hq).1
    rcases (show k = 0 ∨ k = 1 ∨ k = 2 ∨ k = 3 ∨ k = 4 ∨ k = 5 ∨ k = 6 ∨ k = 7 by omega) with rfl | rfl | rfl | rfl | rfl | rfl | rfl | rfl <;> cases hq
    · exact hA0
    · exact hA1
    · exact hA2
    · exact hA3
    · exact hA4
    · exact hA5
    · exact hA6
    · exact hA7
  · simp only [nestW, List.mem_cons, List.not_mem_nil, or_false] at hw
    rcases hw with rfl | rfl | rfl | rfl | rfl | rfl | rfl | rfl | rfl | rfl
    · exact va_Nw.of rfl (hts _ (tb1 _ (List.mem_of_getElem? (i := 27) rfl)))
    · exact va_Nw.of rfl (hts _ (tb1 _ (List.mem_of_getElem? (i := 54) rfl)))
    · exact va_Nw.of rfl (hts _ (tb1 _ (List.mem_of_getElem? (i := 183) rfl)))
    · exact va_Nw.of rfl (hts _ (tb1 _ (List.mem_of_getElem? (i := 219) rfl)))
    · exact va_Nw.of rfl (hts _ (tb2 _ (List.mem_of_getElem? (i := 87) rfl)))
    · exact va_Nw.of rfl (hts _ (tb2 _ (List.mem_of_getElem? (i := 104) rfl)))
    · exact va_AO.of (hts _ (tb1 _ (List.mem_of_getElem? (i := 49) rfl)))
    · exact va_AO.of (hts _ (tb1 _ (List.mem_of_getElem? (i := 51) rfl)))
    · exact va_AO.of (hts _ (tb1 _ (List.mem_of_getElem? (i := 154) rfl)))
    · exact va_AO.of (hts _ (tb1 _ (List.mem_of_getElem? (i := 156) rfl)))
  · have hk : i < 6 := (List.getElem?_eq_some_iff.mp hi).1
    rcases (show i = 0 ∨ i = 1 ∨ i = 2 ∨ i = 3 ∨ i = 4 ∨ i = 5 by omega) with rfl | rfl | rfl | rfl | rfl | rfl <;> cases hi
    · exact vk_R.of (hts _ (tb2 _ (List.mem_of_getElem? (i := 190) rfl))) (hT 0 (by decide))
    · exact vk_R.of (hts _ (tb2 _ (List.mem_of_getElem? (i := 191) rfl))) (hT 1 (by decide))
    · exact vk_R.of (hts _ (tb2 _ (List.mem_of_getElem? (i := 192) rfl))) (hT 2 (by decide))
    · exact vk_R.of (hts _ (tb2 _ (List.mem_of_getElem? (i := 193) rfl))) (hT 3 (by decide))
    · exact vk_R.of (hts _ (tb3 _ (List.mem_of_getElem? (i := 33) rfl))) (hT 4 (by decide))
    · exact vk_R.of (hts _ (tb3 _ (List.mem_of_getElem? (i := 38) rfl))) (hT 5 (by decide))
  · exact va_Zof (hts _ (tb2 _ (List.mem_of_getElem? (i := 207) rfl))) (hts _ (tb1 _ (List.mem_of_getElem? (i := 13) rfl))) (va_eqi (hs _ (by decide +kernel))) hA
  · exact va_Zqof (hts _ (tb2 _ (List.mem_of_getElem? (i := 223) rfl))) (hts _ (tb1 _ (List.mem_of_getElem? (i := 15) rfl))) (hs _ (by decide +kernel)) hA
end KNST
