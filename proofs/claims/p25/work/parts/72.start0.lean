theorem strR {args : Array Value} {s : State} {k : Nat} {tx : String} (h1 : (Cond.stringRef RX5 k tx).before args s = true) (h2 : (Cond.exactly (.string RX5 k) "java/lang/String").before args s = true) : ∃ a : Nat, vk_R RX5 k tx a s := by
  obtain ⟨a, c, cA, kA, q1, -⟩ := Cond.exactly_spec (args := args) (first := s) (o := none) (s := s) (idx := []) h2
  exact ⟨a, vk_R.of h1 q1⟩
theorem xBtA : ∀ w ∈ xB "java/lang/IllegalArgumentException", w ∈ lw_tbl := by decide +kernel
theorem xBoA : ∀ w ∈ xB "java/lang/IllegalArgumentException", w.onTables = true := by decide +kernel
theorem xBtS : ∀ w ∈ xB "java/lang/IllegalStateException", w ∈ lw_tbl := by decide +kernel
theorem xBoS : ∀ w ∈ xB "java/lang/IllegalStateException", w.onTables = true := by decide +kernel
theorem xBtB : ∀ w ∈ xB "java/lang/IndexOutOfBoundsException", w ∈ lw_tbl := by decide +kernel
theorem xBoB : ∀ w ∈ xB "java/lang/IndexOutOfBoundsException", w.onTables = true := by decide +kernel
set_option maxRecDepth 100000 in
theorem stA_start {s : State} {b : Nat} (hts : ∀ w ∈ lw_tbl, w.before #[Value.ref b] s = true) (hgv : (Jvm.Cond.and given_1 narrow_1).before #[Value.ref b] s = true) : stA (fun q : Nat => s.heap.size ≤ q) s s.heap := by
  have hs := flat_of_before _ hgv
  have hA : ∀ a : Nat, a < s.heap.size → ¬ (fun q : Nat => s.heap.size ≤ q) a := fun a h => Nat.not_le.mpr h
  refine ⟨⟨?_, ?_⟩, ⟨?_, ?_⟩, ?_, ?_, ?_, ?_, ?_⟩
  · skip
    obtain ⟨t, ht, hT⟩ := va_Tof (args := #[Value.ref b]) (s := s) (tm := .static RX4 "LARGEST_OF_CLASS" "[I") (ty := .int) (N := 5) (f := fun j => .int (tabL j)) (A := (fun q : Nat => s.heap.size ≤ q)) (by decide) (hs _ (by decide +kernel)) (va_eqt (hs _ (by decide +kernel))) (fun j hj => by
      rcases (show j = 0 ∨ j = 1 ∨ j = 2 ∨ j = 3 ∨ j = 4 by omega) with rfl | rfl | rfl | rfl | rfl
      · exact va_eqt (hs _ (by decide +kernel))
      · exact va_eqt (hs _ (by decide +kernel))
      · exact va_eqt (hs _ (by decide +kernel))
      · exact va_eqt (hs _ (by decide +kernel))
      · exact va_eqt (hs _ (by decide +kernel))) hA
    exact ⟨t, va_Zof (hts _ (by decide +kernel)) (hts _ (by decide +kernel)) ht hA, hT⟩
  · skip
    obtain ⟨t, ht, hT⟩ := va_Tof (args := #[Value.ref b]) (s := s) (tm := .static RX4 "SAMPLE_OF_LETTER" "[I") (ty := .int) (N := 8) (f := fun j => .int (tabS j)) (A := (fun q : Nat => s.heap.size ≤ q)) (by decide) (hs _ (by decide +kernel)) (va_eqt (hs _ (by decide +kernel))) (fun j hj => by
      rcases (show j = 0 ∨ j = 1 ∨ j = 2 ∨ j = 3 ∨ j = 4 ∨ j = 5 ∨ j = 6 ∨ j = 7 by omega) with rfl | rfl | rfl | rfl | rfl | rfl | rfl | rfl
      · exact va_eqt (hs _ (by decide +kernel))
      · exact va_eqt (hs _ (by decide +kernel))
      · exact va_eqt (hs _ (by decide +kernel))
      · exact va_eqt (hs _ (by decide +kernel))
      · exact va_eqt (hs _ (by decide +kernel))
      · exact va_eqt (hs _ (by decide +kernel))
      · exact va_eqt (hs _ (by decide +kernel))
      · exact va_eqt (hs _ (by decide +kernel))) hA
    exact ⟨t, va_Zof (hts _ (by decide +kernel)) (hts _ (by decide +kernel)) ht hA, hT⟩
  · exact vx_Zqof (hts _ (by decide +kernel)) (hts _ (by decide +kernel)) (hs _ (by decide +kernel)) hA
  · exact vx_Zqof (hts _ (by decide +kernel)) (hts _ (by decide +kernel)) (hs _ (by decide +kernel)) hA
  · intro q hq
    simp only [strL, List.mem_cons, List.not_mem_nil, or_false] at hq
    rcases hq with rfl | rfl | rfl | rfl | rfl | rfl | rfl | rfl | rfl | rfl | rfl
    · exact strR (hts _ (by decide +kernel)) (hs _ (by decide +kernel))
    · exact strR (hts _ (by decide +kernel)) (hs _ (by decide +kernel))
    · exact strR (hts _ (by decide +kernel)) (hs _ (by decide +kernel))
    · exact strR (hts _ (by decide +kernel)) (hs _ (by decide +kernel))
    · exact strR (hts _ (by decide +kernel)) (hs _ (by decide +kernel))
    · exact strR (hts _ (by decide +kernel)) (hs _ (by decide +kernel))
    · exact strR (hts _ (by decide +kernel)) (hs _ (by decide +kernel))
    · exact strR (hts _ (by decide +kernel)) (hs _ (by decide +kernel))
    · exact strR (hts _ (by decide +kernel)) (hs _ (by decide +kernel))
    · exact strR (hts _ (by decide +kernel)) (hs _ (by decide +kernel))
    · exact strR (hts _ (by decide +kernel)) (hs _ (by decide +kernel))
  · exact va_Nc.of (hs _ (by decide +kernel))
  · exact fun w hw => va_Nw.of (xBoA w hw) (hts w (xBtA w hw))
  · exact fun w hw => va_Nw.of (xBoS w hw) (hts w (xBtS w hw))
  · exact fun w hw => va_Nw.of (xBoB w hw) (hts w (xBtB w hw))
theorem arrK {args : Array Value} {s : State} {ty : FieldType} (h : (Cond.arrayClass ty).before args s = true) : ∃ cA : ClassId, ArrOfT s cA ty ∧ s.vm.findClass ("[" ++ ty.toString) = some cA := by
  obtain ⟨cA, kA, comp, h1, h2, h3⟩ := Cond.arrayClass_spec h
  exact ⟨cA, fun n z => ⟨fun k h => (by cases h), kA, h2, comp, h3⟩, h1⟩
theorem arrKO {args : Array Value} {s : State} {C : String} (h : (Cond.arrayOver (.object C)).before args s = true) : ∃ cA : ClassId, ArrOfT s cA (.object C) ∧ va_RA s cA (.object C) := by
  obtain ⟨comp, c, k, h1, h2, h3, h4, h5⟩ := Cond.arrayOver_spec h
  exact ⟨c, fun n z => ⟨fun k h => (by cases h), k, h3, comp, h4⟩, k, comp, h3, h4, h1, h5⟩
set_option maxRecDepth 100000 in
theorem knX {s : State} {b : Nat} (hts : ∀ w ∈ lw_tbl, w.before #[Value.ref b] s = true) : ∃ X : cxT, va_K X.1 vwCl (tyA X) s := by
  obtain ⟨c0, i0, h0⟩ := u_known (C := RX0) (T := TX0) (N := 8) (n := 8) hts inX0 (hts (.instantiable RX0 8) (by decide +kernel))
  obtain ⟨c1, i1, h1⟩ := u_known (C := RX2) (T := TX2) (N := 3) (n := 3) hts inX2 (hts (.instantiable RX2 3) (by decide +kernel))
  obtain ⟨c2, i2, h2⟩ := u_known (C := RX3) (T := TX3) (N := 7) (n := 7) hts inX3 (hts (.instantiable RX3 7) (by decide +kernel))
  obtain ⟨c3, i3, h3⟩ := u_known (C := RX4) (T := TX4) (N := 3) (n := 3) hts inX4 (hts (.instantiable RX4 3) (by decide +kernel))
  obtain ⟨c4, i4, h4⟩ := u_known (C := RX5) (T := TX5) (N := 5) (n := 5) hts inX5 (hts (.instantiable RX5 5) (by decide +kernel))
  obtain ⟨a0, g0, f0⟩ := arrK (hts (.arrayClass .int) (by decide +kernel))
  obtain ⟨a1, g1, f1⟩ := arrK (hts (.arrayClass .int) (by decide +kernel))
  obtain ⟨a2, g2, f2⟩ := arrK (hts (.arrayClass .boolean) (by decide +kernel))
  obtain ⟨a3, g3, f3⟩ := arrKO (hts (.arrayOver (.object RX3)) (by decide +kernel))
  refine ⟨((fun k => if k = 0 then c0 else if k = 1 then c1 else if k = 2 then c2 else if k = 3 then c3 else c4, fun k => if k = 0 then i0 else if k = 1 then i1 else if k = 2 then i2 else if k = 3 then i3 else i4), fun k => if k = 0 then a0 else if k = 1 then a1 else if k = 2 then a2 else a3), ?_, ?_⟩
  · intro k q hq
    match k, hq with
    | 0, hq => cases hq; exact h0
    | 1, hq => cases hq; exact h1
    | 2, hq => cases hq; exact h2
    | 3, hq => cases hq; exact h3
    | 4, hq => cases hq; exact h4
    | k + 5, hq => simp [vwCl] at hq
  · intro k q hq
    match k, hq with
    | 0, hq => cases hq; exact ⟨g0, f0⟩
    | 1, hq => cases hq; exact ⟨g1, f1⟩
    | 2, hq => cases hq; exact ⟨g2, f2⟩
    | 3, hq => cases hq; exact ⟨g3, f3⟩
    | k + 4, hq => simp [tyA] at hq
theorem nX_start {s : State} {b : Nat} (hts : ∀ w ∈ lw_tbl, w.before #[Value.ref b] s = true) : nX s := ⟨va_AO.of (hts _ (by decide +kernel)), va_Nw.of rfl (hts _ (by decide +kernel)), va_Nw.of rfl (hts _ (by decide +kernel)), va_Nw.of rfl (hts _ (by decide +kernel))⟩
