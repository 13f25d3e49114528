def rmX3_inspectFirst : Room := { frames := 1, cells := 0, slots := 0, locals := 21 }
theorem iwX3_inspectFirst_X3 : ∀ w ∈ wsX30, w ∈ wsX3_inspectFirst := fun w h => List.mem_cons_of_mem _ (List.mem_append_right _ (h))
theorem lkX3_inspectFirst_1 : Cond.fieldLink RX3 22 "InspectionOffice$Lot" "inspected" "I" ∈ wsX3_inspectFirst := List.mem_of_getElem? (i := 1) rfl
theorem lkX3_inspectFirst_2 : Cond.fieldLink RX3 18 "InspectionOffice$Lot" "findings" "J" ∈ wsX3_inspectFirst := List.mem_of_getElem? (i := 2) rfl
theorem lkX3_inspectFirst_3 : Cond.fieldLink RX3 31 "InspectionOffice$Lot" "bad" "I" ∈ wsX3_inspectFirst := List.mem_of_getElem? (i := 3) rfl
set_option maxHeartbeats 4000000 in
set_option maxRecDepth 100000 in
theorem mX3_inspectFirst (l : Launch) (X : cxT) (N : Nat) (a_lot : Nat) (sz : Nat) (lot_order : Int32) (lot_size : Int32) (lot_findings : Int64) (lot_verdict : Int32) (lot_state : Int32) (lot_inspected : Int32) (lot_bad : Int32) (p1 : Int32) (r : Int32 × Int32) (hf0 : fX3_inspectFirst N p1 lot_findings lot_inspected lot_bad = some r) : Met l yX3_inspectFirst wsX3_inspectFirst rmX3_inspectFirst (wPre X sz [(a_lot, .inr (2, [.int lot_order, .int lot_size, .long lot_findings, .int lot_verdict, .int lot_state, .int lot_inspected, .int lot_bad]))] [.ref a_lot, .int p1]) (va_Qv (fun _ : Unit => True) (fun _ t => wPost X [(a_lot, .inr (2, [.int lot_order, .int lot_size, .long lot_findings, .int lot_verdict, .int lot_state, .int r.1, .int r.2]))] t) (va_A [(a_lot, .inr (2, [.int lot_order, .int lot_size, .long lot_findings, .int lot_verdict, .int lot_state, .int lot_inspected, .int lot_bad]))] sz)) 0 0 (va_A [(a_lot, .inr (2, [.int lot_order, .int lot_size, .long lot_findings, .int lot_verdict, .int lot_state, .int lot_inspected, .int lot_bad]))] sz) := by
  refine Met.ofW (cc := cX3_inspectFirst) (maxL := 2) (ret := none) (by decide) rfl ?_
  intro p e s m args below meth c s₁ B hml hv
  obtain ⟨rfl, hsz, hP, hK, hD0, hSt⟩ := hv
  have hx := B.exec
  have hb := B.bytes
  have hr := B.returns
  have hts := atoms_spec (ws := wsX3_inspectFirst) B.pre
  have hown : s.vm.findClass RX3 = some m.cls := findClass_of_methodNamed B.named
  have hlocks := B.notSynchronized
  subst hsz
  have hD := hD0.self (sz := s.heap.size)
  generalize hAe : va_A [(a_lot, .inr (2, [.int lot_order, .int lot_size, .long lot_findings, .int lot_verdict, .int lot_state, .int lot_inspected, .int lot_bad]))] s.heap.size = A at hD hSt ⊢
  have hA : ∀ q : Nat, s.heap.size ≤ q → A q := fun q h => by rw [← hAe]; exact Or.inr h
  have hS : va_S A s.heap s.heap [] := va_S.rf
  have hP : va_P X.1 vwCl [(a_lot, .inr (2, [.int lot_order, .int lot_size, .long lot_findings, .int lot_verdict, .int lot_state, .int lot_inspected, .int lot_bad]))] s.heap := hP
  have hl := lv_entry ([.ref a_lot, .int p1]) (n := 2) (Nat.le_of_ble_eq_true rfl)
  rw [lg_entry_eq]
  generalize (lg_sl ([.ref a_lot, .int p1]) ++ List.replicate (2 - (lg_sl ([.ref a_lot, .int p1])).length) Slot.unset).toArray = ls at hl ⊢
  have hl : lv_has ls 2 [(0, .ref a_lot), (1, .int p1)] := hl
  have hf := hf0
  unfold fX3_inspectFirst at hf
  obtain ⟨H, hHe⟩ : ∃ z, z = s.heap := ⟨_, rfl⟩
  have hP : va_P X.1 vwCl [(a_lot, .inr (2, [.int lot_order, .int lot_size, .long lot_findings, .int lot_verdict, .int lot_state, .int lot_inspected, .int lot_bad]))] H := by rw [hHe]; exact hP
  have hS : va_S A s.heap H [] := by rw [hHe]; exact va_S.rf
  rw [← hHe]
  obtain ⟨locs, hLo⟩ : ∃ z : List Loc, z = [] := ⟨_, rfl⟩
  rw [← hLo] at hS ⊢
  refine lv_aload_n hx hb dX3_inspectFirst_0 rfl (lv_at hl 0 rfl) ?_
  refine lv_iload_n hx hb dX3_inspectFirst_1 rfl (lv_at hl 1 rfl) ?_
  refine va_put (D := X.1) (ci := 2) (v := .int p1) (ty := .int) (C := RX3) (T := TX3) (N := 7) hx hb hts iwX3_inspectFirst_X3 tyX3 tyX3_ok nmX3 hown hK hP hD hS 0 rfl rfl 5 (by decide) (hts _ lkX3_inspectFirst_1) (fun _ h9 => h9) rfl (by decide +kernel) rfl rfl (Nat.le_of_ble_eq_true rfl) dX3_inspectFirst_2 (fun H locs hP hD hS => ?_)
  have hP : va_P X.1 vwCl [(a_lot, .inr (2, [.int lot_order, .int lot_size, .long lot_findings, .int lot_verdict, .int lot_state, .int p1, .int lot_bad]))] H := hP
  have hD : va_D A [(a_lot, .inr (2, [.int lot_order, .int lot_size, .long lot_findings, .int lot_verdict, .int lot_state, .int p1, .int lot_bad]))] := hD
  refine lv_aload_n hx hb dX3_inspectFirst_5 rfl (lv_at hl 0 rfl) ?_
  refine lv_aload_n hx hb dX3_inspectFirst_6 rfl (lv_at hl 0 rfl) ?_
  refine va_get (D := X.1) (ci := 2) (v := .long lot_findings) (C := RX3) (T := TX3) (N := 7) hx hb hts iwX3_inspectFirst_X3 hown hK hP 0 rfl rfl 2 (by decide) (hts _ lkX3_inspectFirst_2) (fun _ h9 => h9) rfl dX3_inspectFirst_7 ?_
  refine lv_lconst (v := 1) hx hb dX3_inspectFirst_10 (by decide) ?_
  refine lv_iload_n hx hb dX3_inspectFirst_11 rfl (lv_at hl 1 rfl) ?_
  refine lv_lshl hx hb dX3_inspectFirst_12 rfl ?_
  refine lv_lconst (v := 1) hx hb dX3_inspectFirst_13 (by decide) ?_
  refine lv_lsub hx hb dX3_inspectFirst_14 ?_
  refine lv_land hx hb dX3_inspectFirst_15 ?_
  obtain ⟨r_1, e_2, hf⟩ := bind_some hf
  refine vp_callSi (W.runS (As := [.long (lot_findings &&& ((1 <<< (p1.toInt64 &&& 63)) - 1))]) (rest := [.ref a_lot]) ⟨hx, hb, hml, hown, hts⟩ (mJ13_bitCount_95d88 l X N (lot_findings &&& ((1 <<< (p1.toInt64 &&& 63)) - 1)) r_1 e_2) (va_cwS 1 hts gX3_inspectFirst_J13_bitCount_95d88 rfl rfl rfl (by decide +kernel) ⟨Nat.le_of_ble_eq_true rfl, Nat.le_of_ble_eq_true rfl⟩) (rPreS hK hP hSt hS [] rfl) rfl rfl hl.1 rfl (lv_room (Nat.le_of_ble_eq_true rfl)) dX3_inspectFirst_16 ⟨Nat.zero_le _, Nat.zero_le _⟩) (fun v9 e9 => ?_)
  rw [e9]
  refine va_put (D := X.1) (ci := 2) (v := .int r_1) (ty := .int) (C := RX3) (T := TX3) (N := 7) hx hb hts iwX3_inspectFirst_X3 tyX3 tyX3_ok nmX3 hown hK hP hD hS 0 rfl rfl 6 (by decide) (hts _ lkX3_inspectFirst_3) (fun _ h9 => h9) rfl (by decide +kernel) rfl rfl (Nat.le_of_ble_eq_true rfl) dX3_inspectFirst_19 (fun H locs hP hD hS => ?_)
  have hP : va_P X.1 vwCl [(a_lot, .inr (2, [.int lot_order, .int lot_size, .long lot_findings, .int lot_verdict, .int lot_state, .int p1, .int r_1]))] H := hP
  have hD : va_D A [(a_lot, .inr (2, [.int lot_order, .int lot_size, .long lot_findings, .int lot_verdict, .int lot_state, .int p1, .int r_1]))] := hD
  obtain rfl := Option.some.inj hf
  exact W.vret hx hb hr (fun t ht hW => ⟨⟨(), rfl, trivial, by rw [ht]; exact hP, va_K.moved hW.alike hK⟩, hS.F ht⟩) hS.2.2 dX3_inspectFirst_22
def rmX3_leaveUninspected : Room := { frames := 0, cells := 0, slots := 0, locals := 0 }
theorem iwX3_leaveUninspected_X3 : ∀ w ∈ wsX30, w ∈ wsX3_leaveUninspected := fun w h => List.mem_cons_of_mem _ (List.mem_append_right _ (h))
theorem lkX3_leaveUninspected_1 : Cond.fieldLink RX3 22 "InspectionOffice$Lot" "inspected" "I" ∈ wsX3_leaveUninspected := List.mem_of_getElem? (i := 1) rfl
theorem lkX3_leaveUninspected_2 : Cond.fieldLink RX3 31 "InspectionOffice$Lot" "bad" "I" ∈ wsX3_leaveUninspected := List.mem_of_getElem? (i := 2) rfl
theorem lkX3_leaveUninspected_3 : Cond.fieldLink RX3 34 "InspectionOffice$Lot" "verdict" "I" ∈ wsX3_leaveUninspected := List.mem_of_getElem? (i := 3) rfl
set_option maxHeartbeats 4000000 in
set_option maxRecDepth 100000 in
theorem mX3_leaveUninspected (l : Launch) (X : cxT) (N : Nat) (a_lot : Nat) (sz : Nat) (lot_order : Int32) (lot_size : Int32) (lot_findings : Int64) (lot_verdict : Int32) (lot_state : Int32) (lot_inspected : Int32) (lot_bad : Int32) (p1 : Int32) (r : Int32 × Int32 × Int32) (hf0 : fX3_leaveUninspected N p1 lot_verdict lot_inspected lot_bad = some r) : Met l yX3_leaveUninspected wsX3_leaveUninspected rmX3_leaveUninspected (wPre X sz [(a_lot, .inr (2, [.int lot_order, .int lot_size, .long lot_findings, .int lot_verdict, .int lot_state, .int lot_inspected, .int lot_bad]))] [.ref a_lot, .int p1]) (va_Qv (fun _ : Unit => True) (fun _ t => wPost X [(a_lot, .inr (2, [.int lot_order, .int lot_size, .long lot_findings, .int r.1, .int lot_state, .int r.2.1, .int r.2.2]))] t) (va_A [(a_lot, .inr (2, [.int lot_order, .int lot_size, .long lot_findings, .int lot_verdict, .int lot_state, .int lot_inspected, .int lot_bad]))] sz)) 0 0 (va_A [(a_lot, .inr (2, [.int lot_order, .int lot_size, .long lot_findings, .int lot_verdict, .int lot_state, .int lot_inspected, .int lot_bad]))] sz) := by
  refine Met.ofW (cc := cX3_leaveUninspected) (maxL := 2) (ret := none) (by decide) rfl ?_
  intro p e s m args below meth c s₁ B hml hv
  obtain ⟨rfl, hsz, hP, hK, hD0, hSt⟩ := hv
  have hx := B.exec
  have hb := B.bytes
  have hr := B.returns
  have hts := atoms_spec (ws := wsX3_leaveUninspected) B.pre
  have hown : s.vm.findClass RX3 = some m.cls := findClass_of_methodNamed B.named
  have hlocks := B.notSynchronized
  subst hsz
  have hD := hD0.self (sz := s.heap.size)
  generalize hAe : va_A [(a_lot, .inr (2, [.int lot_order, .int lot_size, .long lot_findings, .int lot_verdict, .int lot_state, .int lot_inspected, .int lot_bad]))] s.heap.size = A at hD hSt ⊢
  have hA : ∀ q : Nat, s.heap.size ≤ q → A q := fun q h => by rw [← hAe]; exact Or.inr h
  have hS : va_S A s.heap s.heap [] := va_S.rf
  have hP : va_P X.1 vwCl [(a_lot, .inr (2, [.int lot_order, .int lot_size, .long lot_findings, .int lot_verdict, .int lot_state, .int lot_inspected, .int lot_bad]))] s.heap := hP
  have hl := lv_entry ([.ref a_lot, .int p1]) (n := 2) (Nat.le_of_ble_eq_true rfl)
  rw [lg_entry_eq]
  generalize (lg_sl ([.ref a_lot, .int p1]) ++ List.replicate (2 - (lg_sl ([.ref a_lot, .int p1])).length) Slot.unset).toArray = ls at hl ⊢
  have hl : lv_has ls 2 [(0, .ref a_lot), (1, .int p1)] := hl
  have hf := hf0
  unfold fX3_leaveUninspected at hf
  obtain ⟨H, hHe⟩ : ∃ z, z = s.heap := ⟨_, rfl⟩
  have hP : va_P X.1 vwCl [(a_lot, .inr (2, [.int lot_order, .int lot_size, .long lot_findings, .int lot_verdict, .int lot_state, .int lot_inspected, .int lot_bad]))] H := by rw [hHe]; exact hP
  have hS : va_S A s.heap H [] := by rw [hHe]; exact va_S.rf
  rw [← hHe]
  obtain ⟨locs, hLo⟩ : ∃ z : List Loc, z = [] := ⟨_, rfl⟩
  rw [← hLo] at hS ⊢
  refine lv_aload_n hx hb dX3_leaveUninspected_0 rfl (lv_at hl 0 rfl) ?_
  refine lv_iconst (v := 0) hx hb dX3_leaveUninspected_1 (by decide) ?_
  refine va_put (D := X.1) (ci := 2) (v := .int 0) (ty := .int) (C := RX3) (T := TX3) (N := 7) hx hb hts iwX3_leaveUninspected_X3 tyX3 tyX3_ok nmX3 hown hK hP hD hS 0 rfl rfl 5 (by decide) (hts _ lkX3_leaveUninspected_1) (fun _ h9 => h9) rfl (by decide +kernel) rfl rfl (Nat.le_of_ble_eq_true rfl) dX3_leaveUninspected_2 (fun H locs hP hD hS => ?_)
  have hP : va_P X.1 vwCl [(a_lot, .inr (2, [.int lot_order, .int lot_size, .long lot_findings, .int lot_verdict, .int lot_state, .int 0, .int lot_bad]))] H := hP
  have hD : va_D A [(a_lot, .inr (2, [.int lot_order, .int lot_size, .long lot_findings, .int lot_verdict, .int lot_state, .int 0, .int lot_bad]))] := hD
  refine lv_aload_n hx hb dX3_leaveUninspected_5 rfl (lv_at hl 0 rfl) ?_
  refine lv_iconst (v := 0) hx hb dX3_leaveUninspected_6 (by decide) ?_
  refine va_put (D := X.1) (ci := 2) (v := .int 0) (ty := .int) (C := RX3) (T := TX3) (N := 7) hx hb hts iwX3_leaveUninspected_X3 tyX3 tyX3_ok nmX3 hown hK hP hD hS 0 rfl rfl 6 (by decide) (hts _ lkX3_leaveUninspected_2) (fun _ h9 => h9) rfl (by decide +kernel) rfl rfl (Nat.le_of_ble_eq_true rfl) dX3_leaveUninspected_7 (fun H locs hP hD hS => ?_)
  have hP : va_P X.1 vwCl [(a_lot, .inr (2, [.int lot_order, .int lot_size, .long lot_findings, .int lot_verdict, .int lot_state, .int 0, .int 0]))] H := hP
  have hD : va_D A [(a_lot, .inr (2, [.int lot_order, .int lot_size, .long lot_findings, .int lot_verdict, .int lot_state, .int 0, .int 0]))] := hD
  refine lv_aload_n hx hb dX3_leaveUninspected_10 rfl (lv_at hl 0 rfl) ?_
  refine lv_iload_n hx hb dX3_leaveUninspected_11 rfl (lv_at hl 1 rfl) ?_
  refine va_put (D := X.1) (ci := 2) (v := .int p1) (ty := .int) (C := RX3) (T := TX3) (N := 7) hx hb hts iwX3_leaveUninspected_X3 tyX3 tyX3_ok nmX3 hown hK hP hD hS 0 rfl rfl 3 (by decide) (hts _ lkX3_leaveUninspected_3) (fun _ h9 => h9) rfl (by decide +kernel) rfl rfl (Nat.le_of_ble_eq_true rfl) dX3_leaveUninspected_12 (fun H locs hP hD hS => ?_)
  have hP : va_P X.1 vwCl [(a_lot, .inr (2, [.int lot_order, .int lot_size, .long lot_findings, .int p1, .int lot_state, .int 0, .int 0]))] H := hP
  have hD : va_D A [(a_lot, .inr (2, [.int lot_order, .int lot_size, .long lot_findings, .int p1, .int lot_state, .int 0, .int 0]))] := hD
  obtain rfl := Option.some.inj hf
  exact W.vret hx hb hr (fun t ht hW => ⟨⟨(), rfl, trivial, by rw [ht]; exact hP, va_K.moved hW.alike hK⟩, hS.F ht⟩) hS.2.2 dX3_leaveUninspected_15
def rmX3_judge : Room := { frames := 0, cells := 0, slots := 0, locals := 0 }
theorem iwX3_judge_X3 : ∀ w ∈ wsX30, w ∈ wsX3_judge := fun w h => List.mem_cons_of_mem _ (List.mem_append_right _ (h))
theorem lkX3_judge_1 : Cond.fieldLink RX3 34 "InspectionOffice$Lot" "verdict" "I" ∈ wsX3_judge := List.mem_of_getElem? (i := 1) rfl
set_option maxHeartbeats 4000000 in
set_option maxRecDepth 100000 in
theorem mX3_judge (l : Launch) (X : cxT) (N : Nat) (a_lot : Nat) (sz : Nat) (lot_order : Int32) (lot_size : Int32) (lot_findings : Int64) (lot_verdict : Int32) (lot_state : Int32) (lot_inspected : Int32) (lot_bad : Int32) (p1 : Int32) (r : Int32) (hf0 : fX3_judge N p1 lot_verdict = some r) : Met l yX3_judge wsX3_judge rmX3_judge (wPre X sz [(a_lot, .inr (2, [.int lot_order, .int lot_size, .long lot_findings, .int lot_verdict, .int lot_state, .int lot_inspected, .int lot_bad]))] [.ref a_lot, .int p1]) (va_Qv (fun _ : Unit => True) (fun _ t => wPost X [(a_lot, .inr (2, [.int lot_order, .int lot_size, .long lot_findings, .int r, .int lot_state, .int lot_inspected, .int lot_bad]))] t) (va_A [(a_lot, .inr (2, [.int lot_order, .int lot_size, .long lot_findings, .int lot_verdict, .int lot_state, .int lot_inspected, .int lot_bad]))] sz)) 0 0 (va_A [(a_lot, .inr (2, [.int lot_order, .int lot_size, .long lot_findings, .int lot_verdict, .int lot_state, .int lot_inspected, .int lot_bad]))] sz) := by
  refine Met.ofW (cc := cX3_judge) (maxL := 2) (ret := none) (by decide) rfl ?_
  intro p e s m args below meth c s₁ B hml hv
  obtain ⟨rfl, hsz, hP, hK, hD0, hSt⟩ := hv
  have hx := B.exec
  have hb := B.bytes
  have hr := B.returns
  have hts := atoms_spec (ws := wsX3_judge) B.pre
  have hown : s.vm.findClass RX3 = some m.cls := findClass_of_methodNamed B.named
  have hlocks := B.notSynchronized
  subst hsz
  have hD := hD0.self (sz := s.heap.size)
  generalize hAe : va_A [(a_lot, .inr (2, [.int lot_order, .int lot_size, .long lot_findings, .int lot_verdict, .int lot_state, .int lot_inspected, .int lot_bad]))] s.heap.size = A at hD hSt ⊢
  have hA : ∀ q : Nat, s.heap.size ≤ q → A q := fun q h => by rw [← hAe]; exact Or.inr h
  have hS : va_S A s.heap s.heap [] := va_S.rf
  have hP : va_P X.1 vwCl [(a_lot, .inr (2, [.int lot_order, .int lot_size, .long lot_findings, .int lot_verdict, .int lot_state, .int lot_inspected, .int lot_bad]))] s.heap := hP
  have hl := lv_entry ([.ref a_lot, .int p1]) (n := 2) (Nat.le_of_ble_eq_true rfl)
  rw [lg_entry_eq]
  generalize (lg_sl ([.ref a_lot, .int p1]) ++ List.replicate (2 - (lg_sl ([.ref a_lot, .int p1])).length) Slot.unset).toArray = ls at hl ⊢
  have hl : lv_has ls 2 [(0, .ref a_lot), (1, .int p1)] := hl
  have hf := hf0
  unfold fX3_judge at hf
  obtain ⟨H, hHe⟩ : ∃ z, z = s.heap := ⟨_, rfl⟩
  have hP : va_P X.1 vwCl [(a_lot, .inr (2, [.int lot_order, .int lot_size, .long lot_findings, .int lot_verdict, .int lot_state, .int lot_inspected, .int lot_bad]))] H := by rw [hHe]; exact hP
  have hS : va_S A s.heap H [] := by rw [hHe]; exact va_S.rf
  rw [← hHe]
  obtain ⟨locs, hLo⟩ : ∃ z : List Loc, z = [] := ⟨_, rfl⟩
  rw [← hLo] at hS ⊢
  refine lv_aload_n hx hb dX3_judge_0 rfl (lv_at hl 0 rfl) ?_
  refine lv_iload_n hx hb dX3_judge_1 rfl (lv_at hl 1 rfl) ?_
  refine lv_if_eq (tgt := 9) hx hb dX3_judge_2 (by decide) (fun c_1 => ?_) (fun c_1 => ?_)
  · rw [if_pos c_1] at hf
    refine lv_iconst (v := 0) hx hb dX3_judge_9 (by decide) ?_
    refine va_put (D := X.1) (ci := 2) (v := .int 0) (ty := .int) (C := RX3) (T := TX3) (N := 7) hx hb hts iwX3_judge_X3 tyX3 tyX3_ok nmX3 hown hK hP hD hS 0 rfl rfl 3 (by decide) (hts _ lkX3_judge_1) (fun _ h9 => h9) rfl (by decide +kernel) rfl rfl (Nat.le_of_ble_eq_true rfl) dX3_judge_10 (fun H locs hP hD hS => ?_)
    have hP : va_P X.1 vwCl [(a_lot, .inr (2, [.int lot_order, .int lot_size, .long lot_findings, .int 0, .int lot_state, .int lot_inspected, .int lot_bad]))] H := hP
    have hD : va_D A [(a_lot, .inr (2, [.int lot_order, .int lot_size, .long lot_findings, .int 0, .int lot_state, .int lot_inspected, .int lot_bad]))] := hD
    obtain rfl := Option.some.inj hf
    exact W.vret hx hb hr (fun t ht hW => ⟨⟨(), rfl, trivial, by rw [ht]; exact hP, va_K.moved hW.alike hK⟩, hS.F ht⟩) hS.2.2 dX3_judge_13
  · rw [if_neg c_1] at hf
    refine lv_iconst (v := 1) hx hb dX3_judge_5 (by decide) ?_
    refine lv_goto (tgt := 10) hx hb dX3_judge_6 (by decide) ?_
    refine va_put (D := X.1) (ci := 2) (v := .int 1) (ty := .int) (C := RX3) (T := TX3) (N := 7) hx hb hts iwX3_judge_X3 tyX3 tyX3_ok nmX3 hown hK hP hD hS 0 rfl rfl 3 (by decide) (hts _ lkX3_judge_1) (fun _ h9 => h9) rfl (by decide +kernel) rfl rfl (Nat.le_of_ble_eq_true rfl) dX3_judge_10 (fun H locs hP hD hS => ?_)
    have hP : va_P X.1 vwCl [(a_lot, .inr (2, [.int lot_order, .int lot_size, .long lot_findings, .int 1, .int lot_state, .int lot_inspected, .int lot_bad]))] H := hP
    have hD : va_D A [(a_lot, .inr (2, [.int lot_order, .int lot_size, .long lot_findings, .int 1, .int lot_state, .int lot_inspected, .int lot_bad]))] := hD
    obtain rfl := Option.some.inj hf
    exact W.vret hx hb hr (fun t ht hW => ⟨⟨(), rfl, trivial, by rw [ht]; exact hP, va_K.moved hW.alike hK⟩, hS.F ht⟩) hS.2.2 dX3_judge_13
def rmX4_inspectTwice : Room := { frames := 2, cells := 0, slots := 0, locals := 42 }
theorem iwX4_inspectTwice_X3 : ∀ w ∈ wsX30, w ∈ wsX4_inspectTwice := fun w h => List.mem_cons_of_mem _ (List.mem_append_right _ (h))
theorem lkX4_inspectTwice_1 : Cond.fieldLink RX4 56 "InspectionOffice$Lot" "bad" "I" ∈ wsX4_inspectTwice := List.mem_of_getElem? (i := 1) rfl
theorem lkX4_inspectTwice_2 : Cond.fieldLink RX4 32 "InspectionOffice$Lot" "size" "I" ∈ wsX4_inspectTwice := List.mem_of_getElem? (i := 2) rfl
theorem lkX4_inspectTwice_3 : Cond.methodLink RX4 63 Lib.Math.min.name ∈ wsX4_inspectTwice := List.mem_of_getElem? (i := 3) rfl
theorem lkX4_inspectTwice_4 : Cond.static Lib.Math.min.name ∈ wsX4_inspectTwice := List.mem_of_getElem? (i := 4) rfl
theorem lkX4_inspectTwice_5 : Cond.initialized "java/lang/Math" ∈ wsX4_inspectTwice := List.mem_of_getElem? (i := 5) rfl
theorem lkX4_inspectTwice_6 : Cond.code Lib.Math.min.name Lib.Math.min.code 2 (some .int) ∈ wsX4_inspectTwice := List.mem_of_getElem? (i := 6) rfl
set_option maxHeartbeats 4000000 in
set_option maxRecDepth 100000 in
theorem mX4_inspectTwice (l : Launch) (X : cxT) (N : Nat) (a_lot : Nat) (sz : Nat) (lot_order : Int32) (lot_size : Int32) (lot_findings : Int64) (lot_verdict : Int32) (lot_state : Int32) (lot_inspected : Int32) (lot_bad : Int32) (p1 : Int32) (p2 : Int32) (r : Int32 × Int32 × Int32) (hf0 : fX4_inspectTwice N p1 p2 lot_size lot_findings lot_verdict lot_inspected lot_bad = some r) : Met l yX4_inspectTwice wsX4_inspectTwice rmX4_inspectTwice (wPre X sz [(a_lot, .inr (2, [.int lot_order, .int lot_size, .long lot_findings, .int lot_verdict, .int lot_state, .int lot_inspected, .int lot_bad]))] [.ref a_lot, .int p1, .int p2]) (va_Qv (fun _ : Unit => True) (fun _ t => wPost X [(a_lot, .inr (2, [.int lot_order, .int lot_size, .long lot_findings, .int r.1, .int lot_state, .int r.2.1, .int r.2.2]))] t) (va_A [(a_lot, .inr (2, [.int lot_order, .int lot_size, .long lot_findings, .int lot_verdict, .int lot_state, .int lot_inspected, .int lot_bad]))] sz)) 0 0 (va_A [(a_lot, .inr (2, [.int lot_order, .int lot_size, .long lot_findings, .int lot_verdict, .int lot_state, .int lot_inspected, .int lot_bad]))] sz) := by
  refine Met.ofW (cc := cX4_inspectTwice) (maxL := 5) (ret := none) (by decide) rfl ?_
  intro p e s m args below meth c s₁ B hml hv
  obtain ⟨rfl, hsz, hP, hK, hD0, hSt⟩ := hv
  have hx := B.exec
  have hb := B.bytes
  have hr := B.returns
  have hts := atoms_spec (ws := wsX4_inspectTwice) B.pre
  have hown : s.vm.findClass RX4 = some m.cls := findClass_of_methodNamed B.named
  have hlocks := B.notSynchronized
  subst hsz
  have hD := hD0.self (sz := s.heap.size)
  generalize hAe : va_A [(a_lot, .inr (2, [.int lot_order, .int lot_size, .long lot_findings, .int lot_verdict, .int lot_state, .int lot_inspected, .int lot_bad]))] s.heap.size = A at hD hSt ⊢
  have hA : ∀ q : Nat, s.heap.size ≤ q → A q := fun q h => by rw [← hAe]; exact Or.inr h
  have hS : va_S A s.heap s.heap [] := va_S.rf
  have hP : va_P X.1 vwCl [(a_lot, .inr (2, [.int lot_order, .int lot_size, .long lot_findings, .int lot_verdict, .int lot_state, .int lot_inspected, .int lot_bad]))] s.heap := hP
  have hl := lv_entry ([.ref a_lot, .int p1, .int p2]) (n := 5) (Nat.le_of_ble_eq_true rfl)
  rw [lg_entry_eq]
  generalize (lg_sl ([.ref a_lot, .int p1, .int p2]) ++ List.replicate (5 - (lg_sl ([.ref a_lot, .int p1, .int p2])).length) Slot.unset).toArray = ls at hl ⊢
  have hl : lv_has ls 5 [(0, .ref a_lot), (1, .int p1), (2, .int p2)] := hl
  have B74 : (∀ (y1 : Int32) (lot_verdict : Int32) (lot_inspected : Int32) (lot_bad : Int32), fX4_inspectTwice_b74 N lot_size lot_findings y1 lot_verdict lot_inspected lot_bad = some r → ∀ (H : Heap) (locs : List Loc), va_P X.1 vwCl [(a_lot, .inr (2, [.int lot_order, .int lot_size, .long lot_findings, .int lot_verdict, .int lot_state, .int lot_inspected, .int lot_bad]))] H → va_D A [(a_lot, .inr (2, [.int lot_order, .int lot_size, .long lot_findings, .int lot_verdict, .int lot_state, .int lot_inspected, .int lot_bad]))] → va_S A s.heap H locs → ∀ ls : Array Slot, lv_has ls 5 [] → W p l e (headSpec wsX4_inspectTwice rmX4_inspectTwice).room s m (([.ref a_lot, .int p1, .int p2] : List Value).toArray) below meth c H locs 0 0 (MQ below (va_Qv (fun _ : Unit => True) (fun _ t => wPost X [(a_lot, .inr (2, [.int lot_order, .int lot_size, .long lot_findings, .int r.1, .int lot_state, .int r.2.1, .int r.2.2]))] t) A) ([.ref a_lot, .int p1, .int p2] : List Value).toArray s 0 0 A) (F0 m 74 ls [.int y1, .ref a_lot])) := by
    intro y1 lot_verdict lot_inspected lot_bad hf H locs hP hD hS ls hl
    unfold fX4_inspectTwice_b74 at hf
    obtain ⟨r_9, e_10, hf⟩ := bind_some hf
    have hFc := va_free (wc := [(a_lot, .inr (2, [.int lot_order, .int lot_size, .long lot_findings, .int lot_verdict, .int lot_state, .int lot_inspected, .int lot_bad]))]) hD hS hA [0] rfl
    refine va_callv (va_runV (As := [.int y1]) (rest := []) ⟨hx, hb, hml, hown, hts⟩ (mX3_judge l X N a_lot H.size lot_order lot_size lot_findings lot_verdict lot_state lot_inspected lot_bad y1 r_9 e_10) (cwV 1 hts gX4_inspectTwice_X3_judge rfl rfl rfl (by decide +kernel) ⟨Nat.le_of_ble_eq_true rfl, Nat.le_of_ble_eq_true rfl⟩) (wPreV hK hP hD hSt hS hFc [0] (by decide) rfl rfl 0 rfl rfl) rfl rfl hl.1 rfl (lv_room (Nat.le_of_ble_eq_true rfl)) dX4_inspectTwice_74 ⟨Nat.zero_le _, Nat.zero_le _⟩) hS (fun q _ h => hFc q h) hFc (fun u t H1 locs ht hvm hw hB hz1 hk1 hS => ?_)
    have hP1 := hB.1
    rw [ht] at hP1
    obtain ⟨hP, hD⟩ := wj hP hD [0] (wc := [(a_lot, .inr (2, [.int lot_order, .int lot_size, .long lot_findings, .int lot_verdict, .int lot_state, .int lot_inspected, .int lot_bad]))]) (w1 := [(a_lot, .inr (2, [.int lot_order, .int lot_size, .long lot_findings, .int r_9, .int lot_state, .int lot_inspected, .int lot_bad]))]) rfl rfl hk1 hP1
    have hP : va_P X.1 vwCl [(a_lot, .inr (2, [.int lot_order, .int lot_size, .long lot_findings, .int r_9, .int lot_state, .int lot_inspected, .int lot_bad]))] H1 := hP
    have hD : va_D A [(a_lot, .inr (2, [.int lot_order, .int lot_size, .long lot_findings, .int r_9, .int lot_state, .int lot_inspected, .int lot_bad]))] := hD
    generalize H1 = H at hP hS ⊢
    obtain rfl := Option.some.inj hf
    exact W.vret hx hb hr (fun t ht hW => ⟨⟨(), rfl, trivial, by rw [ht]; exact hP, va_K.moved hW.alike hK⟩, hS.F ht⟩) hS.2.2 dX4_inspectTwice_77
  have B69 : (∀ (lot_verdict : Int32) (lot_inspected : Int32) (lot_bad : Int32), fX4_inspectTwice_b69 N lot_size lot_findings lot_verdict lot_inspected lot_bad = some r → ∀ (H : Heap) (locs : List Loc), va_P X.1 vwCl [(a_lot, .inr (2, [.int lot_order, .int lot_size, .long lot_findings, .int lot_verdict, .int lot_state, .int lot_inspected, .int lot_bad]))] H → va_D A [(a_lot, .inr (2, [.int lot_order, .int lot_size, .long lot_findings, .int lot_verdict, .int lot_state, .int lot_inspected, .int lot_bad]))] → va_S A s.heap H locs → ∀ ls : Array Slot, lv_has ls 5 [] → W p l e (headSpec wsX4_inspectTwice rmX4_inspectTwice).room s m (([.ref a_lot, .int p1, .int p2] : List Value).toArray) below meth c H locs 0 0 (MQ below (va_Qv (fun _ : Unit => True) (fun _ t => wPost X [(a_lot, .inr (2, [.int lot_order, .int lot_size, .long lot_findings, .int r.1, .int lot_state, .int r.2.1, .int r.2.2]))] t) A) ([.ref a_lot, .int p1, .int p2] : List Value).toArray s 0 0 A) (F0 m 69 ls [.ref a_lot])) := by
    intro lot_verdict lot_inspected lot_bad hf H locs hP hD hS ls hl
    unfold fX4_inspectTwice_b69 at hf
    refine lv_iconst (v := 1) hx hb dX4_inspectTwice_69 (by decide) ?_
    refine lv_goto (tgt := 74) hx hb dX4_inspectTwice_70 (by decide) ?_
    exact B74 1 lot_verdict lot_inspected lot_bad hf H locs hP hD hS ls (lv_sub hl [] rfl)
  have B56 : (∀ (x2 : Int32) (x3 : Int32) (lot_verdict : Int32) (lot_inspected : Int32) (lot_bad : Int32), fX4_inspectTwice_b56 N lot_size lot_findings x2 x3 lot_verdict lot_inspected lot_bad = some r → ∀ (H : Heap) (locs : List Loc), va_P X.1 vwCl [(a_lot, .inr (2, [.int lot_order, .int lot_size, .long lot_findings, .int lot_verdict, .int lot_state, .int lot_inspected, .int lot_bad]))] H → va_D A [(a_lot, .inr (2, [.int lot_order, .int lot_size, .long lot_findings, .int lot_verdict, .int lot_state, .int lot_inspected, .int lot_bad]))] → va_S A s.heap H locs → ∀ ls : Array Slot, lv_has ls 5 [(0, .ref a_lot), (2, .int x2), (3, .int x3)] → W p l e (headSpec wsX4_inspectTwice rmX4_inspectTwice).room s m (([.ref a_lot, .int p1, .int p2] : List Value).toArray) below meth c H locs 0 0 (MQ below (va_Qv (fun _ : Unit => True) (fun _ t => wPost X [(a_lot, .inr (2, [.int lot_order, .int lot_size, .long lot_findings, .int r.1, .int lot_state, .int r.2.1, .int r.2.2]))] t) A) ([.ref a_lot, .int p1, .int p2] : List Value).toArray s 0 0 A) (F0 m 56 ls [])) := by
    intro x2 x3 lot_verdict lot_inspected lot_bad hf H locs hP hD hS ls hl
    unfold fX4_inspectTwice_b56 at hf
    refine lv_aload_n hx hb dX4_inspectTwice_56 rfl (lv_at hl 0 rfl) ?_
    refine lv_iload_n hx hb dX4_inspectTwice_57 rfl (lv_at hl 2 rfl) ?_
    refine lv_if_ne (tgt := 69) hx hb dX4_inspectTwice_58 (by decide) (fun c_7 => ?_) (fun c_7 => ?_)
    · rw [if_neg c_7] at hf
      exact B69 lot_verdict lot_inspected lot_bad hf H locs hP hD hS ls (lv_sub hl [] rfl)
    · rw [if_pos c_7] at hf
      refine lv_aload_n hx hb dX4_inspectTwice_61 rfl (lv_at hl 0 rfl) ?_
      refine va_get (D := X.1) (ci := 2) (v := .int lot_bad) (C := RX3) (T := TX3) (N := 7) hx hb hts iwX4_inspectTwice_X3 hown hK hP 0 rfl rfl 6 (by decide) (hts _ lkX4_inspectTwice_1) (fun _ h9 => h9) rfl dX4_inspectTwice_62 ?_
      refine lv_iload_n hx hb dX4_inspectTwice_65 rfl (lv_at hl 1 rfl) ?_
      refine lv_icmp_gt (tgt := 73) hx hb dX4_inspectTwice_66 (by decide) (fun c_8 => ?_) (fun c_8 => ?_)
      · rw [if_pos c_8] at hf
        refine lv_iconst (v := 0) hx hb dX4_inspectTwice_73 (by decide) ?_
        exact B74 0 lot_verdict lot_inspected lot_bad hf H locs hP hD hS ls (lv_sub hl [] rfl)
      · rw [if_neg c_8] at hf
        exact B69 lot_verdict lot_inspected lot_bad hf H locs hP hD hS ls (lv_sub hl [] rfl)
  have B20 : (∀ (x1 : Int32) (x2 : Int32) (y0 : Int32) (lot_verdict : Int32) (lot_inspected : Int32) (lot_bad : Int32), fX4_inspectTwice_b20 N lot_size lot_findings x1 x2 y0 lot_verdict lot_inspected lot_bad = some r → ∀ (H : Heap) (locs : List Loc), va_P X.1 vwCl [(a_lot, .inr (2, [.int lot_order, .int lot_size, .long lot_findings, .int lot_verdict, .int lot_state, .int lot_inspected, .int lot_bad]))] H → va_D A [(a_lot, .inr (2, [.int lot_order, .int lot_size, .long lot_findings, .int lot_verdict, .int lot_state, .int lot_inspected, .int lot_bad]))] → va_S A s.heap H locs → ∀ ls : Array Slot, lv_has ls 5 [(0, .ref a_lot), (1, .int x1), (2, .int x2)] → W p l e (headSpec wsX4_inspectTwice rmX4_inspectTwice).room s m (([.ref a_lot, .int p1, .int p2] : List Value).toArray) below meth c H locs 0 0 (MQ below (va_Qv (fun _ : Unit => True) (fun _ t => wPost X [(a_lot, .inr (2, [.int lot_order, .int lot_size, .long lot_findings, .int r.1, .int lot_state, .int r.2.1, .int r.2.2]))] t) A) ([.ref a_lot, .int p1, .int p2] : List Value).toArray s 0 0 A) (F0 m 20 ls [.int y0])) := by
    intro x1 x2 y0 lot_verdict lot_inspected lot_bad hf H locs hP hD hS ls hl
    unfold fX4_inspectTwice_b20 at hf
    refine lv_istore_n (lv' := [(3, .int y0), (0, .ref a_lot), (1, .int x1), (2, .int x2)]) hx hb dX4_inspectTwice_20 rfl hl (by decide) rfl (fun ls hl => ?_)
    refine lv_iload_n hx hb dX4_inspectTwice_21 rfl (lv_at hl 0 rfl) ?_
    refine lv_if_ne (tgt := 56) hx hb dX4_inspectTwice_22 (by decide) (fun c_1 => ?_) (fun c_1 => ?_)
    · rw [if_neg c_1] at hf
      exact B56 x2 y0 lot_verdict lot_inspected lot_bad hf H locs hP hD hS ls (lv_sub hl [1, 3, 0] rfl)
    · rw [if_pos c_1] at hf
      refine lv_aload_n hx hb dX4_inspectTwice_25 rfl (lv_at hl 1 rfl) ?_
      refine va_get (D := X.1) (ci := 2) (v := .int lot_bad) (C := RX3) (T := TX3) (N := 7) hx hb hts iwX4_inspectTwice_X3 hown hK hP 0 rfl rfl 6 (by decide) (hts _ lkX4_inspectTwice_1) (fun _ h9 => h9) rfl dX4_inspectTwice_26 ?_
      refine lv_iload_n hx hb dX4_inspectTwice_29 rfl (lv_at hl 3 rfl) ?_
      refine lv_icmp_gt (tgt := 56) hx hb dX4_inspectTwice_30 (by decide) (fun c_2 => ?_) (fun c_2 => ?_)
      · rw [if_pos c_2] at hf
        exact B56 x2 y0 lot_verdict lot_inspected lot_bad hf H locs hP hD hS ls (lv_sub hl [1, 3, 0] rfl)
      · rw [if_neg c_2] at hf
        refine lv_iconst (v := 2) hx hb dX4_inspectTwice_33 (by decide) ?_
        refine lv_iload_n hx hb dX4_inspectTwice_34 rfl (lv_at hl 2 rfl) ?_
        refine lv_imul hx hb dX4_inspectTwice_35 ?_
        refine lv_aload_n hx hb dX4_inspectTwice_36 rfl (lv_at hl 1 rfl) ?_
        refine va_get (D := X.1) (ci := 2) (v := .int lot_size) (C := RX3) (T := TX3) (N := 7) hx hb hts iwX4_inspectTwice_X3 hown hK hP 0 rfl rfl 1 (by decide) (hts _ lkX4_inspectTwice_2) (fun _ h9 => h9) rfl dX4_inspectTwice_37 ?_
        refine lv_bipush (v := 50) hx hb dX4_inspectTwice_40 (by decide) ?_
        refine va_mmin hx hb (by rw [hml]; exact hl.1.symm) hown (hts _ lkX4_inspectTwice_3) (hts _ lkX4_inspectTwice_4) (hts _ lkX4_inspectTwice_5) (hts _ lkX4_inspectTwice_6) (Nat.le_of_ble_eq_true rfl) (Nat.le_of_ble_eq_true rfl) (Nat.zero_le _) (Nat.zero_le _) dX4_inspectTwice_42 ?_
        refine va_mmin hx hb (by rw [hml]; exact hl.1.symm) hown (hts _ lkX4_inspectTwice_3) (hts _ lkX4_inspectTwice_4) (hts _ lkX4_inspectTwice_5) (hts _ lkX4_inspectTwice_6) (Nat.le_of_ble_eq_true rfl) (Nat.le_of_ble_eq_true rfl) (Nat.zero_le _) (Nat.zero_le _) dX4_inspectTwice_45 ?_
        obtain ⟨z_3, e_4, hf⟩ := bind_some hf
        refine lv_eqi (Option.some.inj e_4) ?_
        refine lv_istore (lv' := [(4, .int z_3), (3, .int y0), (0, .ref a_lot), (1, .int x1), (2, .int x2)]) hx hb dX4_inspectTwice_48 hl (by decide) rfl (fun ls hl => ?_)
        refine lv_aload_n hx hb dX4_inspectTwice_50 rfl (lv_at hl 2 rfl) ?_
        refine lv_iload hx hb dX4_inspectTwice_51 (lv_at hl 0 rfl) ?_
        obtain ⟨r_5, e_6, hf⟩ := bind_some hf
        have hFc := va_free (wc := [(a_lot, .inr (2, [.int lot_order, .int lot_size, .long lot_findings, .int lot_verdict, .int lot_state, .int lot_inspected, .int lot_bad]))]) hD hS hA [0] rfl
        refine va_callv (va_runV (As := [.int z_3]) (rest := []) ⟨hx, hb, hml, hown, hts⟩ (mX3_inspectFirst l X N a_lot H.size lot_order lot_size lot_findings lot_verdict lot_state lot_inspected lot_bad z_3 r_5 e_6) (cwV 1 hts gX4_inspectTwice_X3_inspectFirst rfl rfl rfl (by decide +kernel) ⟨Nat.le_of_ble_eq_true rfl, Nat.le_of_ble_eq_true rfl⟩) (wPreV hK hP hD hSt hS hFc [0] (by decide) rfl rfl 0 rfl rfl) rfl rfl hl.1 rfl (lv_room (Nat.le_of_ble_eq_true rfl)) dX4_inspectTwice_53 ⟨Nat.zero_le _, Nat.zero_le _⟩) hS (fun q _ h => hFc q h) hFc (fun u t H1 locs ht hvm hw hB hz1 hk1 hS => ?_)
        have hP1 := hB.1
        rw [ht] at hP1
        obtain ⟨hP, hD⟩ := wj hP hD [0] (wc := [(a_lot, .inr (2, [.int lot_order, .int lot_size, .long lot_findings, .int lot_verdict, .int lot_state, .int lot_inspected, .int lot_bad]))]) (w1 := [(a_lot, .inr (2, [.int lot_order, .int lot_size, .long lot_findings, .int lot_verdict, .int lot_state, .int r_5.1, .int r_5.2]))]) rfl rfl hk1 hP1
        have hP : va_P X.1 vwCl [(a_lot, .inr (2, [.int lot_order, .int lot_size, .long lot_findings, .int lot_verdict, .int lot_state, .int r_5.1, .int r_5.2]))] H1 := hP
        have hD : va_D A [(a_lot, .inr (2, [.int lot_order, .int lot_size, .long lot_findings, .int lot_verdict, .int lot_state, .int r_5.1, .int r_5.2]))] := hD
        generalize H1 = H at hP hS ⊢
        exact B56 x2 y0 lot_verdict r_5.1 r_5.2 hf H locs hP hD hS ls (lv_sub hl [2, 4, 1] rfl)
  have hf := hf0
  unfold fX4_inspectTwice at hf
  obtain ⟨H, hHe⟩ : ∃ z, z = s.heap := ⟨_, rfl⟩
  have hP : va_P X.1 vwCl [(a_lot, .inr (2, [.int lot_order, .int lot_size, .long lot_findings, .int lot_verdict, .int lot_state, .int lot_inspected, .int lot_bad]))] H := by rw [hHe]; exact hP
  have hS : va_S A s.heap H [] := by rw [hHe]; exact va_S.rf
  rw [← hHe]
  obtain ⟨locs, hLo⟩ : ∃ z : List Loc, z = [] := ⟨_, rfl⟩
  rw [← hLo] at hS ⊢
  refine lv_aload_n hx hb dX4_inspectTwice_0 rfl (lv_at hl 0 rfl) ?_
  refine lv_iload_n hx hb dX4_inspectTwice_1 rfl (lv_at hl 1 rfl) ?_
  obtain ⟨r_11, e_12, hf⟩ := bind_some hf
  have hFc := va_free (wc := [(a_lot, .inr (2, [.int lot_order, .int lot_size, .long lot_findings, .int lot_verdict, .int lot_state, .int lot_inspected, .int lot_bad]))]) hD hS hA [0] rfl
  refine va_callv (va_runV (As := [.int p1]) (rest := []) ⟨hx, hb, hml, hown, hts⟩ (mX3_inspectFirst l X N a_lot H.size lot_order lot_size lot_findings lot_verdict lot_state lot_inspected lot_bad p1 r_11 e_12) (cwV 1 hts gX4_inspectTwice_X3_inspectFirst rfl rfl rfl (by decide +kernel) ⟨Nat.le_of_ble_eq_true rfl, Nat.le_of_ble_eq_true rfl⟩) (wPreV hK hP hD hSt hS hFc [0] (by decide) rfl rfl 0 rfl rfl) rfl rfl hl.1 rfl (lv_room (Nat.le_of_ble_eq_true rfl)) dX4_inspectTwice_2 ⟨Nat.zero_le _, Nat.zero_le _⟩) hS (fun q _ h => hFc q h) hFc (fun u t H1 locs ht hvm hw hB hz1 hk1 hS => ?_)
  have hP1 := hB.1
  rw [ht] at hP1
  obtain ⟨hP, hD⟩ := wj hP hD [0] (wc := [(a_lot, .inr (2, [.int lot_order, .int lot_size, .long lot_findings, .int lot_verdict, .int lot_state, .int lot_inspected, .int lot_bad]))]) (w1 := [(a_lot, .inr (2, [.int lot_order, .int lot_size, .long lot_findings, .int lot_verdict, .int lot_state, .int r_11.1, .int r_11.2]))]) rfl rfl hk1 hP1
  have hP : va_P X.1 vwCl [(a_lot, .inr (2, [.int lot_order, .int lot_size, .long lot_findings, .int lot_verdict, .int lot_state, .int r_11.1, .int r_11.2]))] H1 := hP
  have hD : va_D A [(a_lot, .inr (2, [.int lot_order, .int lot_size, .long lot_findings, .int lot_verdict, .int lot_state, .int r_11.1, .int r_11.2]))] := hD
  generalize H1 = H at hP hS ⊢
  refine lv_aload_n hx hb dX4_inspectTwice_5 rfl (lv_at hl 0 rfl) ?_
  refine va_get (D := X.1) (ci := 2) (v := .int r_11.2) (C := RX3) (T := TX3) (N := 7) hx hb hts iwX4_inspectTwice_X3 hown hK hP 0 rfl rfl 6 (by decide) (hts _ lkX4_inspectTwice_1) (fun _ h9 => h9) rfl dX4_inspectTwice_6 ?_
  refine lv_iload_n hx hb dX4_inspectTwice_9 rfl (lv_at hl 2 rfl) ?_
  refine lv_iconst (v := 2) hx hb dX4_inspectTwice_10 (by decide) ?_
  refine lv_isub hx hb dX4_inspectTwice_11 ?_
  refine lv_icmp_gt (tgt := 19) hx hb dX4_inspectTwice_12 (by decide) (fun c_13 => ?_) (fun c_13 => ?_)
  · rw [if_pos c_13] at hf
    refine lv_iconst (v := 0) hx hb dX4_inspectTwice_19 (by decide) ?_
    exact B20 p1 p2 0 lot_verdict r_11.1 r_11.2 hf H locs hP hD hS ls (lv_sub hl [0, 1, 2] rfl)
  · rw [if_neg c_13] at hf
    refine lv_iconst (v := 1) hx hb dX4_inspectTwice_15 (by decide) ?_
    refine lv_goto (tgt := 20) hx hb dX4_inspectTwice_16 (by decide) ?_
    exact B20 p1 p2 1 lot_verdict r_11.1 r_11.2 hf H locs hP hD hS ls (lv_sub hl [0, 1, 2] rfl)
def rmX4_inspect : Room := { frames := 3, cells := 0, slots := 0, locals := 70 }
theorem iwX4_inspect_X3 : ∀ w ∈ wsX30, w ∈ wsX4_inspect := fun w h => List.mem_cons_of_mem _ (List.mem_append_left _ (List.mem_append_right _ (h)))
theorem iwX4_inspect_X4 : ∀ w ∈ wsX40, w ∈ wsX4_inspect := fun w h => List.mem_cons_of_mem _ (List.mem_append_right _ (h))
theorem lkX4_inspect_1 : Cond.fieldLink RX4 32 "InspectionOffice$Lot" "size" "I" ∈ wsX4_inspect := List.mem_of_getElem? (i := 1) rfl
theorem lkX4_inspect_2 : Cond.fieldLink RX4 44 "InspectionOffice$Plans" "twice" "Z" ∈ wsX4_inspect := List.mem_of_getElem? (i := 2) rfl
theorem lkX4_inspect_3 : Cond.fieldLink RX4 56 "InspectionOffice$Lot" "bad" "I" ∈ wsX4_inspect := List.mem_of_getElem? (i := 3) rfl
set_option maxHeartbeats 4000000 in
set_option maxRecDepth 100000 in
theorem mX4_inspect (l : Launch) (X : cxT) (N : Nat) (a_plans a_lot : Nat) (sz : Nat) (plans_level : Int32) (plans_quality : Int32) (plans_twice : Int32) (lot_order : Int32) (lot_size : Int32) (lot_findings : Int64) (lot_verdict : Int32) (lot_state : Int32) (lot_inspected : Int32) (lot_bad : Int32) (p2 : Int32) (r : Int32 × Int32 × Int32) (hf0 : fX4_inspect N p2 plans_level plans_quality plans_twice lot_size lot_findings lot_verdict lot_inspected lot_bad = some r) : Met l yX4_inspect wsX4_inspect rmX4_inspect (wPre X sz [(a_plans, .inr (3, [.int plans_level, .int plans_quality, .int plans_twice])), (a_lot, .inr (2, [.int lot_order, .int lot_size, .long lot_findings, .int lot_verdict, .int lot_state, .int lot_inspected, .int lot_bad]))] [.ref a_plans, .ref a_lot, .int p2]) (va_Qv (fun _ : Unit => True) (fun _ t => wPost X [(a_plans, .inr (3, [.int plans_level, .int plans_quality, .int plans_twice])), (a_lot, .inr (2, [.int lot_order, .int lot_size, .long lot_findings, .int r.1, .int lot_state, .int r.2.1, .int r.2.2]))] t) (va_A [(a_plans, .inr (3, [.int plans_level, .int plans_quality, .int plans_twice])), (a_lot, .inr (2, [.int lot_order, .int lot_size, .long lot_findings, .int lot_verdict, .int lot_state, .int lot_inspected, .int lot_bad]))] sz)) 0 0 (va_A [(a_plans, .inr (3, [.int plans_level, .int plans_quality, .int plans_twice])), (a_lot, .inr (2, [.int lot_order, .int lot_size, .long lot_findings, .int lot_verdict, .int lot_state, .int lot_inspected, .int lot_bad]))] sz) := by
  refine Met.ofW (cc := cX4_inspect) (maxL := 5) (ret := none) (by decide) rfl ?_
  intro p e s m args below meth c s₁ B hml hv
  obtain ⟨rfl, hsz, hP, hK, hD0, hSt⟩ := hv
  have hx := B.exec
  have hb := B.bytes
  have hr := B.returns
  have hts := atoms_spec (ws := wsX4_inspect) B.pre
  have hown : s.vm.findClass RX4 = some m.cls := findClass_of_methodNamed B.named
  have hlocks := B.notSynchronized
  subst hsz
  have hD := hD0.self (sz := s.heap.size)
  generalize hAe : va_A [(a_plans, .inr (3, [.int plans_level, .int plans_quality, .int plans_twice])), (a_lot, .inr (2, [.int lot_order, .int lot_size, .long lot_findings, .int lot_verdict, .int lot_state, .int lot_inspected, .int lot_bad]))] s.heap.size = A at hD hSt ⊢
  have hA : ∀ q : Nat, s.heap.size ≤ q → A q := fun q h => by rw [← hAe]; exact Or.inr h
  have hS : va_S A s.heap s.heap [] := va_S.rf
  have hP : va_P X.1 vwCl [(a_plans, .inr (3, [.int plans_level, .int plans_quality, .int plans_twice])), (a_lot, .inr (2, [.int lot_order, .int lot_size, .long lot_findings, .int lot_verdict, .int lot_state, .int lot_inspected, .int lot_bad]))] s.heap := hP
  have hl := lv_entry ([.ref a_plans, .ref a_lot, .int p2]) (n := 5) (Nat.le_of_ble_eq_true rfl)
  rw [lg_entry_eq]
  generalize (lg_sl ([.ref a_plans, .ref a_lot, .int p2]) ++ List.replicate (5 - (lg_sl ([.ref a_plans, .ref a_lot, .int p2])).length) Slot.unset).toArray = ls at hl ⊢
  have hl : lv_has ls 5 [(0, .ref a_plans), (1, .ref a_lot), (2, .int p2)] := hl
  have B84 : (∀ (y1 : Int32) (lot_verdict : Int32) (lot_inspected : Int32) (lot_bad : Int32), fX4_inspect_b84 N plans_level plans_quality plans_twice lot_size lot_findings y1 lot_verdict lot_inspected lot_bad = some r → ∀ (H : Heap) (locs : List Loc), va_P X.1 vwCl [(a_plans, .inr (3, [.int plans_level, .int plans_quality, .int plans_twice])), (a_lot, .inr (2, [.int lot_order, .int lot_size, .long lot_findings, .int lot_verdict, .int lot_state, .int lot_inspected, .int lot_bad]))] H → va_D A [(a_plans, .inr (3, [.int plans_level, .int plans_quality, .int plans_twice])), (a_lot, .inr (2, [.int lot_order, .int lot_size, .long lot_findings, .int lot_verdict, .int lot_state, .int lot_inspected, .int lot_bad]))] → va_S A s.heap H locs → ∀ ls : Array Slot, lv_has ls 5 [] → W p l e (headSpec wsX4_inspect rmX4_inspect).room s m (([.ref a_plans, .ref a_lot, .int p2] : List Value).toArray) below meth c H locs 0 0 (MQ below (va_Qv (fun _ : Unit => True) (fun _ t => wPost X [(a_plans, .inr (3, [.int plans_level, .int plans_quality, .int plans_twice])), (a_lot, .inr (2, [.int lot_order, .int lot_size, .long lot_findings, .int r.1, .int lot_state, .int r.2.1, .int r.2.2]))] t) A) ([.ref a_plans, .ref a_lot, .int p2] : List Value).toArray s 0 0 A) (F0 m 84 ls [.int y1, .ref a_lot])) := by
    intro y1 lot_verdict lot_inspected lot_bad hf H locs hP hD hS ls hl
    unfold fX4_inspect_b84 at hf
    obtain ⟨r_5, e_6, hf⟩ := bind_some hf
    have hFc := va_free (wc := [(a_lot, .inr (2, [.int lot_order, .int lot_size, .long lot_findings, .int lot_verdict, .int lot_state, .int lot_inspected, .int lot_bad]))]) hD hS hA [1] rfl
    refine va_callv (va_runV (As := [.int y1]) (rest := []) ⟨hx, hb, hml, hown, hts⟩ (mX3_judge l X N a_lot H.size lot_order lot_size lot_findings lot_verdict lot_state lot_inspected lot_bad y1 r_5 e_6) (cwV 1 hts gX4_inspect_X3_judge rfl rfl rfl (by decide +kernel) ⟨Nat.le_of_ble_eq_true rfl, Nat.le_of_ble_eq_true rfl⟩) (wPreV hK hP hD hSt hS hFc [1] (by decide) rfl rfl 1 rfl rfl) rfl rfl hl.1 rfl (lv_room (Nat.le_of_ble_eq_true rfl)) dX4_inspect_84 ⟨Nat.zero_le _, Nat.zero_le _⟩) hS (fun q _ h => hFc q h) hFc (fun u t H1 locs ht hvm hw hB hz1 hk1 hS => ?_)
    have hP1 := hB.1
    rw [ht] at hP1
    obtain ⟨hP, hD⟩ := wj hP hD [1] (wc := [(a_lot, .inr (2, [.int lot_order, .int lot_size, .long lot_findings, .int lot_verdict, .int lot_state, .int lot_inspected, .int lot_bad]))]) (w1 := [(a_lot, .inr (2, [.int lot_order, .int lot_size, .long lot_findings, .int r_5, .int lot_state, .int lot_inspected, .int lot_bad]))]) rfl rfl hk1 hP1
    have hP : va_P X.1 vwCl [(a_plans, .inr (3, [.int plans_level, .int plans_quality, .int plans_twice])), (a_lot, .inr (2, [.int lot_order, .int lot_size, .long lot_findings, .int r_5, .int lot_state, .int lot_inspected, .int lot_bad]))] H1 := hP
    have hD : va_D A [(a_plans, .inr (3, [.int plans_level, .int plans_quality, .int plans_twice])), (a_lot, .inr (2, [.int lot_order, .int lot_size, .long lot_findings, .int r_5, .int lot_state, .int lot_inspected, .int lot_bad]))] := hD
    generalize H1 = H at hP hS ⊢
    obtain rfl := Option.some.inj hf
    exact W.vret hx hb hr (fun t ht hW => ⟨⟨(), rfl, trivial, by rw [ht]; exact hP, va_K.moved hW.alike hK⟩, hS.F ht⟩) hS.2.2 dX4_inspect_87
  have B76 : (∀ (y1 : Int32) (y2 : Int32) (lot_verdict : Int32) (lot_inspected : Int32) (lot_bad : Int32), fX4_inspect_b76 N plans_level plans_quality plans_twice lot_size lot_findings y1 y2 lot_verdict lot_inspected lot_bad = some r → ∀ (H : Heap) (locs : List Loc), va_P X.1 vwCl [(a_plans, .inr (3, [.int plans_level, .int plans_quality, .int plans_twice])), (a_lot, .inr (2, [.int lot_order, .int lot_size, .long lot_findings, .int lot_verdict, .int lot_state, .int lot_inspected, .int lot_bad]))] H → va_D A [(a_plans, .inr (3, [.int plans_level, .int plans_quality, .int plans_twice])), (a_lot, .inr (2, [.int lot_order, .int lot_size, .long lot_findings, .int lot_verdict, .int lot_state, .int lot_inspected, .int lot_bad]))] → va_S A s.heap H locs → ∀ ls : Array Slot, lv_has ls 5 [] → W p l e (headSpec wsX4_inspect rmX4_inspect).room s m (([.ref a_plans, .ref a_lot, .int p2] : List Value).toArray) below meth c H locs 0 0 (MQ below (va_Qv (fun _ : Unit => True) (fun _ t => wPost X [(a_plans, .inr (3, [.int plans_level, .int plans_quality, .int plans_twice])), (a_lot, .inr (2, [.int lot_order, .int lot_size, .long lot_findings, .int r.1, .int lot_state, .int r.2.1, .int r.2.2]))] t) A) ([.ref a_plans, .ref a_lot, .int p2] : List Value).toArray s 0 0 A) (F0 m 76 ls [.int y2, .int y1, .ref a_lot])) := by
    intro y1 y2 lot_verdict lot_inspected lot_bad hf H locs hP hD hS ls hl
    unfold fX4_inspect_b76 at hf
    refine lv_icmp_gt (tgt := 83) hx hb dX4_inspect_76 (by decide) (fun c_4 => ?_) (fun c_4 => ?_)
    · rw [if_pos c_4] at hf
      refine lv_iconst (v := 0) hx hb dX4_inspect_83 (by decide) ?_
      exact B84 0 lot_verdict lot_inspected lot_bad hf H locs hP hD hS ls (lv_sub hl [] rfl)
    · rw [if_neg c_4] at hf
      refine lv_iconst (v := 1) hx hb dX4_inspect_79 (by decide) ?_
      refine lv_goto (tgt := 84) hx hb dX4_inspect_80 (by decide) ?_
      exact B84 1 lot_verdict lot_inspected lot_bad hf H locs hP hD hS ls (lv_sub hl [] rfl)
  have B52 : (∀ (x2 : Int32) (x3 : Int32) (x4 : Int32) (lot_verdict : Int32) (lot_inspected : Int32) (lot_bad : Int32), fX4_inspect_b52 N plans_level plans_quality plans_twice lot_size lot_findings x2 x3 x4 lot_verdict lot_inspected lot_bad = some r → ∀ (H : Heap) (locs : List Loc), va_P X.1 vwCl [(a_plans, .inr (3, [.int plans_level, .int plans_quality, .int plans_twice])), (a_lot, .inr (2, [.int lot_order, .int lot_size, .long lot_findings, .int lot_verdict, .int lot_state, .int lot_inspected, .int lot_bad]))] H → va_D A [(a_plans, .inr (3, [.int plans_level, .int plans_quality, .int plans_twice])), (a_lot, .inr (2, [.int lot_order, .int lot_size, .long lot_findings, .int lot_verdict, .int lot_state, .int lot_inspected, .int lot_bad]))] → va_S A s.heap H locs → ∀ ls : Array Slot, lv_has ls 5 [(1, .ref a_lot), (2, .int x2), (3, .int x3), (4, .int x4)] → W p l e (headSpec wsX4_inspect rmX4_inspect).room s m (([.ref a_plans, .ref a_lot, .int p2] : List Value).toArray) below meth c H locs 0 0 (MQ below (va_Qv (fun _ : Unit => True) (fun _ t => wPost X [(a_plans, .inr (3, [.int plans_level, .int plans_quality, .int plans_twice])), (a_lot, .inr (2, [.int lot_order, .int lot_size, .long lot_findings, .int r.1, .int lot_state, .int r.2.1, .int r.2.2]))] t) A) ([.ref a_plans, .ref a_lot, .int p2] : List Value).toArray s 0 0 A) (F0 m 52 ls [])) := by
    intro x2 x3 x4 lot_verdict lot_inspected lot_bad hf H locs hP hD hS ls hl
    unfold fX4_inspect_b52 at hf
    refine lv_aload_n hx hb dX4_inspect_52 rfl (lv_at hl 0 rfl) ?_
    refine lv_iload_n hx hb dX4_inspect_53 rfl (lv_at hl 2 rfl) ?_
    obtain ⟨r_1, e_2, hf⟩ := bind_some hf
    have hFc := va_free (wc := [(a_lot, .inr (2, [.int lot_order, .int lot_size, .long lot_findings, .int lot_verdict, .int lot_state, .int lot_inspected, .int lot_bad]))]) hD hS hA [1] rfl
    refine va_callv (va_runV (As := [.int x3]) (rest := []) ⟨hx, hb, hml, hown, hts⟩ (mX3_inspectFirst l X N a_lot H.size lot_order lot_size lot_findings lot_verdict lot_state lot_inspected lot_bad x3 r_1 e_2) (cwV 1 hts gX4_inspect_X3_inspectFirst rfl rfl rfl (by decide +kernel) ⟨Nat.le_of_ble_eq_true rfl, Nat.le_of_ble_eq_true rfl⟩) (wPreV hK hP hD hSt hS hFc [1] (by decide) rfl rfl 1 rfl rfl) rfl rfl hl.1 rfl (lv_room (Nat.le_of_ble_eq_true rfl)) dX4_inspect_54 ⟨Nat.zero_le _, Nat.zero_le _⟩) hS (fun q _ h => hFc q h) hFc (fun u t H1 locs ht hvm hw hB hz1 hk1 hS => ?_)
    have hP1 := hB.1
    rw [ht] at hP1
    obtain ⟨hP, hD⟩ := wj hP hD [1] (wc := [(a_lot, .inr (2, [.int lot_order, .int lot_size, .long lot_findings, .int lot_verdict, .int lot_state, .int lot_inspected, .int lot_bad]))]) (w1 := [(a_lot, .inr (2, [.int lot_order, .int lot_size, .long lot_findings, .int lot_verdict, .int lot_state, .int r_1.1, .int r_1.2]))]) rfl rfl hk1 hP1
    have hP : va_P X.1 vwCl [(a_plans, .inr (3, [.int plans_level, .int plans_quality, .int plans_twice])), (a_lot, .inr (2, [.int lot_order, .int lot_size, .long lot_findings, .int lot_verdict, .int lot_state, .int r_1.1, .int r_1.2]))] H1 := hP
    have hD : va_D A [(a_plans, .inr (3, [.int plans_level, .int plans_quality, .int plans_twice])), (a_lot, .inr (2, [.int lot_order, .int lot_size, .long lot_findings, .int lot_verdict, .int lot_state, .int r_1.1, .int r_1.2]))] := hD
    generalize H1 = H at hP hS ⊢
    refine lv_aload_n hx hb dX4_inspect_57 rfl (lv_at hl 0 rfl) ?_
    refine lv_aload_n hx hb dX4_inspect_58 rfl (lv_at hl 0 rfl) ?_
    refine va_get (D := X.1) (ci := 2) (v := .int r_1.2) (C := RX3) (T := TX3) (N := 7) hx hb hts iwX4_inspect_X3 hown hK hP 1 rfl rfl 6 (by decide) (hts _ lkX4_inspect_3) (fun _ h9 => h9) rfl dX4_inspect_59 ?_
    refine lv_iload_n hx hb dX4_inspect_62 rfl (lv_at hl 1 rfl) ?_
    refine lv_iconst (v := 2) hx hb dX4_inspect_63 (by decide) ?_
    refine lv_icmp_ne (tgt := 74) hx hb dX4_inspect_64 (by decide) (fun c_3 => ?_) (fun c_3 => ?_)
    · rw [if_neg c_3] at hf
      refine lv_iload hx hb dX4_inspect_74 (lv_at hl 3 rfl) ?_
      exact B76 r_1.2 x4 lot_verdict r_1.1 r_1.2 hf H locs hP hD hS ls (lv_sub hl [] rfl)
    · rw [if_pos c_3] at hf
      refine lv_iload hx hb dX4_inspect_67 (lv_at hl 3 rfl) ?_
      refine lv_iconst (v := 1) hx hb dX4_inspect_69 (by decide) ?_
      refine lv_iadd hx hb dX4_inspect_70 ?_
      refine lv_goto (tgt := 76) hx hb dX4_inspect_71 (by decide) ?_
      exact B76 r_1.2 (x4 + 1) lot_verdict r_1.1 r_1.2 hf H locs hP hD hS ls (lv_sub hl [] rfl)
  have hf := hf0
  unfold fX4_inspect at hf
  obtain ⟨H, hHe⟩ : ∃ z, z = s.heap := ⟨_, rfl⟩
  have hP : va_P X.1 vwCl [(a_plans, .inr (3, [.int plans_level, .int plans_quality, .int plans_twice])), (a_lot, .inr (2, [.int lot_order, .int lot_size, .long lot_findings, .int lot_verdict, .int lot_state, .int lot_inspected, .int lot_bad]))] H := by rw [hHe]; exact hP
  have hS : va_S A s.heap H [] := by rw [hHe]; exact va_S.rf
  rw [← hHe]
  obtain ⟨locs, hLo⟩ : ∃ z : List Loc, z = [] := ⟨_, rfl⟩
  rw [← hLo] at hS ⊢
  refine lv_aload_n hx hb dX4_inspect_0 rfl (lv_at hl 0 rfl) ?_
  refine lv_aload_n hx hb dX4_inspect_1 rfl (lv_at hl 1 rfl) ?_
  refine va_get (D := X.1) (ci := 2) (v := .int lot_size) (C := RX3) (T := TX3) (N := 7) hx hb hts iwX4_inspect_X3 hown hK hP 1 rfl rfl 1 (by decide) (hts _ lkX4_inspect_1) (fun _ h9 => h9) rfl dX4_inspect_2 ?_
  refine lv_iload_n hx hb dX4_inspect_5 rfl (lv_at hl 2 rfl) ?_
  obtain ⟨r_7, e_8, hf⟩ := bind_some hf
  refine vp_callSi (W.runV (As := [.int lot_size, .int p2]) (rest := []) ⟨hx, hb, hml, hown, hts⟩ (mX4_sampleUnder l X N a_plans plans_level plans_quality plans_twice lot_size p2 r_7 e_8) (cwV 2 hts gX4_inspect_X4_sampleUnder rfl rfl rfl (by decide +kernel) ⟨Nat.le_of_ble_eq_true rfl, Nat.le_of_ble_eq_true rfl⟩) (rPreV hK hP hSt hS [0] rfl 0 rfl rfl) rfl rfl hl.1 rfl (lv_room (Nat.le_of_ble_eq_true rfl)) dX4_inspect_6 ⟨Nat.zero_le _, Nat.zero_le _⟩) (fun v9 e9 => ?_)
  rw [e9]
  refine lv_istore_n (lv' := [(3, .int r_7), (0, .ref a_plans), (1, .ref a_lot), (2, .int p2)]) hx hb dX4_inspect_9 rfl hl (by decide) rfl (fun ls hl => ?_)
  refine lv_aload_n hx hb dX4_inspect_10 rfl (lv_at hl 1 rfl) ?_
  refine lv_aload_n hx hb dX4_inspect_11 rfl (lv_at hl 2 rfl) ?_
  refine va_get (D := X.1) (ci := 2) (v := .int lot_size) (C := RX3) (T := TX3) (N := 7) hx hb hts iwX4_inspect_X3 hown hK hP 1 rfl rfl 1 (by decide) (hts _ lkX4_inspect_1) (fun _ h9 => h9) rfl dX4_inspect_12 ?_
  refine lv_iload_n hx hb dX4_inspect_15 rfl (lv_at hl 3 rfl) ?_
  obtain ⟨r_9, e_10, hf⟩ := bind_some hf
  refine vp_callSi (W.runV (As := [.int lot_size, .int p2]) (rest := []) ⟨hx, hb, hml, hown, hts⟩ (mX4_acceptingUnder l X N a_plans plans_level plans_quality plans_twice lot_size p2 r_9 e_10) (cwV 2 hts gX4_inspect_X4_acceptingUnder rfl rfl rfl (by decide +kernel) ⟨Nat.le_of_ble_eq_true rfl, Nat.le_of_ble_eq_true rfl⟩) (rPreV hK hP hSt hS [0] rfl 0 rfl rfl) rfl rfl hl.1 rfl (lv_room (Nat.le_of_ble_eq_true rfl)) dX4_inspect_16 ⟨Nat.zero_le _, Nat.zero_le _⟩) (fun v9 e9 => ?_)
  rw [e9]
  refine lv_istore (lv' := [(4, .int r_9), (3, .int r_7), (0, .ref a_plans), (1, .ref a_lot), (2, .int p2)]) hx hb dX4_inspect_19 hl (by decide) rfl (fun ls hl => ?_)
  refine lv_aload_n hx hb dX4_inspect_21 rfl (lv_at hl 2 rfl) ?_
  refine va_get (D := X.1) (ci := 3) (v := .int plans_twice) (C := RX4) (T := TX4) (N := 3) hx hb hts iwX4_inspect_X4 hown hK hP 0 rfl rfl 2 (by decide) (hts _ lkX4_inspect_2) (fun _ h9 => h9) rfl dX4_inspect_22 ?_
  refine lv_if_eq (tgt := 52) hx hb dX4_inspect_25 (by decide) (fun c_11 => ?_) (fun c_11 => ?_)
  · rw [if_pos c_11] at hf
    exact B52 p2 r_7 r_9 lot_verdict lot_inspected lot_bad hf H locs hP hD hS ls (lv_sub hl [3, 4, 1, 0] rfl)
  · rw [if_neg c_11] at hf
    refine lv_iload_n hx hb dX4_inspect_28 rfl (lv_at hl 4 rfl) ?_
    refine lv_iconst (v := 2) hx hb dX4_inspect_29 (by decide) ?_
    refine lv_icmp_eq (tgt := 52) hx hb dX4_inspect_30 (by decide) (fun c_12 => ?_) (fun c_12 => ?_)
    · rw [if_pos c_12] at hf
      exact B52 p2 r_7 r_9 lot_verdict lot_inspected lot_bad hf H locs hP hD hS ls (lv_sub hl [3, 4, 1, 0] rfl)
    · rw [if_neg c_12] at hf
      refine lv_iload_n hx hb dX4_inspect_33 rfl (lv_at hl 1 rfl) ?_
      refine lv_iconst (v := 5) hx hb dX4_inspect_34 (by decide) ?_
      refine lv_icmp_lt (tgt := 52) hx hb dX4_inspect_35 (by decide) (fun c_13 => ?_) (fun c_13 => ?_)
      · rw [if_pos c_13] at hf
        exact B52 p2 r_7 r_9 lot_verdict lot_inspected lot_bad hf H locs hP hD hS ls (lv_sub hl [3, 4, 1, 0] rfl)
      · rw [if_neg c_13] at hf
        refine lv_aload_n hx hb dX4_inspect_38 rfl (lv_at hl 3 rfl) ?_
        refine lv_iload_n hx hb dX4_inspect_39 rfl (lv_at hl 1 rfl) ?_
        refine lv_iconst (v := 2) hx hb dX4_inspect_40 (by decide) ?_
        refine lv_imul hx hb dX4_inspect_41 ?_
        refine lv_iconst (v := 2) hx hb dX4_inspect_42 (by decide) ?_
        refine lv_iadd hx hb dX4_inspect_43 ?_
        refine lv_iconst (v := 3) hx hb dX4_inspect_44 (by decide) ?_
        refine lv_idiv hx hb dX4_inspect_45 (by decide) ?_
        refine lv_iload hx hb dX4_inspect_46 (lv_at hl 0 rfl) ?_
        obtain ⟨r_14, e_15, hf⟩ := bind_some hf
        have hFc := va_free (wc := [(a_lot, .inr (2, [.int lot_order, .int lot_size, .long lot_findings, .int lot_verdict, .int lot_state, .int lot_inspected, .int lot_bad]))]) hD hS hA [1] rfl
        refine va_callv (va_runS (As := [.ref a_lot, .int (((r_7 * 2) + 2) / 3), .int r_9]) (rest := []) ⟨hx, hb, hml, hown, hts⟩ (mX4_inspectTwice l X N a_lot H.size lot_order lot_size lot_findings lot_verdict lot_state lot_inspected lot_bad (((r_7 * 2) + 2) / 3) r_9 r_14 e_15) (va_cwS 3 hts gX4_inspect_X4_inspectTwice rfl rfl rfl (by decide +kernel) ⟨Nat.le_of_ble_eq_true rfl, Nat.le_of_ble_eq_true rfl⟩) (wPreS hK hP hD hSt hS hFc [1] (by decide) rfl rfl) rfl rfl hl.1 rfl (lv_room (Nat.le_of_ble_eq_true rfl)) dX4_inspect_48 ⟨Nat.zero_le _, Nat.zero_le _⟩) hS (fun q _ h => hFc q h) hFc (fun u t H1 locs ht hvm hw hB hz1 hk1 hS => ?_)
        have hP1 := hB.1
        rw [ht] at hP1
        obtain ⟨hP, hD⟩ := wj hP hD [1] (wc := [(a_lot, .inr (2, [.int lot_order, .int lot_size, .long lot_findings, .int lot_verdict, .int lot_state, .int lot_inspected, .int lot_bad]))]) (w1 := [(a_lot, .inr (2, [.int lot_order, .int lot_size, .long lot_findings, .int r_14.1, .int lot_state, .int r_14.2.1, .int r_14.2.2]))]) rfl rfl hk1 hP1
        have hP : va_P X.1 vwCl [(a_plans, .inr (3, [.int plans_level, .int plans_quality, .int plans_twice])), (a_lot, .inr (2, [.int lot_order, .int lot_size, .long lot_findings, .int r_14.1, .int lot_state, .int r_14.2.1, .int r_14.2.2]))] H1 := hP
        have hD : va_D A [(a_plans, .inr (3, [.int plans_level, .int plans_quality, .int plans_twice])), (a_lot, .inr (2, [.int lot_order, .int lot_size, .long lot_findings, .int r_14.1, .int lot_state, .int r_14.2.1, .int r_14.2.2]))] := hD
        generalize H1 = H at hP hS ⊢
        obtain rfl := Option.some.inj hf
        exact W.vret hx hb hr (fun t ht hW => ⟨⟨(), rfl, trivial, by rw [ht]; exact hP, va_K.moved hW.alike hK⟩, hS.F ht⟩) hS.2.2 dX4_inspect_51
def rmX2_clear : Room := { frames := 0, cells := 0, slots := 0, locals := 0 }
theorem iwX2_clear_X2 : ∀ w ∈ wsX20, w ∈ wsX2_clear := fun w h => List.mem_cons_of_mem _ (List.mem_append_right _ (h))
theorem lkX2_clear_1 : Cond.fieldLink RX2 19 "InspectionOffice$History" "length" "I" ∈ wsX2_clear := List.mem_of_getElem? (i := 1) rfl
set_option maxHeartbeats 4000000 in
set_option maxRecDepth 100000 in
theorem mX2_clear (l : Launch) (X : cxT) (N : Nat) (a_hist a_hr a_hb : Nat) (sz : Nat) (hist_length : Int32) (hr_f : Nat → Int32) (hb_f : Nat → Int32) (r : Int32) (hf0 : fX2_clear N hist_length = some r) : Met l yX2_clear wsX2_clear rmX2_clear (wPre X sz [(a_hist, .inr (1, [.ref a_hr, .ref a_hb, .int hist_length])), (a_hr, .inl (X.2 2, 60, .inl hr_f)), (a_hb, .inl (X.2 0, 60, .inl hb_f))] [.ref a_hist]) (va_Qv (fun _ : Unit => True) (fun _ t => wPost X [(a_hist, .inr (1, [.ref a_hr, .ref a_hb, .int r])), (a_hr, .inl (X.2 2, 60, .inl hr_f)), (a_hb, .inl (X.2 0, 60, .inl hb_f))] t) (va_A [(a_hist, .inr (1, [.ref a_hr, .ref a_hb, .int hist_length])), (a_hr, .inl (X.2 2, 60, .inl hr_f)), (a_hb, .inl (X.2 0, 60, .inl hb_f))] sz)) 0 0 (va_A [(a_hist, .inr (1, [.ref a_hr, .ref a_hb, .int hist_length])), (a_hr, .inl (X.2 2, 60, .inl hr_f)), (a_hb, .inl (X.2 0, 60, .inl hb_f))] sz) := by
  refine Met.ofW (cc := cX2_clear) (maxL := 1) (ret := none) (by decide) rfl ?_
  intro p e s m args below meth c s₁ B hml hv
  obtain ⟨rfl, hsz, hP, hK, hD0, hSt⟩ := hv
  have hx := B.exec
  have hb := B.bytes
  have hr := B.returns
  have hts := atoms_spec (ws := wsX2_clear) B.pre
  have hown : s.vm.findClass RX2 = some m.cls := findClass_of_methodNamed B.named
  have hlocks := B.notSynchronized
  subst hsz
  have hD := hD0.self (sz := s.heap.size)
  generalize hAe : va_A [(a_hist, .inr (1, [.ref a_hr, .ref a_hb, .int hist_length])), (a_hr, .inl (X.2 2, 60, .inl hr_f)), (a_hb, .inl (X.2 0, 60, .inl hb_f))] s.heap.size = A at hD hSt ⊢
  have hA : ∀ q : Nat, s.heap.size ≤ q → A q := fun q h => by rw [← hAe]; exact Or.inr h
  have hS : va_S A s.heap s.heap [] := va_S.rf
  have hP : va_P X.1 vwCl [(a_hist, .inr (1, [.ref a_hr, .ref a_hb, .int hist_length])), (a_hr, .inl (X.2 2, 60, .inl hr_f)), (a_hb, .inl (X.2 0, 60, .inl hb_f))] s.heap := hP
  have hl := lv_entry ([.ref a_hist]) (n := 1) (Nat.le_of_ble_eq_true rfl)
  rw [lg_entry_eq]
  generalize (lg_sl ([.ref a_hist]) ++ List.replicate (1 - (lg_sl ([.ref a_hist])).length) Slot.unset).toArray = ls at hl ⊢
  have hl : lv_has ls 1 [(0, .ref a_hist)] := hl
  have hf := hf0
  unfold fX2_clear at hf
  obtain ⟨H, hHe⟩ : ∃ z, z = s.heap := ⟨_, rfl⟩
  have hP : va_P X.1 vwCl [(a_hist, .inr (1, [.ref a_hr, .ref a_hb, .int hist_length])), (a_hr, .inl (X.2 2, 60, .inl hr_f)), (a_hb, .inl (X.2 0, 60, .inl hb_f))] H := by rw [hHe]; exact hP
  have hS : va_S A s.heap H [] := by rw [hHe]; exact va_S.rf
  rw [← hHe]
  obtain ⟨locs, hLo⟩ : ∃ z : List Loc, z = [] := ⟨_, rfl⟩
  rw [← hLo] at hS ⊢
  refine lv_aload_n hx hb dX2_clear_0 rfl (lv_at hl 0 rfl) ?_
  refine lv_iconst (v := 0) hx hb dX2_clear_1 (by decide) ?_
  refine va_put (D := X.1) (ci := 1) (v := .int 0) (ty := .int) (C := RX2) (T := TX2) (N := 3) hx hb hts iwX2_clear_X2 tyX2 tyX2_ok nmX2 hown hK hP hD hS 0 rfl rfl 2 (by decide) (hts _ lkX2_clear_1) (fun _ h9 => h9) rfl (by decide +kernel) rfl rfl (Nat.le_of_ble_eq_true rfl) dX2_clear_2 (fun H locs hP hD hS => ?_)
  have hP : va_P X.1 vwCl [(a_hist, .inr (1, [.ref a_hr, .ref a_hb, .int 0])), (a_hr, .inl (X.2 2, 60, .inl hr_f)), (a_hb, .inl (X.2 0, 60, .inl hb_f))] H := hP
  have hD : va_D A [(a_hist, .inr (1, [.ref a_hr, .ref a_hb, .int 0])), (a_hr, .inl (X.2 2, 60, .inl hr_f)), (a_hb, .inl (X.2 0, 60, .inl hb_f))] := hD
  obtain rfl := Option.some.inj hf
  exact W.vret hx hb hr (fun t ht hW => ⟨⟨(), rfl, trivial, by rw [ht]; exact hP, va_K.moved hW.alike hK⟩, hS.F ht⟩) hS.2.2 dX2_clear_5
def rmX2_add : Room := { frames := 0, cells := 0, slots := 0, locals := 0 }
theorem iwX2_add_X2 : ∀ w ∈ wsX20, w ∈ wsX2_add := fun w h => List.mem_cons_of_mem _ (List.mem_append_left _ (List.mem_append_right _ (h)))
theorem iwX2_add_X3 : ∀ w ∈ wsX30, w ∈ wsX2_add := fun w h => List.mem_cons_of_mem _ (List.mem_append_right _ (h))
theorem lkX2_add_1 : Cond.fieldLink RX2 19 "InspectionOffice$History" "length" "I" ∈ wsX2_add := List.mem_of_getElem? (i := 1) rfl
theorem lkX2_add_2 : Cond.fieldLink RX2 9 "InspectionOffice$History" "refused" "[Z" ∈ wsX2_add := List.mem_of_getElem? (i := 2) rfl
theorem lkX2_add_3 : Cond.fieldLink RX2 23 "InspectionOffice$Lot" "verdict" "I" ∈ wsX2_add := List.mem_of_getElem? (i := 3) rfl
theorem lkX2_add_4 : Cond.fieldLink RX2 15 "InspectionOffice$History" "bad" "[I" ∈ wsX2_add := List.mem_of_getElem? (i := 4) rfl
theorem lkX2_add_5 : Cond.fieldLink RX2 28 "InspectionOffice$Lot" "bad" "I" ∈ wsX2_add := List.mem_of_getElem? (i := 5) rfl
set_option maxHeartbeats 4000000 in
set_option maxRecDepth 100000 in
theorem mX2_add (l : Launch) (X : cxT) (N : Nat) (a_hist a_hr a_hb a_lot : Nat) (sz : Nat) (hist_length : Int32) (hr_f : Nat → Int32) (hb_f : Nat → Int32) (lot_order : Int32) (lot_size : Int32) (lot_findings : Int64) (lot_verdict : Int32) (lot_state : Int32) (lot_inspected : Int32) (lot_bad : Int32) (r : Int32 × (Nat → Int32) × (Nat → Int32)) (hf0 : fX2_add N hist_length hr_f hb_f lot_verdict lot_bad = some r) : Met l yX2_add wsX2_add rmX2_add (wPre X sz [(a_hist, .inr (1, [.ref a_hr, .ref a_hb, .int hist_length])), (a_hr, .inl (X.2 2, 60, .inl hr_f)), (a_hb, .inl (X.2 0, 60, .inl hb_f)), (a_lot, .inr (2, [.int lot_order, .int lot_size, .long lot_findings, .int lot_verdict, .int lot_state, .int lot_inspected, .int lot_bad]))] [.ref a_hist, .ref a_lot]) (va_Qv (fun _ : Unit => True) (fun _ t => wPost X [(a_hist, .inr (1, [.ref a_hr, .ref a_hb, .int r.1])), (a_hr, .inl (X.2 2, 60, .inl r.2.1)), (a_hb, .inl (X.2 0, 60, .inl r.2.2)), (a_lot, .inr (2, [.int lot_order, .int lot_size, .long lot_findings, .int lot_verdict, .int lot_state, .int lot_inspected, .int lot_bad]))] t) (va_A [(a_hist, .inr (1, [.ref a_hr, .ref a_hb, .int hist_length])), (a_hr, .inl (X.2 2, 60, .inl hr_f)), (a_hb, .inl (X.2 0, 60, .inl hb_f)), (a_lot, .inr (2, [.int lot_order, .int lot_size, .long lot_findings, .int lot_verdict, .int lot_state, .int lot_inspected, .int lot_bad]))] sz)) 0 0 (va_A [(a_hist, .inr (1, [.ref a_hr, .ref a_hb, .int hist_length])), (a_hr, .inl (X.2 2, 60, .inl hr_f)), (a_hb, .inl (X.2 0, 60, .inl hb_f)), (a_lot, .inr (2, [.int lot_order, .int lot_size, .long lot_findings, .int lot_verdict, .int lot_state, .int lot_inspected, .int lot_bad]))] sz) := by
  refine Met.ofW (cc := cX2_add) (maxL := 2) (ret := none) (by decide) rfl ?_
  intro p e s m args below meth c s₁ B hml hv
  obtain ⟨rfl, hsz, hP, hK, hD0, hSt⟩ := hv
  have hx := B.exec
  have hb := B.bytes
  have hr := B.returns
  have hts := atoms_spec (ws := wsX2_add) B.pre
  have hown : s.vm.findClass RX2 = some m.cls := findClass_of_methodNamed B.named
  have hlocks := B.notSynchronized
  subst hsz
  have hD := hD0.self (sz := s.heap.size)
  generalize hAe : va_A [(a_hist, .inr (1, [.ref a_hr, .ref a_hb, .int hist_length])), (a_hr, .inl (X.2 2, 60, .inl hr_f)), (a_hb, .inl (X.2 0, 60, .inl hb_f)), (a_lot, .inr (2, [.int lot_order, .int lot_size, .long lot_findings, .int lot_verdict, .int lot_state, .int lot_inspected, .int lot_bad]))] s.heap.size = A at hD hSt ⊢
  have hA : ∀ q : Nat, s.heap.size ≤ q → A q := fun q h => by rw [← hAe]; exact Or.inr h
  have hS : va_S A s.heap s.heap [] := va_S.rf
  have hP : va_P X.1 vwCl [(a_hist, .inr (1, [.ref a_hr, .ref a_hb, .int hist_length])), (a_hr, .inl (X.2 2, 60, .inl hr_f)), (a_hb, .inl (X.2 0, 60, .inl hb_f)), (a_lot, .inr (2, [.int lot_order, .int lot_size, .long lot_findings, .int lot_verdict, .int lot_state, .int lot_inspected, .int lot_bad]))] s.heap := hP
  have hl := lv_entry ([.ref a_hist, .ref a_lot]) (n := 2) (Nat.le_of_ble_eq_true rfl)
  rw [lg_entry_eq]
  generalize (lg_sl ([.ref a_hist, .ref a_lot]) ++ List.replicate (2 - (lg_sl ([.ref a_hist, .ref a_lot])).length) Slot.unset).toArray = ls at hl ⊢
  have hl : lv_has ls 2 [(0, .ref a_hist), (1, .ref a_lot)] := hl
  have B37 : (∀ (y1 : Int32) (y2 : Int32) (hist_length : Int32) (hr_f : Nat → Int32) (hb_f : Nat → Int32), fX2_add_b37 N lot_verdict lot_bad y1 y2 hist_length hr_f hb_f = some r → ∀ (H : Heap) (locs : List Loc), va_P X.1 vwCl [(a_hist, .inr (1, [.ref a_hr, .ref a_hb, .int hist_length])), (a_hr, .inl (X.2 2, 60, .inl hr_f)), (a_hb, .inl (X.2 0, 60, .inl hb_f)), (a_lot, .inr (2, [.int lot_order, .int lot_size, .long lot_findings, .int lot_verdict, .int lot_state, .int lot_inspected, .int lot_bad]))] H → va_D A [(a_hist, .inr (1, [.ref a_hr, .ref a_hb, .int hist_length])), (a_hr, .inl (X.2 2, 60, .inl hr_f)), (a_hb, .inl (X.2 0, 60, .inl hb_f)), (a_lot, .inr (2, [.int lot_order, .int lot_size, .long lot_findings, .int lot_verdict, .int lot_state, .int lot_inspected, .int lot_bad]))] → va_S A s.heap H locs → ∀ ls : Array Slot, lv_has ls 2 [(0, .ref a_hist), (1, .ref a_lot)] → W p l e (headSpec wsX2_add rmX2_add).room s m (([.ref a_hist, .ref a_lot] : List Value).toArray) below meth c H locs 0 0 (MQ below (va_Qv (fun _ : Unit => True) (fun _ t => wPost X [(a_hist, .inr (1, [.ref a_hr, .ref a_hb, .int r.1])), (a_hr, .inl (X.2 2, 60, .inl r.2.1)), (a_hb, .inl (X.2 0, 60, .inl r.2.2)), (a_lot, .inr (2, [.int lot_order, .int lot_size, .long lot_findings, .int lot_verdict, .int lot_state, .int lot_inspected, .int lot_bad]))] t) A) ([.ref a_hist, .ref a_lot] : List Value).toArray s 0 0 A) (F0 m 37 ls [.int y2, .int y1, .ref a_hr])) := by
    intro y1 y2 hist_length hr_f hb_f hf H locs hP hD hS ls hl
    unfold fX2_add_b37 at hf
    obtain ⟨g_1, hf⟩ := ite_some hf
    refine va_zast hx hb hK hP hD hS 1 2 rfl rfl (i := y1) g_1 dX2_add_37 (fun H locs hP hD hS => ?_)
    have hP : va_P X.1 vwCl [(a_hist, .inr (1, [.ref a_hr, .ref a_hb, .int hist_length])), (a_hr, .inl (X.2 2, 60, .inl (upd hr_f y1.toNatClampNeg (vp_nar .boolean y2)))), (a_hb, .inl (X.2 0, 60, .inl hb_f)), (a_lot, .inr (2, [.int lot_order, .int lot_size, .long lot_findings, .int lot_verdict, .int lot_state, .int lot_inspected, .int lot_bad]))] H := hP
    have hD : va_D A [(a_hist, .inr (1, [.ref a_hr, .ref a_hb, .int hist_length])), (a_hr, .inl (X.2 2, 60, .inl (upd hr_f y1.toNatClampNeg (vp_nar .boolean y2)))), (a_hb, .inl (X.2 0, 60, .inl hb_f)), (a_lot, .inr (2, [.int lot_order, .int lot_size, .long lot_findings, .int lot_verdict, .int lot_state, .int lot_inspected, .int lot_bad]))] := hD
    refine lv_aload_n hx hb dX2_add_38 rfl (lv_at hl 0 rfl) ?_
    refine va_get (D := X.1) (ci := 1) (v := .ref a_hb) (C := RX2) (T := TX2) (N := 3) hx hb hts iwX2_add_X2 hown hK hP 0 rfl rfl 1 (by decide) (hts _ lkX2_add_4) (fun _ h9 => h9) rfl dX2_add_39 ?_
    refine lv_aload_n hx hb dX2_add_42 rfl (lv_at hl 0 rfl) ?_
    refine va_get (D := X.1) (ci := 1) (v := .int hist_length) (C := RX2) (T := TX2) (N := 3) hx hb hts iwX2_add_X2 hown hK hP 0 rfl rfl 2 (by decide) (hts _ lkX2_add_1) (fun _ h9 => h9) rfl dX2_add_43 ?_
    refine lv_aload_n hx hb dX2_add_46 rfl (lv_at hl 1 rfl) ?_
    refine va_get (D := X.1) (ci := 2) (v := .int lot_bad) (C := RX3) (T := TX3) (N := 7) hx hb hts iwX2_add_X3 hown hK hP 3 rfl rfl 6 (by decide) (hts _ lkX2_add_5) (fun _ h9 => h9) rfl dX2_add_47 ?_
    obtain ⟨g_2, hf⟩ := ite_some hf
    refine va_iast hx hb hK hP hD hS 2 0 rfl rfl (i := hist_length) g_2 dX2_add_50 (fun H locs hP hD hS => ?_)
    have hP : va_P X.1 vwCl [(a_hist, .inr (1, [.ref a_hr, .ref a_hb, .int hist_length])), (a_hr, .inl (X.2 2, 60, .inl (upd hr_f y1.toNatClampNeg (vp_nar .boolean y2)))), (a_hb, .inl (X.2 0, 60, .inl (upd hb_f hist_length.toNatClampNeg lot_bad))), (a_lot, .inr (2, [.int lot_order, .int lot_size, .long lot_findings, .int lot_verdict, .int lot_state, .int lot_inspected, .int lot_bad]))] H := hP
    have hD : va_D A [(a_hist, .inr (1, [.ref a_hr, .ref a_hb, .int hist_length])), (a_hr, .inl (X.2 2, 60, .inl (upd hr_f y1.toNatClampNeg (vp_nar .boolean y2)))), (a_hb, .inl (X.2 0, 60, .inl (upd hb_f hist_length.toNatClampNeg lot_bad))), (a_lot, .inr (2, [.int lot_order, .int lot_size, .long lot_findings, .int lot_verdict, .int lot_state, .int lot_inspected, .int lot_bad]))] := hD
    refine lv_aload_n hx hb dX2_add_51 rfl (lv_at hl 0 rfl) ?_
    refine lv_dup hx hb dX2_add_52 rfl ?_
    refine va_get (D := X.1) (ci := 1) (v := .int hist_length) (C := RX2) (T := TX2) (N := 3) hx hb hts iwX2_add_X2 hown hK hP 0 rfl rfl 2 (by decide) (hts _ lkX2_add_1) (fun _ h9 => h9) rfl dX2_add_53 ?_
    refine lv_iconst (v := 1) hx hb dX2_add_56 (by decide) ?_
    refine lv_iadd hx hb dX2_add_57 ?_
    refine va_put (D := X.1) (ci := 1) (v := .int (hist_length + 1)) (ty := .int) (C := RX2) (T := TX2) (N := 3) hx hb hts iwX2_add_X2 tyX2 tyX2_ok nmX2 hown hK hP hD hS 0 rfl rfl 2 (by decide) (hts _ lkX2_add_1) (fun _ h9 => h9) rfl (by decide +kernel) rfl rfl (Nat.le_of_ble_eq_true rfl) dX2_add_58 (fun H locs hP hD hS => ?_)
    have hP : va_P X.1 vwCl [(a_hist, .inr (1, [.ref a_hr, .ref a_hb, .int (hist_length + 1)])), (a_hr, .inl (X.2 2, 60, .inl (upd hr_f y1.toNatClampNeg (vp_nar .boolean y2)))), (a_hb, .inl (X.2 0, 60, .inl (upd hb_f hist_length.toNatClampNeg lot_bad))), (a_lot, .inr (2, [.int lot_order, .int lot_size, .long lot_findings, .int lot_verdict, .int lot_state, .int lot_inspected, .int lot_bad]))] H := hP
    have hD : va_D A [(a_hist, .inr (1, [.ref a_hr, .ref a_hb, .int (hist_length + 1)])), (a_hr, .inl (X.2 2, 60, .inl (upd hr_f y1.toNatClampNeg (vp_nar .boolean y2)))), (a_hb, .inl (X.2 0, 60, .inl (upd hb_f hist_length.toNatClampNeg lot_bad))), (a_lot, .inr (2, [.int lot_order, .int lot_size, .long lot_findings, .int lot_verdict, .int lot_state, .int lot_inspected, .int lot_bad]))] := hD
    obtain rfl := Option.some.inj hf
    exact W.vret hx hb hr (fun t ht hW => ⟨⟨(), rfl, trivial, by rw [ht]; exact hP, va_K.moved hW.alike hK⟩, hS.F ht⟩) hS.2.2 dX2_add_61
  have hf := hf0
  unfold fX2_add at hf
  obtain ⟨H, hHe⟩ : ∃ z, z = s.heap := ⟨_, rfl⟩
  have hP : va_P X.1 vwCl [(a_hist, .inr (1, [.ref a_hr, .ref a_hb, .int hist_length])), (a_hr, .inl (X.2 2, 60, .inl hr_f)), (a_hb, .inl (X.2 0, 60, .inl hb_f)), (a_lot, .inr (2, [.int lot_order, .int lot_size, .long lot_findings, .int lot_verdict, .int lot_state, .int lot_inspected, .int lot_bad]))] H := by rw [hHe]; exact hP
  have hS : va_S A s.heap H [] := by rw [hHe]; exact va_S.rf
  rw [← hHe]
  obtain ⟨locs, hLo⟩ : ∃ z : List Loc, z = [] := ⟨_, rfl⟩
  rw [← hLo] at hS ⊢
  refine lv_aload_n hx hb dX2_add_0 rfl (lv_at hl 0 rfl) ?_
  refine va_get (D := X.1) (ci := 1) (v := .int hist_length) (C := RX2) (T := TX2) (N := 3) hx hb hts iwX2_add_X2 hown hK hP 0 rfl rfl 2 (by decide) (hts _ lkX2_add_1) (fun _ h9 => h9) rfl dX2_add_1 ?_
  refine lv_if_lt (tgt := 16) hx hb dX2_add_4 (by decide) (fun c_3 => ?_) (fun c_3 => ?_)
  · rw [if_pos c_3] at hf
    obtain rfl := Option.some.inj hf
    exact W.vret hx hb hr (fun t ht hW => ⟨⟨(), rfl, trivial, by rw [ht]; exact hP, va_K.moved hW.alike hK⟩, hS.F ht⟩) hS.2.2 dX2_add_16
  · rw [if_neg c_3] at hf
    refine lv_aload_n hx hb dX2_add_7 rfl (lv_at hl 0 rfl) ?_
    refine va_get (D := X.1) (ci := 1) (v := .int hist_length) (C := RX2) (T := TX2) (N := 3) hx hb hts iwX2_add_X2 hown hK hP 0 rfl rfl 2 (by decide) (hts _ lkX2_add_1) (fun _ h9 => h9) rfl dX2_add_8 ?_
    refine lv_bipush (v := 60) hx hb dX2_add_11 (by decide) ?_
    refine lv_icmp_lt (tgt := 17) hx hb dX2_add_13 (by decide) (fun c_4 => ?_) (fun c_4 => ?_)
    · rw [if_pos c_4] at hf
      refine lv_aload_n hx hb dX2_add_17 rfl (lv_at hl 0 rfl) ?_
      refine va_get (D := X.1) (ci := 1) (v := .ref a_hr) (C := RX2) (T := TX2) (N := 3) hx hb hts iwX2_add_X2 hown hK hP 0 rfl rfl 0 (by decide) (hts _ lkX2_add_2) (fun _ h9 => h9) rfl dX2_add_18 ?_
      refine lv_aload_n hx hb dX2_add_21 rfl (lv_at hl 0 rfl) ?_
      refine va_get (D := X.1) (ci := 1) (v := .int hist_length) (C := RX2) (T := TX2) (N := 3) hx hb hts iwX2_add_X2 hown hK hP 0 rfl rfl 2 (by decide) (hts _ lkX2_add_1) (fun _ h9 => h9) rfl dX2_add_22 ?_
      refine lv_aload_n hx hb dX2_add_25 rfl (lv_at hl 1 rfl) ?_
      refine va_get (D := X.1) (ci := 2) (v := .int lot_verdict) (C := RX3) (T := TX3) (N := 7) hx hb hts iwX2_add_X3 hown hK hP 3 rfl rfl 3 (by decide) (hts _ lkX2_add_3) (fun _ h9 => h9) rfl dX2_add_26 ?_
      refine lv_if_ne (tgt := 36) hx hb dX2_add_29 (by decide) (fun c_5 => ?_) (fun c_5 => ?_)
      · rw [if_neg c_5] at hf
        refine lv_iconst (v := 0) hx hb dX2_add_36 (by decide) ?_
        exact B37 hist_length 0 hist_length hr_f hb_f hf H locs hP hD hS ls (lv_sub hl [0, 1] rfl)
      · rw [if_pos c_5] at hf
        refine lv_iconst (v := 1) hx hb dX2_add_32 (by decide) ?_
        refine lv_goto (tgt := 37) hx hb dX2_add_33 (by decide) ?_
        exact B37 hist_length 1 hist_length hr_f hb_f hf H locs hP hD hS ls (lv_sub hl [0, 1] rfl)
    · rw [if_neg c_4] at hf
      obtain rfl := Option.some.inj hf
      exact W.vret hx hb hr (fun t ht hW => ⟨⟨(), rfl, trivial, by rw [ht]; exact hP, va_K.moved hW.alike hK⟩, hS.F ht⟩) hS.2.2 dX2_add_16
def rmX0_begin : Room := { frames := 1, cells := 0, slots := 0, locals := 20 }
theorem iwX0_begin_X0 : ∀ w ∈ wsX00, w ∈ wsX0_begin := fun w h => List.mem_cons_of_mem _ (List.mem_append_left _ (List.mem_append_right _ (h)))
theorem lkX0_begin_1 : Cond.fieldLink RX0 30 "InspectionOffice$Course" "state" "I" ∈ wsX0_begin := List.mem_of_getElem? (i := 1) rfl
theorem lkX0_begin_2 : Cond.fieldLink RX0 12 "InspectionOffice$Course" "history" "LInspectionOffice$History;" ∈ wsX0_begin := List.mem_of_getElem? (i := 2) rfl
set_option maxHeartbeats 4000000 in
set_option maxRecDepth 100000 in
theorem mX0_begin (l : Launch) (X : cxT) (N : Nat) (a_course a_hist a_hr a_hb : Nat) (sz : Nat) (course_steady : Int32) (course_rate : Int32) (course_state : Int32) (course_skipping : Int32) (course_changedAt : Int32) (course_acceptedInRow : Int32) (course_passedInGroup : Int32) (hist_length : Int32) (hr_f : Nat → Int32) (hb_f : Nat → Int32) (p1 : Int32) (r : Int32 × Int32) (hf0 : fX0_begin N p1 course_state hist_length = some r) : Met l yX0_begin wsX0_begin rmX0_begin (wPre X sz [(a_course, .inr (0, [.int course_steady, .int course_rate, .int course_state, .int course_skipping, .ref a_hist, .int course_changedAt, .int course_acceptedInRow, .int course_passedInGroup])), (a_hist, .inr (1, [.ref a_hr, .ref a_hb, .int hist_length])), (a_hr, .inl (X.2 2, 60, .inl hr_f)), (a_hb, .inl (X.2 0, 60, .inl hb_f))] [.ref a_course, .int p1]) (va_Qv (fun _ : Unit => True) (fun _ t => wPost X [(a_course, .inr (0, [.int course_steady, .int course_rate, .int r.1, .int course_skipping, .ref a_hist, .int course_changedAt, .int course_acceptedInRow, .int course_passedInGroup])), (a_hist, .inr (1, [.ref a_hr, .ref a_hb, .int r.2])), (a_hr, .inl (X.2 2, 60, .inl hr_f)), (a_hb, .inl (X.2 0, 60, .inl hb_f))] t) (va_A [(a_course, .inr (0, [.int course_steady, .int course_rate, .int course_state, .int course_skipping, .ref a_hist, .int course_changedAt, .int course_acceptedInRow, .int course_passedInGroup])), (a_hist, .inr (1, [.ref a_hr, .ref a_hb, .int hist_length])), (a_hr, .inl (X.2 2, 60, .inl hr_f)), (a_hb, .inl (X.2 0, 60, .inl hb_f))] sz)) 0 0 (va_A [(a_course, .inr (0, [.int course_steady, .int course_rate, .int course_state, .int course_skipping, .ref a_hist, .int course_changedAt, .int course_acceptedInRow, .int course_passedInGroup])), (a_hist, .inr (1, [.ref a_hr, .ref a_hb, .int hist_length])), (a_hr, .inl (X.2 2, 60, .inl hr_f)), (a_hb, .inl (X.2 0, 60, .inl hb_f))] sz) := by
  refine Met.ofW (cc := cX0_begin) (maxL := 2) (ret := none) (by decide) rfl ?_
  intro p e s m args below meth c s₁ B hml hv
  obtain ⟨rfl, hsz, hP, hK, hD0, hSt⟩ := hv
  have hx := B.exec
  have hb := B.bytes
  have hr := B.returns
  have hts := atoms_spec (ws := wsX0_begin) B.pre
  have hown : s.vm.findClass RX0 = some m.cls := findClass_of_methodNamed B.named
  have hlocks := B.notSynchronized
  subst hsz
  have hD := hD0.self (sz := s.heap.size)
  generalize hAe : va_A [(a_course, .inr (0, [.int course_steady, .int course_rate, .int course_state, .int course_skipping, .ref a_hist, .int course_changedAt, .int course_acceptedInRow, .int course_passedInGroup])), (a_hist, .inr (1, [.ref a_hr, .ref a_hb, .int hist_length])), (a_hr, .inl (X.2 2, 60, .inl hr_f)), (a_hb, .inl (X.2 0, 60, .inl hb_f))] s.heap.size = A at hD hSt ⊢
  have hA : ∀ q : Nat, s.heap.size ≤ q → A q := fun q h => by rw [← hAe]; exact Or.inr h
  have hS : va_S A s.heap s.heap [] := va_S.rf
  have hP : va_P X.1 vwCl [(a_course, .inr (0, [.int course_steady, .int course_rate, .int course_state, .int course_skipping, .ref a_hist, .int course_changedAt, .int course_acceptedInRow, .int course_passedInGroup])), (a_hist, .inr (1, [.ref a_hr, .ref a_hb, .int hist_length])), (a_hr, .inl (X.2 2, 60, .inl hr_f)), (a_hb, .inl (X.2 0, 60, .inl hb_f))] s.heap := hP
  have hl := lv_entry ([.ref a_course, .int p1]) (n := 2) (Nat.le_of_ble_eq_true rfl)
  rw [lg_entry_eq]
  generalize (lg_sl ([.ref a_course, .int p1]) ++ List.replicate (2 - (lg_sl ([.ref a_course, .int p1])).length) Slot.unset).toArray = ls at hl ⊢
  have hl : lv_has ls 2 [(0, .ref a_course), (1, .int p1)] := hl
  have hf := hf0
  unfold fX0_begin at hf
  obtain ⟨H, hHe⟩ : ∃ z, z = s.heap := ⟨_, rfl⟩
  have hP : va_P X.1 vwCl [(a_course, .inr (0, [.int course_steady, .int course_rate, .int course_state, .int course_skipping, .ref a_hist, .int course_changedAt, .int course_acceptedInRow, .int course_passedInGroup])), (a_hist, .inr (1, [.ref a_hr, .ref a_hb, .int hist_length])), (a_hr, .inl (X.2 2, 60, .inl hr_f)), (a_hb, .inl (X.2 0, 60, .inl hb_f))] H := by rw [hHe]; exact hP
  have hS : va_S A s.heap H [] := by rw [hHe]; exact va_S.rf
  rw [← hHe]
  obtain ⟨locs, hLo⟩ : ∃ z : List Loc, z = [] := ⟨_, rfl⟩
  rw [← hLo] at hS ⊢
  refine lv_aload_n hx hb dX0_begin_0 rfl (lv_at hl 0 rfl) ?_
  refine lv_iload_n hx hb dX0_begin_1 rfl (lv_at hl 1 rfl) ?_
  refine va_put (D := X.1) (ci := 0) (v := .int p1) (ty := .int) (C := RX0) (T := TX0) (N := 8) hx hb hts iwX0_begin_X0 tyX0 tyX0_ok nmX0 hown hK hP hD hS 0 rfl rfl 2 (by decide) (hts _ lkX0_begin_1) (fun _ h9 => h9) rfl (by decide +kernel) rfl rfl (Nat.le_of_ble_eq_true rfl) dX0_begin_2 (fun H locs hP hD hS => ?_)
  have hP : va_P X.1 vwCl [(a_course, .inr (0, [.int course_steady, .int course_rate, .int p1, .int course_skipping, .ref a_hist, .int course_changedAt, .int course_acceptedInRow, .int course_passedInGroup])), (a_hist, .inr (1, [.ref a_hr, .ref a_hb, .int hist_length])), (a_hr, .inl (X.2 2, 60, .inl hr_f)), (a_hb, .inl (X.2 0, 60, .inl hb_f))] H := hP
  have hD : va_D A [(a_course, .inr (0, [.int course_steady, .int course_rate, .int p1, .int course_skipping, .ref a_hist, .int course_changedAt, .int course_acceptedInRow, .int course_passedInGroup])), (a_hist, .inr (1, [.ref a_hr, .ref a_hb, .int hist_length])), (a_hr, .inl (X.2 2, 60, .inl hr_f)), (a_hb, .inl (X.2 0, 60, .inl hb_f))] := hD
  refine lv_aload_n hx hb dX0_begin_5 rfl (lv_at hl 0 rfl) ?_
  refine va_get (D := X.1) (ci := 0) (v := .ref a_hist) (C := RX0) (T := TX0) (N := 8) hx hb hts iwX0_begin_X0 hown hK hP 0 rfl rfl 4 (by decide) (hts _ lkX0_begin_2) (fun _ h9 => h9) rfl dX0_begin_6 ?_
  obtain ⟨r_1, e_2, hf⟩ := bind_some hf
  have hFc := va_free (wc := [(a_hist, .inr (1, [.ref a_hr, .ref a_hb, .int hist_length])), (a_hr, .inl (X.2 2, 60, .inl hr_f)), (a_hb, .inl (X.2 0, 60, .inl hb_f))]) hD hS hA [1, 2, 3] rfl
  refine va_callv (va_runV (As := []) (rest := []) ⟨hx, hb, hml, hown, hts⟩ (mX2_clear l X N a_hist a_hr a_hb H.size hist_length hr_f hb_f r_1 e_2) (cwV 0 hts gX0_begin_X2_clear rfl rfl rfl (by decide +kernel) ⟨Nat.le_of_ble_eq_true rfl, Nat.le_of_ble_eq_true rfl⟩) (wPreV hK hP hD hSt hS hFc [1, 2, 3] (by decide) rfl rfl 1 rfl rfl) rfl rfl hl.1 rfl (lv_room (Nat.le_of_ble_eq_true rfl)) dX0_begin_9 ⟨Nat.zero_le _, Nat.zero_le _⟩) hS (fun q _ h => hFc q h) hFc (fun u t H1 locs ht hvm hw hB hz1 hk1 hS => ?_)
  have hP1 := hB.1
  rw [ht] at hP1
  obtain ⟨hP, hD⟩ := wj hP hD [1, 2, 3] (wc := [(a_hist, .inr (1, [.ref a_hr, .ref a_hb, .int hist_length])), (a_hr, .inl (X.2 2, 60, .inl hr_f)), (a_hb, .inl (X.2 0, 60, .inl hb_f))]) (w1 := [(a_hist, .inr (1, [.ref a_hr, .ref a_hb, .int r_1])), (a_hr, .inl (X.2 2, 60, .inl hr_f)), (a_hb, .inl (X.2 0, 60, .inl hb_f))]) rfl rfl hk1 hP1
  have hP : va_P X.1 vwCl [(a_course, .inr (0, [.int course_steady, .int course_rate, .int p1, .int course_skipping, .ref a_hist, .int course_changedAt, .int course_acceptedInRow, .int course_passedInGroup])), (a_hist, .inr (1, [.ref a_hr, .ref a_hb, .int r_1])), (a_hr, .inl (X.2 2, 60, .inl hr_f)), (a_hb, .inl (X.2 0, 60, .inl hb_f))] H1 := hP
  have hD : va_D A [(a_course, .inr (0, [.int course_steady, .int course_rate, .int p1, .int course_skipping, .ref a_hist, .int course_changedAt, .int course_acceptedInRow, .int course_passedInGroup])), (a_hist, .inr (1, [.ref a_hr, .ref a_hb, .int r_1])), (a_hr, .inl (X.2 2, 60, .inl hr_f)), (a_hb, .inl (X.2 0, 60, .inl hb_f))] := hD
  generalize H1 = H at hP hS ⊢
  obtain rfl := Option.some.inj hf
  exact W.vret hx hb hr (fun t ht hW => ⟨⟨(), rfl, trivial, by rw [ht]; exact hP, va_K.moved hW.alike hK⟩, hS.F ht⟩) hS.2.2 dX0_begin_12
def rmX0_restart : Room := { frames := 2, cells := 0, slots := 0, locals := 41 }
theorem iwX0_restart_X0 : ∀ w ∈ wsX00, w ∈ wsX0_restart := fun w h => List.mem_cons_of_mem _ (List.mem_append_left _ (List.mem_append_right _ (h)))
theorem lkX0_restart_1 : Cond.fieldLink RX0 22 "InspectionOffice$Course" "skipping" "Z" ∈ wsX0_restart := List.mem_of_getElem? (i := 1) rfl
theorem lkX0_restart_2 : Cond.fieldLink RX0 26 "InspectionOffice$Course" "acceptedInRow" "I" ∈ wsX0_restart := List.mem_of_getElem? (i := 2) rfl
set_option maxHeartbeats 4000000 in
set_option maxRecDepth 100000 in
theorem mX0_restart (l : Launch) (X : cxT) (N : Nat) (a_course a_hist a_hr a_hb : Nat) (sz : Nat) (course_steady : Int32) (course_rate : Int32) (course_state : Int32) (course_skipping : Int32) (course_changedAt : Int32) (course_acceptedInRow : Int32) (course_passedInGroup : Int32) (hist_length : Int32) (hr_f : Nat → Int32) (hb_f : Nat → Int32) (r : Int32 × Int32 × Int32 × Int32) (hf0 : fX0_restart N course_state course_skipping course_acceptedInRow hist_length = some r) : Met l yX0_restart wsX0_restart rmX0_restart (wPre X sz [(a_course, .inr (0, [.int course_steady, .int course_rate, .int course_state, .int course_skipping, .ref a_hist, .int course_changedAt, .int course_acceptedInRow, .int course_passedInGroup])), (a_hist, .inr (1, [.ref a_hr, .ref a_hb, .int hist_length])), (a_hr, .inl (X.2 2, 60, .inl hr_f)), (a_hb, .inl (X.2 0, 60, .inl hb_f))] [.ref a_course]) (va_Qv (fun _ : Unit => True) (fun _ t => wPost X [(a_course, .inr (0, [.int course_steady, .int course_rate, .int r.1, .int r.2.1, .ref a_hist, .int course_changedAt, .int r.2.2.1, .int course_passedInGroup])), (a_hist, .inr (1, [.ref a_hr, .ref a_hb, .int r.2.2.2])), (a_hr, .inl (X.2 2, 60, .inl hr_f)), (a_hb, .inl (X.2 0, 60, .inl hb_f))] t) (va_A [(a_course, .inr (0, [.int course_steady, .int course_rate, .int course_state, .int course_skipping, .ref a_hist, .int course_changedAt, .int course_acceptedInRow, .int course_passedInGroup])), (a_hist, .inr (1, [.ref a_hr, .ref a_hb, .int hist_length])), (a_hr, .inl (X.2 2, 60, .inl hr_f)), (a_hb, .inl (X.2 0, 60, .inl hb_f))] sz)) 0 0 (va_A [(a_course, .inr (0, [.int course_steady, .int course_rate, .int course_state, .int course_skipping, .ref a_hist, .int course_changedAt, .int course_acceptedInRow, .int course_passedInGroup])), (a_hist, .inr (1, [.ref a_hr, .ref a_hb, .int hist_length])), (a_hr, .inl (X.2 2, 60, .inl hr_f)), (a_hb, .inl (X.2 0, 60, .inl hb_f))] sz) := by
  refine Met.ofW (cc := cX0_restart) (maxL := 1) (ret := none) (by decide) rfl ?_
  intro p e s m args below meth c s₁ B hml hv
  obtain ⟨rfl, hsz, hP, hK, hD0, hSt⟩ := hv
  have hx := B.exec
  have hb := B.bytes
  have hr := B.returns
  have hts := atoms_spec (ws := wsX0_restart) B.pre
  have hown : s.vm.findClass RX0 = some m.cls := findClass_of_methodNamed B.named
  have hlocks := B.notSynchronized
  subst hsz
  have hD := hD0.self (sz := s.heap.size)
  generalize hAe : va_A [(a_course, .inr (0, [.int course_steady, .int course_rate, .int course_state, .int course_skipping, .ref a_hist, .int course_changedAt, .int course_acceptedInRow, .int course_passedInGroup])), (a_hist, .inr (1, [.ref a_hr, .ref a_hb, .int hist_length])), (a_hr, .inl (X.2 2, 60, .inl hr_f)), (a_hb, .inl (X.2 0, 60, .inl hb_f))] s.heap.size = A at hD hSt ⊢
  have hA : ∀ q : Nat, s.heap.size ≤ q → A q := fun q h => by rw [← hAe]; exact Or.inr h
  have hS : va_S A s.heap s.heap [] := va_S.rf
  have hP : va_P X.1 vwCl [(a_course, .inr (0, [.int course_steady, .int course_rate, .int course_state, .int course_skipping, .ref a_hist, .int course_changedAt, .int course_acceptedInRow, .int course_passedInGroup])), (a_hist, .inr (1, [.ref a_hr, .ref a_hb, .int hist_length])), (a_hr, .inl (X.2 2, 60, .inl hr_f)), (a_hb, .inl (X.2 0, 60, .inl hb_f))] s.heap := hP
  have hl := lv_entry ([.ref a_course]) (n := 1) (Nat.le_of_ble_eq_true rfl)
  rw [lg_entry_eq]
  generalize (lg_sl ([.ref a_course]) ++ List.replicate (1 - (lg_sl ([.ref a_course])).length) Slot.unset).toArray = ls at hl ⊢
  have hl : lv_has ls 1 [(0, .ref a_course)] := hl
  have hf := hf0
  unfold fX0_restart at hf
  obtain ⟨H, hHe⟩ : ∃ z, z = s.heap := ⟨_, rfl⟩
  have hP : va_P X.1 vwCl [(a_course, .inr (0, [.int course_steady, .int course_rate, .int course_state, .int course_skipping, .ref a_hist, .int course_changedAt, .int course_acceptedInRow, .int course_passedInGroup])), (a_hist, .inr (1, [.ref a_hr, .ref a_hb, .int hist_length])), (a_hr, .inl (X.2 2, 60, .inl hr_f)), (a_hb, .inl (X.2 0, 60, .inl hb_f))] H := by rw [hHe]; exact hP
  have hS : va_S A s.heap H [] := by rw [hHe]; exact va_S.rf
  rw [← hHe]
  obtain ⟨locs, hLo⟩ : ∃ z : List Loc, z = [] := ⟨_, rfl⟩
  rw [← hLo] at hS ⊢
  refine lv_aload_n hx hb dX0_restart_0 rfl (lv_at hl 0 rfl) ?_
  refine lv_iconst (v := 0) hx hb dX0_restart_1 (by decide) ?_
  obtain ⟨r_1, e_2, hf⟩ := bind_some hf
  have hFc := va_free (wc := [(a_course, .inr (0, [.int course_steady, .int course_rate, .int course_state, .int course_skipping, .ref a_hist, .int course_changedAt, .int course_acceptedInRow, .int course_passedInGroup])), (a_hist, .inr (1, [.ref a_hr, .ref a_hb, .int hist_length])), (a_hr, .inl (X.2 2, 60, .inl hr_f)), (a_hb, .inl (X.2 0, 60, .inl hb_f))]) hD hS hA [0, 1, 2, 3] rfl
  refine va_callv (va_runV (As := [.int 0]) (rest := []) ⟨hx, hb, hml, hown, hts⟩ (mX0_begin l X N a_course a_hist a_hr a_hb H.size course_steady course_rate course_state course_skipping course_changedAt course_acceptedInRow course_passedInGroup hist_length hr_f hb_f 0 r_1 e_2) (cwV 1 hts gX0_restart_X0_begin rfl rfl rfl (by decide +kernel) ⟨Nat.le_of_ble_eq_true rfl, Nat.le_of_ble_eq_true rfl⟩) (wPreV hK hP hD hSt hS hFc [0, 1, 2, 3] (by decide) rfl rfl 0 rfl rfl) rfl rfl hl.1 rfl (lv_room (Nat.le_of_ble_eq_true rfl)) dX0_restart_2 ⟨Nat.zero_le _, Nat.zero_le _⟩) hS (fun q _ h => hFc q h) hFc (fun u t H1 locs ht hvm hw hB hz1 hk1 hS => ?_)
  have hP1 := hB.1
  rw [ht] at hP1
  obtain ⟨hP, hD⟩ := wj hP hD [0, 1, 2, 3] (wc := [(a_course, .inr (0, [.int course_steady, .int course_rate, .int course_state, .int course_skipping, .ref a_hist, .int course_changedAt, .int course_acceptedInRow, .int course_passedInGroup])), (a_hist, .inr (1, [.ref a_hr, .ref a_hb, .int hist_length])), (a_hr, .inl (X.2 2, 60, .inl hr_f)), (a_hb, .inl (X.2 0, 60, .inl hb_f))]) (w1 := [(a_course, .inr (0, [.int course_steady, .int course_rate, .int r_1.1, .int course_skipping, .ref a_hist, .int course_changedAt, .int course_acceptedInRow, .int course_passedInGroup])), (a_hist, .inr (1, [.ref a_hr, .ref a_hb, .int r_1.2])), (a_hr, .inl (X.2 2, 60, .inl hr_f)), (a_hb, .inl (X.2 0, 60, .inl hb_f))]) rfl rfl hk1 hP1
  have hP : va_P X.1 vwCl [(a_course, .inr (0, [.int course_steady, .int course_rate, .int r_1.1, .int course_skipping, .ref a_hist, .int course_changedAt, .int course_acceptedInRow, .int course_passedInGroup])), (a_hist, .inr (1, [.ref a_hr, .ref a_hb, .int r_1.2])), (a_hr, .inl (X.2 2, 60, .inl hr_f)), (a_hb, .inl (X.2 0, 60, .inl hb_f))] H1 := hP
  have hD : va_D A [(a_course, .inr (0, [.int course_steady, .int course_rate, .int r_1.1, .int course_skipping, .ref a_hist, .int course_changedAt, .int course_acceptedInRow, .int course_passedInGroup])), (a_hist, .inr (1, [.ref a_hr, .ref a_hb, .int r_1.2])), (a_hr, .inl (X.2 2, 60, .inl hr_f)), (a_hb, .inl (X.2 0, 60, .inl hb_f))] := hD
  generalize H1 = H at hP hS ⊢
  refine lv_aload_n hx hb dX0_restart_5 rfl (lv_at hl 0 rfl) ?_
  refine lv_iconst (v := 0) hx hb dX0_restart_6 (by decide) ?_
  refine va_put (D := X.1) (ci := 0) (v := .int 0) (ty := .boolean) (C := RX0) (T := TX0) (N := 8) hx hb hts iwX0_restart_X0 tyX0 tyX0_ok nmX0 hown hK hP hD hS 0 rfl rfl 3 (by decide) (hts _ lkX0_restart_1) (fun _ h9 => h9) rfl (by decide +kernel) rfl rfl (Nat.le_of_ble_eq_true rfl) dX0_restart_7 (fun H locs hP hD hS => ?_)
  have hP : va_P X.1 vwCl [(a_course, .inr (0, [.int course_steady, .int course_rate, .int r_1.1, .int 0, .ref a_hist, .int course_changedAt, .int course_acceptedInRow, .int course_passedInGroup])), (a_hist, .inr (1, [.ref a_hr, .ref a_hb, .int r_1.2])), (a_hr, .inl (X.2 2, 60, .inl hr_f)), (a_hb, .inl (X.2 0, 60, .inl hb_f))] H := hP
  have hD : va_D A [(a_course, .inr (0, [.int course_steady, .int course_rate, .int r_1.1, .int 0, .ref a_hist, .int course_changedAt, .int course_acceptedInRow, .int course_passedInGroup])), (a_hist, .inr (1, [.ref a_hr, .ref a_hb, .int r_1.2])), (a_hr, .inl (X.2 2, 60, .inl hr_f)), (a_hb, .inl (X.2 0, 60, .inl hb_f))] := hD
  refine lv_aload_n hx hb dX0_restart_10 rfl (lv_at hl 0 rfl) ?_
  refine lv_iconst (v := 0) hx hb dX0_restart_11 (by decide) ?_
  refine va_put (D := X.1) (ci := 0) (v := .int 0) (ty := .int) (C := RX0) (T := TX0) (N := 8) hx hb hts iwX0_restart_X0 tyX0 tyX0_ok nmX0 hown hK hP hD hS 0 rfl rfl 6 (by decide) (hts _ lkX0_restart_2) (fun _ h9 => h9) rfl (by decide +kernel) rfl rfl (Nat.le_of_ble_eq_true rfl) dX0_restart_12 (fun H locs hP hD hS => ?_)
  have hP : va_P X.1 vwCl [(a_course, .inr (0, [.int course_steady, .int course_rate, .int r_1.1, .int 0, .ref a_hist, .int course_changedAt, .int 0, .int course_passedInGroup])), (a_hist, .inr (1, [.ref a_hr, .ref a_hb, .int r_1.2])), (a_hr, .inl (X.2 2, 60, .inl hr_f)), (a_hb, .inl (X.2 0, 60, .inl hb_f))] H := hP
  have hD : va_D A [(a_course, .inr (0, [.int course_steady, .int course_rate, .int r_1.1, .int 0, .ref a_hist, .int course_changedAt, .int 0, .int course_passedInGroup])), (a_hist, .inr (1, [.ref a_hr, .ref a_hb, .int r_1.2])), (a_hr, .inl (X.2 2, 60, .inl hr_f)), (a_hb, .inl (X.2 0, 60, .inl hb_f))] := hD
  obtain rfl := Option.some.inj hf
  exact W.vret hx hb hr (fun t ht hW => ⟨⟨(), rfl, trivial, by rw [ht]; exact hP, va_K.moved hW.alike hK⟩, hS.F ht⟩) hS.2.2 dX0_restart_15
def rmX0_isPassedOver : Room := { frames := 0, cells := 0, slots := 0, locals := 0 }
theorem iwX0_isPassedOver_X0 : ∀ w ∈ wsX00, w ∈ wsX0_isPassedOver := fun w h => List.mem_cons_of_mem _ (List.mem_append_right _ (h))
theorem lkX0_isPassedOver_1 : Cond.fieldLink RX0 22 "InspectionOffice$Course" "skipping" "Z" ∈ wsX0_isPassedOver := List.mem_of_getElem? (i := 1) rfl
theorem lkX0_isPassedOver_2 : Cond.fieldLink RX0 100 "InspectionOffice$Course" "passedInGroup" "I" ∈ wsX0_isPassedOver := List.mem_of_getElem? (i := 2) rfl
theorem lkX0_isPassedOver_3 : Cond.fieldLink RX0 103 "InspectionOffice$Course" "rate" "I" ∈ wsX0_isPassedOver := List.mem_of_getElem? (i := 3) rfl
set_option maxHeartbeats 4000000 in
set_option maxRecDepth 100000 in
theorem mX0_isPassedOver (l : Launch) (X : cxT) (N : Nat) (a_course a_hist a_hr a_hb : Nat) (sz : Nat) (course_steady : Int32) (course_rate : Int32) (course_state : Int32) (course_skipping : Int32) (course_changedAt : Int32) (course_acceptedInRow : Int32) (course_passedInGroup : Int32) (hist_length : Int32) (hr_f : Nat → Int32) (hb_f : Nat → Int32) (r : Int32 × Int32) (hf0 : fX0_isPassedOver N course_rate course_skipping course_passedInGroup = some r) : Met l yX0_isPassedOver wsX0_isPassedOver rmX0_isPassedOver (wPre X sz [(a_course, .inr (0, [.int course_steady, .int course_rate, .int course_state, .int course_skipping, .ref a_hist, .int course_changedAt, .int course_acceptedInRow, .int course_passedInGroup])), (a_hist, .inr (1, [.ref a_hr, .ref a_hb, .int hist_length])), (a_hr, .inl (X.2 2, 60, .inl hr_f)), (a_hb, .inl (X.2 0, 60, .inl hb_f))] [.ref a_course]) (va_Qi (fun (v : Int32) (_ : Unit) => v = r.1) (fun _ t => wPost X [(a_course, .inr (0, [.int course_steady, .int course_rate, .int course_state, .int course_skipping, .ref a_hist, .int course_changedAt, .int course_acceptedInRow, .int r.2])), (a_hist, .inr (1, [.ref a_hr, .ref a_hb, .int hist_length])), (a_hr, .inl (X.2 2, 60, .inl hr_f)), (a_hb, .inl (X.2 0, 60, .inl hb_f))] t) (va_A [(a_course, .inr (0, [.int course_steady, .int course_rate, .int course_state, .int course_skipping, .ref a_hist, .int course_changedAt, .int course_acceptedInRow, .int course_passedInGroup])), (a_hist, .inr (1, [.ref a_hr, .ref a_hb, .int hist_length])), (a_hr, .inl (X.2 2, 60, .inl hr_f)), (a_hb, .inl (X.2 0, 60, .inl hb_f))] sz)) 0 0 (va_A [(a_course, .inr (0, [.int course_steady, .int course_rate, .int course_state, .int course_skipping, .ref a_hist, .int course_changedAt, .int course_acceptedInRow, .int course_passedInGroup])), (a_hist, .inr (1, [.ref a_hr, .ref a_hb, .int hist_length])), (a_hr, .inl (X.2 2, 60, .inl hr_f)), (a_hb, .inl (X.2 0, 60, .inl hb_f))] sz) := by
  refine Met.ofW (cc := cX0_isPassedOver) (maxL := 1) (ret := (some .boolean)) (by decide) rfl ?_
  intro p e s m args below meth c s₁ B hml hv
  obtain ⟨rfl, hsz, hP, hK, hD0, hSt⟩ := hv
  have hx := B.exec
  have hb := B.bytes
  have hr := B.returns
  have hts := atoms_spec (ws := wsX0_isPassedOver) B.pre
  have hown : s.vm.findClass RX0 = some m.cls := findClass_of_methodNamed B.named
  have hlocks := B.notSynchronized
  subst hsz
  have hD := hD0.self (sz := s.heap.size)
  generalize hAe : va_A [(a_course, .inr (0, [.int course_steady, .int course_rate, .int course_state, .int course_skipping, .ref a_hist, .int course_changedAt, .int course_acceptedInRow, .int course_passedInGroup])), (a_hist, .inr (1, [.ref a_hr, .ref a_hb, .int hist_length])), (a_hr, .inl (X.2 2, 60, .inl hr_f)), (a_hb, .inl (X.2 0, 60, .inl hb_f))] s.heap.size = A at hD hSt ⊢
  have hA : ∀ q : Nat, s.heap.size ≤ q → A q := fun q h => by rw [← hAe]; exact Or.inr h
  have hS : va_S A s.heap s.heap [] := va_S.rf
  have hP : va_P X.1 vwCl [(a_course, .inr (0, [.int course_steady, .int course_rate, .int course_state, .int course_skipping, .ref a_hist, .int course_changedAt, .int course_acceptedInRow, .int course_passedInGroup])), (a_hist, .inr (1, [.ref a_hr, .ref a_hb, .int hist_length])), (a_hr, .inl (X.2 2, 60, .inl hr_f)), (a_hb, .inl (X.2 0, 60, .inl hb_f))] s.heap := hP
  have hl := lv_entry ([.ref a_course]) (n := 1) (Nat.le_of_ble_eq_true rfl)
  rw [lg_entry_eq]
  generalize (lg_sl ([.ref a_course]) ++ List.replicate (1 - (lg_sl ([.ref a_course])).length) Slot.unset).toArray = ls at hl ⊢
  have hl : lv_has ls 1 [(0, .ref a_course)] := hl
  have hf := hf0
  unfold fX0_isPassedOver at hf
  obtain ⟨H, hHe⟩ : ∃ z, z = s.heap := ⟨_, rfl⟩
  have hP : va_P X.1 vwCl [(a_course, .inr (0, [.int course_steady, .int course_rate, .int course_state, .int course_skipping, .ref a_hist, .int course_changedAt, .int course_acceptedInRow, .int course_passedInGroup])), (a_hist, .inr (1, [.ref a_hr, .ref a_hb, .int hist_length])), (a_hr, .inl (X.2 2, 60, .inl hr_f)), (a_hb, .inl (X.2 0, 60, .inl hb_f))] H := by rw [hHe]; exact hP
  have hS : va_S A s.heap H [] := by rw [hHe]; exact va_S.rf
  rw [← hHe]
  obtain ⟨locs, hLo⟩ : ∃ z : List Loc, z = [] := ⟨_, rfl⟩
  rw [← hLo] at hS ⊢
  refine lv_aload_n hx hb dX0_isPassedOver_0 rfl (lv_at hl 0 rfl) ?_
  refine va_get (D := X.1) (ci := 0) (v := .int course_skipping) (C := RX0) (T := TX0) (N := 8) hx hb hts iwX0_isPassedOver_X0 hown hK hP 0 rfl rfl 3 (by decide) (hts _ lkX0_isPassedOver_1) (fun _ h9 => h9) rfl dX0_isPassedOver_1 ?_
  refine lv_if_ne (tgt := 9) hx hb dX0_isPassedOver_4 (by decide) (fun c_1 => ?_) (fun c_1 => ?_)
  · rw [if_neg c_1] at hf
    refine lv_aload_n hx hb dX0_isPassedOver_9 rfl (lv_at hl 0 rfl) ?_
    refine lv_dup hx hb dX0_isPassedOver_10 rfl ?_
    refine va_get (D := X.1) (ci := 0) (v := .int course_passedInGroup) (C := RX0) (T := TX0) (N := 8) hx hb hts iwX0_isPassedOver_X0 hown hK hP 0 rfl rfl 7 (by decide) (hts _ lkX0_isPassedOver_2) (fun _ h9 => h9) rfl dX0_isPassedOver_11 ?_
    refine lv_iconst (v := 1) hx hb dX0_isPassedOver_14 (by decide) ?_
    refine lv_iadd hx hb dX0_isPassedOver_15 ?_
    refine va_put (D := X.1) (ci := 0) (v := .int (course_passedInGroup + 1)) (ty := .int) (C := RX0) (T := TX0) (N := 8) hx hb hts iwX0_isPassedOver_X0 tyX0 tyX0_ok nmX0 hown hK hP hD hS 0 rfl rfl 7 (by decide) (hts _ lkX0_isPassedOver_2) (fun _ h9 => h9) rfl (by decide +kernel) rfl rfl (Nat.le_of_ble_eq_true rfl) dX0_isPassedOver_16 (fun H locs hP hD hS => ?_)
    have hP : va_P X.1 vwCl [(a_course, .inr (0, [.int course_steady, .int course_rate, .int course_state, .int course_skipping, .ref a_hist, .int course_changedAt, .int course_acceptedInRow, .int (course_passedInGroup + 1)])), (a_hist, .inr (1, [.ref a_hr, .ref a_hb, .int hist_length])), (a_hr, .inl (X.2 2, 60, .inl hr_f)), (a_hb, .inl (X.2 0, 60, .inl hb_f))] H := hP
    have hD : va_D A [(a_course, .inr (0, [.int course_steady, .int course_rate, .int course_state, .int course_skipping, .ref a_hist, .int course_changedAt, .int course_acceptedInRow, .int (course_passedInGroup + 1)])), (a_hist, .inr (1, [.ref a_hr, .ref a_hb, .int hist_length])), (a_hr, .inl (X.2 2, 60, .inl hr_f)), (a_hb, .inl (X.2 0, 60, .inl hb_f))] := hD
    refine lv_aload_n hx hb dX0_isPassedOver_19 rfl (lv_at hl 0 rfl) ?_
    refine va_get (D := X.1) (ci := 0) (v := .int (course_passedInGroup + 1)) (C := RX0) (T := TX0) (N := 8) hx hb hts iwX0_isPassedOver_X0 hown hK hP 0 rfl rfl 7 (by decide) (hts _ lkX0_isPassedOver_2) (fun _ h9 => h9) rfl dX0_isPassedOver_20 ?_
    refine lv_aload_n hx hb dX0_isPassedOver_23 rfl (lv_at hl 0 rfl) ?_
    refine va_get (D := X.1) (ci := 0) (v := .int course_rate) (C := RX0) (T := TX0) (N := 8) hx hb hts iwX0_isPassedOver_X0 hown hK hP 0 rfl rfl 1 (by decide) (hts _ lkX0_isPassedOver_3) (fun _ h9 => h9) rfl dX0_isPassedOver_24 ?_
    refine lv_icmp_ge (tgt := 32) hx hb dX0_isPassedOver_27 (by decide) (fun c_2 => ?_) (fun c_2 => ?_)
    · rw [if_pos c_2] at hf
      refine lv_aload_n hx hb dX0_isPassedOver_32 rfl (lv_at hl 0 rfl) ?_
      refine lv_iconst (v := 0) hx hb dX0_isPassedOver_33 (by decide) ?_
      refine va_put (D := X.1) (ci := 0) (v := .int 0) (ty := .int) (C := RX0) (T := TX0) (N := 8) hx hb hts iwX0_isPassedOver_X0 tyX0 tyX0_ok nmX0 hown hK hP hD hS 0 rfl rfl 7 (by decide) (hts _ lkX0_isPassedOver_2) (fun _ h9 => h9) rfl (by decide +kernel) rfl rfl (Nat.le_of_ble_eq_true rfl) dX0_isPassedOver_34 (fun H locs hP hD hS => ?_)
      have hP : va_P X.1 vwCl [(a_course, .inr (0, [.int course_steady, .int course_rate, .int course_state, .int course_skipping, .ref a_hist, .int course_changedAt, .int course_acceptedInRow, .int 0])), (a_hist, .inr (1, [.ref a_hr, .ref a_hb, .int hist_length])), (a_hr, .inl (X.2 2, 60, .inl hr_f)), (a_hb, .inl (X.2 0, 60, .inl hb_f))] H := hP
      have hD : va_D A [(a_course, .inr (0, [.int course_steady, .int course_rate, .int course_state, .int course_skipping, .ref a_hist, .int course_changedAt, .int course_acceptedInRow, .int 0])), (a_hist, .inr (1, [.ref a_hr, .ref a_hb, .int hist_length])), (a_hr, .inl (X.2 2, 60, .inl hr_f)), (a_hb, .inl (X.2 0, 60, .inl hb_f))] := hD
      refine lv_iconst (v := 0) hx hb dX0_isPassedOver_37 (by decide) ?_
      obtain rfl := Option.some.inj hf
      exact W.zret hx hb hr rfl (fun t ht hW => ⟨⟨_, (), rfl, rfl, by rw [ht]; exact hP, va_K.moved hW.alike hK⟩, hS.F ht⟩) hS.2.2 dX0_isPassedOver_38
    · rw [if_neg c_2] at hf
      refine lv_iconst (v := 1) hx hb dX0_isPassedOver_30 (by decide) ?_
      obtain rfl := Option.some.inj hf
      exact W.zret hx hb hr rfl (fun t ht hW => ⟨⟨_, (), rfl, rfl, by rw [ht]; exact hP, va_K.moved hW.alike hK⟩, hS.F ht⟩) hS.2.2 dX0_isPassedOver_31
  · rw [if_pos c_1] at hf
    refine lv_iconst (v := 0) hx hb dX0_isPassedOver_7 (by decide) ?_
    obtain rfl := Option.some.inj hf
    exact W.zret hx hb hr rfl (fun t ht hW => ⟨⟨_, (), rfl, rfl, by rw [ht]; exact hP, va_K.moved hW.alike hK⟩, hS.F ht⟩) hS.2.2 dX0_isPassedOver_8
def rmX0_countForSkipping : Room := { frames := 0, cells := 0, slots := 0, locals := 0 }
theorem iwX0_countForSkipping_X0 : ∀ w ∈ wsX00, w ∈ wsX0_countForSkipping := fun w h => List.mem_cons_of_mem _ (List.mem_append_right _ (h))
theorem iwX0_countForSkipping_X3 : ∀ w ∈ wsX30, w ∈ wsX0_countForSkipping := fun w h => List.mem_cons_of_mem _ (List.mem_append_left _ (List.mem_append_right _ (h)))
theorem lkX0_countForSkipping_1 : Cond.fieldLink RX0 106 "InspectionOffice$Lot" "verdict" "I" ∈ wsX0_countForSkipping := List.mem_of_getElem? (i := 1) rfl
theorem lkX0_countForSkipping_2 : Cond.fieldLink RX0 36 "InspectionOffice$Lot" "state" "I" ∈ wsX0_countForSkipping := List.mem_of_getElem? (i := 2) rfl
theorem lkX0_countForSkipping_3 : Cond.fieldLink RX0 30 "InspectionOffice$Course" "state" "I" ∈ wsX0_countForSkipping := List.mem_of_getElem? (i := 3) rfl
theorem lkX0_countForSkipping_4 : Cond.fieldLink RX0 22 "InspectionOffice$Course" "skipping" "Z" ∈ wsX0_countForSkipping := List.mem_of_getElem? (i := 4) rfl
theorem lkX0_countForSkipping_5 : Cond.fieldLink RX0 26 "InspectionOffice$Course" "acceptedInRow" "I" ∈ wsX0_countForSkipping := List.mem_of_getElem? (i := 5) rfl
theorem lkX0_countForSkipping_6 : Cond.fieldLink RX0 103 "InspectionOffice$Course" "rate" "I" ∈ wsX0_countForSkipping := List.mem_of_getElem? (i := 6) rfl
theorem lkX0_countForSkipping_7 : Cond.fieldLink RX0 100 "InspectionOffice$Course" "passedInGroup" "I" ∈ wsX0_countForSkipping := List.mem_of_getElem? (i := 7) rfl
set_option maxHeartbeats 4000000 in
set_option maxRecDepth 100000 in
theorem mX0_countForSkipping (l : Launch) (X : cxT) (N : Nat) (a_course a_hist a_hr a_hb a_lot : Nat) (sz : Nat) (course_steady : Int32) (course_rate : Int32) (course_state : Int32) (course_skipping : Int32) (course_changedAt : Int32) (course_acceptedInRow : Int32) (course_passedInGroup : Int32) (hist_length : Int32) (hr_f : Nat → Int32) (hb_f : Nat → Int32) (lot_order : Int32) (lot_size : Int32) (lot_findings : Int64) (lot_verdict : Int32) (lot_state : Int32) (lot_inspected : Int32) (lot_bad : Int32) (r : Int32 × Int32 × Int32) (hf0 : fX0_countForSkipping N course_rate course_state course_skipping course_acceptedInRow course_passedInGroup lot_verdict lot_state = some r) : Met l yX0_countForSkipping wsX0_countForSkipping rmX0_countForSkipping (wPre X sz [(a_course, .inr (0, [.int course_steady, .int course_rate, .int course_state, .int course_skipping, .ref a_hist, .int course_changedAt, .int course_acceptedInRow, .int course_passedInGroup])), (a_hist, .inr (1, [.ref a_hr, .ref a_hb, .int hist_length])), (a_hr, .inl (X.2 2, 60, .inl hr_f)), (a_hb, .inl (X.2 0, 60, .inl hb_f)), (a_lot, .inr (2, [.int lot_order, .int lot_size, .long lot_findings, .int lot_verdict, .int lot_state, .int lot_inspected, .int lot_bad]))] [.ref a_course, .ref a_lot]) (va_Qv (fun _ : Unit => True) (fun _ t => wPost X [(a_course, .inr (0, [.int course_steady, .int course_rate, .int course_state, .int r.1, .ref a_hist, .int course_changedAt, .int r.2.1, .int r.2.2])), (a_hist, .inr (1, [.ref a_hr, .ref a_hb, .int hist_length])), (a_hr, .inl (X.2 2, 60, .inl hr_f)), (a_hb, .inl (X.2 0, 60, .inl hb_f)), (a_lot, .inr (2, [.int lot_order, .int lot_size, .long lot_findings, .int lot_verdict, .int lot_state, .int lot_inspected, .int lot_bad]))] t) (va_A [(a_course, .inr (0, [.int course_steady, .int course_rate, .int course_state, .int course_skipping, .ref a_hist, .int course_changedAt, .int course_acceptedInRow, .int course_passedInGroup])), (a_hist, .inr (1, [.ref a_hr, .ref a_hb, .int hist_length])), (a_hr, .inl (X.2 2, 60, .inl hr_f)), (a_hb, .inl (X.2 0, 60, .inl hb_f)), (a_lot, .inr (2, [.int lot_order, .int lot_size, .long lot_findings, .int lot_verdict, .int lot_state, .int lot_inspected, .int lot_bad]))] sz)) 0 0 (va_A [(a_course, .inr (0, [.int course_steady, .int course_rate, .int course_state, .int course_skipping, .ref a_hist, .int course_changedAt, .int course_acceptedInRow, .int course_passedInGroup])), (a_hist, .inr (1, [.ref a_hr, .ref a_hb, .int hist_length])), (a_hr, .inl (X.2 2, 60, .inl hr_f)), (a_hb, .inl (X.2 0, 60, .inl hb_f)), (a_lot, .inr (2, [.int lot_order, .int lot_size, .long lot_findings, .int lot_verdict, .int lot_state, .int lot_inspected, .int lot_bad]))] sz) := by
  refine Met.ofW (cc := cX0_countForSkipping) (maxL := 2) (ret := none) (by decide) rfl ?_
  intro p e s m args below meth c s₁ B hml hv
  obtain ⟨rfl, hsz, hP, hK, hD0, hSt⟩ := hv
  have hx := B.exec
  have hb := B.bytes
  have hr := B.returns
  have hts := atoms_spec (ws := wsX0_countForSkipping) B.pre
  have hown : s.vm.findClass RX0 = some m.cls := findClass_of_methodNamed B.named
  have hlocks := B.notSynchronized
  subst hsz
  have hD := hD0.self (sz := s.heap.size)
  generalize hAe : va_A [(a_course, .inr (0, [.int course_steady, .int course_rate, .int course_state, .int course_skipping, .ref a_hist, .int course_changedAt, .int course_acceptedInRow, .int course_passedInGroup])), (a_hist, .inr (1, [.ref a_hr, .ref a_hb, .int hist_length])), (a_hr, .inl (X.2 2, 60, .inl hr_f)), (a_hb, .inl (X.2 0, 60, .inl hb_f)), (a_lot, .inr (2, [.int lot_order, .int lot_size, .long lot_findings, .int lot_verdict, .int lot_state, .int lot_inspected, .int lot_bad]))] s.heap.size = A at hD hSt ⊢
  have hA : ∀ q : Nat, s.heap.size ≤ q → A q := fun q h => by rw [← hAe]; exact Or.inr h
  have hS : va_S A s.heap s.heap [] := va_S.rf
  have hP : va_P X.1 vwCl [(a_course, .inr (0, [.int course_steady, .int course_rate, .int course_state, .int course_skipping, .ref a_hist, .int course_changedAt, .int course_acceptedInRow, .int course_passedInGroup])), (a_hist, .inr (1, [.ref a_hr, .ref a_hb, .int hist_length])), (a_hr, .inl (X.2 2, 60, .inl hr_f)), (a_hb, .inl (X.2 0, 60, .inl hb_f)), (a_lot, .inr (2, [.int lot_order, .int lot_size, .long lot_findings, .int lot_verdict, .int lot_state, .int lot_inspected, .int lot_bad]))] s.heap := hP
  have hl := lv_entry ([.ref a_course, .ref a_lot]) (n := 2) (Nat.le_of_ble_eq_true rfl)
  rw [lg_entry_eq]
  generalize (lg_sl ([.ref a_course, .ref a_lot]) ++ List.replicate (2 - (lg_sl ([.ref a_course, .ref a_lot])).length) Slot.unset).toArray = ls at hl ⊢
  have hl : lv_has ls 2 [(0, .ref a_course), (1, .ref a_lot)] := hl
  have B23 : (∀ (course_skipping : Int32) (course_acceptedInRow : Int32) (course_passedInGroup : Int32), fX0_countForSkipping_b23 N course_rate course_state lot_verdict lot_state course_skipping course_acceptedInRow course_passedInGroup = some r → ∀ (H : Heap) (locs : List Loc), va_P X.1 vwCl [(a_course, .inr (0, [.int course_steady, .int course_rate, .int course_state, .int course_skipping, .ref a_hist, .int course_changedAt, .int course_acceptedInRow, .int course_passedInGroup])), (a_hist, .inr (1, [.ref a_hr, .ref a_hb, .int hist_length])), (a_hr, .inl (X.2 2, 60, .inl hr_f)), (a_hb, .inl (X.2 0, 60, .inl hb_f)), (a_lot, .inr (2, [.int lot_order, .int lot_size, .long lot_findings, .int lot_verdict, .int lot_state, .int lot_inspected, .int lot_bad]))] H → va_D A [(a_course, .inr (0, [.int course_steady, .int course_rate, .int course_state, .int course_skipping, .ref a_hist, .int course_changedAt, .int course_acceptedInRow, .int course_passedInGroup])), (a_hist, .inr (1, [.ref a_hr, .ref a_hb, .int hist_length])), (a_hr, .inl (X.2 2, 60, .inl hr_f)), (a_hb, .inl (X.2 0, 60, .inl hb_f)), (a_lot, .inr (2, [.int lot_order, .int lot_size, .long lot_findings, .int lot_verdict, .int lot_state, .int lot_inspected, .int lot_bad]))] → va_S A s.heap H locs → ∀ ls : Array Slot, lv_has ls 2 [(0, .ref a_course)] → W p l e (headSpec wsX0_countForSkipping rmX0_countForSkipping).room s m (([.ref a_course, .ref a_lot] : List Value).toArray) below meth c H locs 0 0 (MQ below (va_Qv (fun _ : Unit => True) (fun _ t => wPost X [(a_course, .inr (0, [.int course_steady, .int course_rate, .int course_state, .int r.1, .ref a_hist, .int course_changedAt, .int r.2.1, .int r.2.2])), (a_hist, .inr (1, [.ref a_hr, .ref a_hb, .int hist_length])), (a_hr, .inl (X.2 2, 60, .inl hr_f)), (a_hb, .inl (X.2 0, 60, .inl hb_f)), (a_lot, .inr (2, [.int lot_order, .int lot_size, .long lot_findings, .int lot_verdict, .int lot_state, .int lot_inspected, .int lot_bad]))] t) A) ([.ref a_course, .ref a_lot] : List Value).toArray s 0 0 A) (F0 m 23 ls [])) := by
    intro course_skipping course_acceptedInRow course_passedInGroup hf H locs hP hD hS ls hl
    unfold fX0_countForSkipping_b23 at hf
    refine lv_aload_n hx hb dX0_countForSkipping_23 rfl (lv_at hl 0 rfl) ?_
    refine lv_iconst (v := 0) hx hb dX0_countForSkipping_24 (by decide) ?_
    refine va_put (D := X.1) (ci := 0) (v := .int 0) (ty := .boolean) (C := RX0) (T := TX0) (N := 8) hx hb hts iwX0_countForSkipping_X0 tyX0 tyX0_ok nmX0 hown hK hP hD hS 0 rfl rfl 3 (by decide) (hts _ lkX0_countForSkipping_4) (fun _ h9 => h9) rfl (by decide +kernel) rfl rfl (Nat.le_of_ble_eq_true rfl) dX0_countForSkipping_25 (fun H locs hP hD hS => ?_)
    have hP : va_P X.1 vwCl [(a_course, .inr (0, [.int course_steady, .int course_rate, .int course_state, .int 0, .ref a_hist, .int course_changedAt, .int course_acceptedInRow, .int course_passedInGroup])), (a_hist, .inr (1, [.ref a_hr, .ref a_hb, .int hist_length])), (a_hr, .inl (X.2 2, 60, .inl hr_f)), (a_hb, .inl (X.2 0, 60, .inl hb_f)), (a_lot, .inr (2, [.int lot_order, .int lot_size, .long lot_findings, .int lot_verdict, .int lot_state, .int lot_inspected, .int lot_bad]))] H := hP
    have hD : va_D A [(a_course, .inr (0, [.int course_steady, .int course_rate, .int course_state, .int 0, .ref a_hist, .int course_changedAt, .int course_acceptedInRow, .int course_passedInGroup])), (a_hist, .inr (1, [.ref a_hr, .ref a_hb, .int hist_length])), (a_hr, .inl (X.2 2, 60, .inl hr_f)), (a_hb, .inl (X.2 0, 60, .inl hb_f)), (a_lot, .inr (2, [.int lot_order, .int lot_size, .long lot_findings, .int lot_verdict, .int lot_state, .int lot_inspected, .int lot_bad]))] := hD
    refine lv_aload_n hx hb dX0_countForSkipping_28 rfl (lv_at hl 0 rfl) ?_
    refine lv_iconst (v := 0) hx hb dX0_countForSkipping_29 (by decide) ?_
    refine va_put (D := X.1) (ci := 0) (v := .int 0) (ty := .int) (C := RX0) (T := TX0) (N := 8) hx hb hts iwX0_countForSkipping_X0 tyX0 tyX0_ok nmX0 hown hK hP hD hS 0 rfl rfl 6 (by decide) (hts _ lkX0_countForSkipping_5) (fun _ h9 => h9) rfl (by decide +kernel) rfl rfl (Nat.le_of_ble_eq_true rfl) dX0_countForSkipping_30 (fun H locs hP hD hS => ?_)
    have hP : va_P X.1 vwCl [(a_course, .inr (0, [.int course_steady, .int course_rate, .int course_state, .int 0, .ref a_hist, .int course_changedAt, .int 0, .int course_passedInGroup])), (a_hist, .inr (1, [.ref a_hr, .ref a_hb, .int hist_length])), (a_hr, .inl (X.2 2, 60, .inl hr_f)), (a_hb, .inl (X.2 0, 60, .inl hb_f)), (a_lot, .inr (2, [.int lot_order, .int lot_size, .long lot_findings, .int lot_verdict, .int lot_state, .int lot_inspected, .int lot_bad]))] H := hP
    have hD : va_D A [(a_course, .inr (0, [.int course_steady, .int course_rate, .int course_state, .int 0, .ref a_hist, .int course_changedAt, .int 0, .int course_passedInGroup])), (a_hist, .inr (1, [.ref a_hr, .ref a_hb, .int hist_length])), (a_hr, .inl (X.2 2, 60, .inl hr_f)), (a_hb, .inl (X.2 0, 60, .inl hb_f)), (a_lot, .inr (2, [.int lot_order, .int lot_size, .long lot_findings, .int lot_verdict, .int lot_state, .int lot_inspected, .int lot_bad]))] := hD
    obtain rfl := Option.some.inj hf
    exact W.vret hx hb hr (fun t ht hW => ⟨⟨(), rfl, trivial, by rw [ht]; exact hP, va_K.moved hW.alike hK⟩, hS.F ht⟩) hS.2.2 dX0_countForSkipping_33
  have hf := hf0
  unfold fX0_countForSkipping at hf
  obtain ⟨H, hHe⟩ : ∃ z, z = s.heap := ⟨_, rfl⟩
  have hP : va_P X.1 vwCl [(a_course, .inr (0, [.int course_steady, .int course_rate, .int course_state, .int course_skipping, .ref a_hist, .int course_changedAt, .int course_acceptedInRow, .int course_passedInGroup])), (a_hist, .inr (1, [.ref a_hr, .ref a_hb, .int hist_length])), (a_hr, .inl (X.2 2, 60, .inl hr_f)), (a_hb, .inl (X.2 0, 60, .inl hb_f)), (a_lot, .inr (2, [.int lot_order, .int lot_size, .long lot_findings, .int lot_verdict, .int lot_state, .int lot_inspected, .int lot_bad]))] H := by rw [hHe]; exact hP
  have hS : va_S A s.heap H [] := by rw [hHe]; exact va_S.rf
  rw [← hHe]
  obtain ⟨locs, hLo⟩ : ∃ z : List Loc, z = [] := ⟨_, rfl⟩
  rw [← hLo] at hS ⊢
  refine lv_aload_n hx hb dX0_countForSkipping_0 rfl (lv_at hl 1 rfl) ?_
  refine va_get (D := X.1) (ci := 2) (v := .int lot_verdict) (C := RX3) (T := TX3) (N := 7) hx hb hts iwX0_countForSkipping_X3 hown hK hP 4 rfl rfl 3 (by decide) (hts _ lkX0_countForSkipping_1) (fun _ h9 => h9) rfl dX0_countForSkipping_1 ?_
  refine lv_if_eq (tgt := 23) hx hb dX0_countForSkipping_4 (by decide) (fun c_1 => ?_) (fun c_1 => ?_)
  · rw [if_pos c_1] at hf
    exact B23 course_skipping course_acceptedInRow course_passedInGroup hf H locs hP hD hS ls (lv_sub hl [0] rfl)
  · rw [if_neg c_1] at hf
    refine lv_aload_n hx hb dX0_countForSkipping_7 rfl (lv_at hl 1 rfl) ?_
    refine va_get (D := X.1) (ci := 2) (v := .int lot_state) (C := RX3) (T := TX3) (N := 7) hx hb hts iwX0_countForSkipping_X3 hown hK hP 4 rfl rfl 4 (by decide) (hts _ lkX0_countForSkipping_2) (fun _ h9 => h9) rfl dX0_countForSkipping_8 ?_
    refine lv_iconst (v := 1) hx hb dX0_countForSkipping_11 (by decide) ?_
    refine lv_icmp_eq (tgt := 23) hx hb dX0_countForSkipping_12 (by decide) (fun c_2 => ?_) (fun c_2 => ?_)
    · rw [if_pos c_2] at hf
      exact B23 course_skipping course_acceptedInRow course_passedInGroup hf H locs hP hD hS ls (lv_sub hl [0] rfl)
    · rw [if_neg c_2] at hf
      refine lv_aload_n hx hb dX0_countForSkipping_15 rfl (lv_at hl 0 rfl) ?_
      refine va_get (D := X.1) (ci := 0) (v := .int course_state) (C := RX0) (T := TX0) (N := 8) hx hb hts iwX0_countForSkipping_X0 hown hK hP 0 rfl rfl 2 (by decide) (hts _ lkX0_countForSkipping_3) (fun _ h9 => h9) rfl dX0_countForSkipping_16 ?_
      refine lv_iconst (v := 1) hx hb dX0_countForSkipping_19 (by decide) ?_
      refine lv_icmp_ne (tgt := 34) hx hb dX0_countForSkipping_20 (by decide) (fun c_3 => ?_) (fun c_3 => ?_)
      · rw [if_neg c_3] at hf
        refine lv_aload_n hx hb dX0_countForSkipping_34 rfl (lv_at hl 0 rfl) ?_
        refine lv_dup hx hb dX0_countForSkipping_35 rfl ?_
        refine va_get (D := X.1) (ci := 0) (v := .int course_acceptedInRow) (C := RX0) (T := TX0) (N := 8) hx hb hts iwX0_countForSkipping_X0 hown hK hP 0 rfl rfl 6 (by decide) (hts _ lkX0_countForSkipping_5) (fun _ h9 => h9) rfl dX0_countForSkipping_36 ?_
        refine lv_iconst (v := 1) hx hb dX0_countForSkipping_39 (by decide) ?_
        refine lv_iadd hx hb dX0_countForSkipping_40 ?_
        refine va_put (D := X.1) (ci := 0) (v := .int (course_acceptedInRow + 1)) (ty := .int) (C := RX0) (T := TX0) (N := 8) hx hb hts iwX0_countForSkipping_X0 tyX0 tyX0_ok nmX0 hown hK hP hD hS 0 rfl rfl 6 (by decide) (hts _ lkX0_countForSkipping_5) (fun _ h9 => h9) rfl (by decide +kernel) rfl rfl (Nat.le_of_ble_eq_true rfl) dX0_countForSkipping_41 (fun H locs hP hD hS => ?_)
        have hP : va_P X.1 vwCl [(a_course, .inr (0, [.int course_steady, .int course_rate, .int course_state, .int course_skipping, .ref a_hist, .int course_changedAt, .int (course_acceptedInRow + 1), .int course_passedInGroup])), (a_hist, .inr (1, [.ref a_hr, .ref a_hb, .int hist_length])), (a_hr, .inl (X.2 2, 60, .inl hr_f)), (a_hb, .inl (X.2 0, 60, .inl hb_f)), (a_lot, .inr (2, [.int lot_order, .int lot_size, .long lot_findings, .int lot_verdict, .int lot_state, .int lot_inspected, .int lot_bad]))] H := hP
        have hD : va_D A [(a_course, .inr (0, [.int course_steady, .int course_rate, .int course_state, .int course_skipping, .ref a_hist, .int course_changedAt, .int (course_acceptedInRow + 1), .int course_passedInGroup])), (a_hist, .inr (1, [.ref a_hr, .ref a_hb, .int hist_length])), (a_hr, .inl (X.2 2, 60, .inl hr_f)), (a_hb, .inl (X.2 0, 60, .inl hb_f)), (a_lot, .inr (2, [.int lot_order, .int lot_size, .long lot_findings, .int lot_verdict, .int lot_state, .int lot_inspected, .int lot_bad]))] := hD
        refine lv_aload_n hx hb dX0_countForSkipping_44 rfl (lv_at hl 0 rfl) ?_
        refine va_get (D := X.1) (ci := 0) (v := .int course_skipping) (C := RX0) (T := TX0) (N := 8) hx hb hts iwX0_countForSkipping_X0 hown hK hP 0 rfl rfl 3 (by decide) (hts _ lkX0_countForSkipping_4) (fun _ h9 => h9) rfl dX0_countForSkipping_45 ?_
        refine lv_if_ne (tgt := 77) hx hb dX0_countForSkipping_48 (by decide) (fun c_4 => ?_) (fun c_4 => ?_)
        · rw [if_neg c_4] at hf
          obtain rfl := Option.some.inj hf
          exact W.vret hx hb hr (fun t ht hW => ⟨⟨(), rfl, trivial, by rw [ht]; exact hP, va_K.moved hW.alike hK⟩, hS.F ht⟩) hS.2.2 dX0_countForSkipping_77
        · rw [if_pos c_4] at hf
          refine lv_aload_n hx hb dX0_countForSkipping_51 rfl (lv_at hl 0 rfl) ?_
          refine va_get (D := X.1) (ci := 0) (v := .int course_rate) (C := RX0) (T := TX0) (N := 8) hx hb hts iwX0_countForSkipping_X0 hown hK hP 0 rfl rfl 1 (by decide) (hts _ lkX0_countForSkipping_6) (fun _ h9 => h9) rfl dX0_countForSkipping_52 ?_
          refine lv_if_le (tgt := 77) hx hb dX0_countForSkipping_55 (by decide) (fun c_5 => ?_) (fun c_5 => ?_)
          · rw [if_pos c_5] at hf
            obtain rfl := Option.some.inj hf
            exact W.vret hx hb hr (fun t ht hW => ⟨⟨(), rfl, trivial, by rw [ht]; exact hP, va_K.moved hW.alike hK⟩, hS.F ht⟩) hS.2.2 dX0_countForSkipping_77
          · rw [if_neg c_5] at hf
            refine lv_aload_n hx hb dX0_countForSkipping_58 rfl (lv_at hl 0 rfl) ?_
            refine va_get (D := X.1) (ci := 0) (v := .int (course_acceptedInRow + 1)) (C := RX0) (T := TX0) (N := 8) hx hb hts iwX0_countForSkipping_X0 hown hK hP 0 rfl rfl 6 (by decide) (hts _ lkX0_countForSkipping_5) (fun _ h9 => h9) rfl dX0_countForSkipping_59 ?_
            refine lv_bipush (v := 8) hx hb dX0_countForSkipping_62 (by decide) ?_
            refine lv_icmp_lt (tgt := 77) hx hb dX0_countForSkipping_64 (by decide) (fun c_6 => ?_) (fun c_6 => ?_)
            · rw [if_pos c_6] at hf
              obtain rfl := Option.some.inj hf
              exact W.vret hx hb hr (fun t ht hW => ⟨⟨(), rfl, trivial, by rw [ht]; exact hP, va_K.moved hW.alike hK⟩, hS.F ht⟩) hS.2.2 dX0_countForSkipping_77
            · rw [if_neg c_6] at hf
              refine lv_aload_n hx hb dX0_countForSkipping_67 rfl (lv_at hl 0 rfl) ?_
              refine lv_iconst (v := 1) hx hb dX0_countForSkipping_68 (by decide) ?_
              refine va_put (D := X.1) (ci := 0) (v := .int 1) (ty := .boolean) (C := RX0) (T := TX0) (N := 8) hx hb hts iwX0_countForSkipping_X0 tyX0 tyX0_ok nmX0 hown hK hP hD hS 0 rfl rfl 3 (by decide) (hts _ lkX0_countForSkipping_4) (fun _ h9 => h9) rfl (by decide +kernel) rfl rfl (Nat.le_of_ble_eq_true rfl) dX0_countForSkipping_69 (fun H locs hP hD hS => ?_)
              have hP : va_P X.1 vwCl [(a_course, .inr (0, [.int course_steady, .int course_rate, .int course_state, .int 1, .ref a_hist, .int course_changedAt, .int (course_acceptedInRow + 1), .int course_passedInGroup])), (a_hist, .inr (1, [.ref a_hr, .ref a_hb, .int hist_length])), (a_hr, .inl (X.2 2, 60, .inl hr_f)), (a_hb, .inl (X.2 0, 60, .inl hb_f)), (a_lot, .inr (2, [.int lot_order, .int lot_size, .long lot_findings, .int lot_verdict, .int lot_state, .int lot_inspected, .int lot_bad]))] H := hP
              have hD : va_D A [(a_course, .inr (0, [.int course_steady, .int course_rate, .int course_state, .int 1, .ref a_hist, .int course_changedAt, .int (course_acceptedInRow + 1), .int course_passedInGroup])), (a_hist, .inr (1, [.ref a_hr, .ref a_hb, .int hist_length])), (a_hr, .inl (X.2 2, 60, .inl hr_f)), (a_hb, .inl (X.2 0, 60, .inl hb_f)), (a_lot, .inr (2, [.int lot_order, .int lot_size, .long lot_findings, .int lot_verdict, .int lot_state, .int lot_inspected, .int lot_bad]))] := hD
              refine lv_aload_n hx hb dX0_countForSkipping_72 rfl (lv_at hl 0 rfl) ?_
              refine lv_iconst (v := 0) hx hb dX0_countForSkipping_73 (by decide) ?_
              refine va_put (D := X.1) (ci := 0) (v := .int 0) (ty := .int) (C := RX0) (T := TX0) (N := 8) hx hb hts iwX0_countForSkipping_X0 tyX0 tyX0_ok nmX0 hown hK hP hD hS 0 rfl rfl 7 (by decide) (hts _ lkX0_countForSkipping_7) (fun _ h9 => h9) rfl (by decide +kernel) rfl rfl (Nat.le_of_ble_eq_true rfl) dX0_countForSkipping_74 (fun H locs hP hD hS => ?_)
              have hP : va_P X.1 vwCl [(a_course, .inr (0, [.int course_steady, .int course_rate, .int course_state, .int 1, .ref a_hist, .int course_changedAt, .int (course_acceptedInRow + 1), .int 0])), (a_hist, .inr (1, [.ref a_hr, .ref a_hb, .int hist_length])), (a_hr, .inl (X.2 2, 60, .inl hr_f)), (a_hb, .inl (X.2 0, 60, .inl hb_f)), (a_lot, .inr (2, [.int lot_order, .int lot_size, .long lot_findings, .int lot_verdict, .int lot_state, .int lot_inspected, .int lot_bad]))] H := hP
              have hD : va_D A [(a_course, .inr (0, [.int course_steady, .int course_rate, .int course_state, .int 1, .ref a_hist, .int course_changedAt, .int (course_acceptedInRow + 1), .int 0])), (a_hist, .inr (1, [.ref a_hr, .ref a_hb, .int hist_length])), (a_hr, .inl (X.2 2, 60, .inl hr_f)), (a_hb, .inl (X.2 0, 60, .inl hb_f)), (a_lot, .inr (2, [.int lot_order, .int lot_size, .long lot_findings, .int lot_verdict, .int lot_state, .int lot_inspected, .int lot_bad]))] := hD
              obtain rfl := Option.some.inj hf
              exact W.vret hx hb hr (fun t ht hW => ⟨⟨(), rfl, trivial, by rw [ht]; exact hP, va_K.moved hW.alike hK⟩, hS.F ht⟩) hS.2.2 dX0_countForSkipping_77
      · rw [if_pos c_3] at hf
        exact B23 course_skipping course_acceptedInRow course_passedInGroup hf H locs hP hD hS ls (lv_sub hl [0] rfl)
def rmX0_pass : Room := { frames := 4, cells := 0, slots := 0, locals := 94 }
theorem iwX0_pass_X0 : ∀ w ∈ wsX00, w ∈ wsX0_pass := fun w h => List.mem_cons_of_mem _ (List.mem_append_left _ (List.mem_append_left _ (List.mem_append_left _ (List.mem_append_right _ (h)))))
theorem iwX0_pass_X3 : ∀ w ∈ wsX30, w ∈ wsX0_pass := fun w h => List.mem_cons_of_mem _ (List.mem_append_left _ (List.mem_append_left _ (List.mem_append_right _ (h))))
theorem lkX0_pass_1 : Cond.fieldLink RX0 30 "InspectionOffice$Course" "state" "I" ∈ wsX0_pass := List.mem_of_getElem? (i := 1) rfl
theorem lkX0_pass_2 : Cond.fieldLink RX0 33 "InspectionOffice$Course" "changedAt" "I" ∈ wsX0_pass := List.mem_of_getElem? (i := 2) rfl
theorem lkX0_pass_3 : Cond.fieldLink RX0 36 "InspectionOffice$Lot" "state" "I" ∈ wsX0_pass := List.mem_of_getElem? (i := 3) rfl
theorem lkX0_pass_4 : Cond.fieldLink RX0 12 "InspectionOffice$Course" "history" "LInspectionOffice$History;" ∈ wsX0_pass := List.mem_of_getElem? (i := 4) rfl
theorem lkX0_pass_5 : Cond.fieldLink RX0 60 "InspectionOffice$Lot" "order" "I" ∈ wsX0_pass := List.mem_of_getElem? (i := 5) rfl
set_option maxHeartbeats 4000000 in
set_option maxRecDepth 100000 in
theorem mX0_pass (l : Launch) (X : cxT) (N : Nat) (a_course a_hist a_hr a_hb a_plans a_lot : Nat) (sz : Nat) (course_steady : Int32) (course_rate : Int32) (course_state : Int32) (course_skipping : Int32) (course_changedAt : Int32) (course_acceptedInRow : Int32) (course_passedInGroup : Int32) (hist_length : Int32) (hr_f : Nat → Int32) (hb_f : Nat → Int32) (plans_level : Int32) (plans_quality : Int32) (plans_twice : Int32) (lot_order : Int32) (lot_size : Int32) (lot_findings : Int64) (lot_verdict : Int32) (lot_state : Int32) (lot_inspected : Int32) (lot_bad : Int32) (p2 : Int32) (r : Int32 × Int32 × Int32 × Int32 × Int32 × Int32 × (Nat → Int32) × (Nat → Int32) × Int32 × Int32 × Int32 × Int32) (hf0 : fX0_pass N p2 course_steady course_rate course_state course_skipping course_changedAt course_acceptedInRow course_passedInGroup hist_length hr_f hb_f plans_level plans_quality plans_twice lot_order lot_size lot_findings lot_verdict lot_state lot_inspected lot_bad = some r) : Met l yX0_pass wsX0_pass rmX0_pass (wPre X sz [(a_course, .inr (0, [.int course_steady, .int course_rate, .int course_state, .int course_skipping, .ref a_hist, .int course_changedAt, .int course_acceptedInRow, .int course_passedInGroup])), (a_hist, .inr (1, [.ref a_hr, .ref a_hb, .int hist_length])), (a_hr, .inl (X.2 2, 60, .inl hr_f)), (a_hb, .inl (X.2 0, 60, .inl hb_f)), (a_plans, .inr (3, [.int plans_level, .int plans_quality, .int plans_twice])), (a_lot, .inr (2, [.int lot_order, .int lot_size, .long lot_findings, .int lot_verdict, .int lot_state, .int lot_inspected, .int lot_bad]))] [.ref a_course, .ref a_lot, .int p2, .ref a_plans]) (va_Qv (fun _ : Unit => True) (fun _ t => wPost X [(a_course, .inr (0, [.int course_steady, .int course_rate, .int r.1, .int r.2.1, .ref a_hist, .int r.2.2.1, .int r.2.2.2.1, .int r.2.2.2.2.1])), (a_hist, .inr (1, [.ref a_hr, .ref a_hb, .int r.2.2.2.2.2.1])), (a_hr, .inl (X.2 2, 60, .inl r.2.2.2.2.2.2.1)), (a_hb, .inl (X.2 0, 60, .inl r.2.2.2.2.2.2.2.1)), (a_plans, .inr (3, [.int plans_level, .int plans_quality, .int plans_twice])), (a_lot, .inr (2, [.int lot_order, .int lot_size, .long lot_findings, .int r.2.2.2.2.2.2.2.2.1, .int r.2.2.2.2.2.2.2.2.2.1, .int r.2.2.2.2.2.2.2.2.2.2.1, .int r.2.2.2.2.2.2.2.2.2.2.2]))] t) (va_A [(a_course, .inr (0, [.int course_steady, .int course_rate, .int course_state, .int course_skipping, .ref a_hist, .int course_changedAt, .int course_acceptedInRow, .int course_passedInGroup])), (a_hist, .inr (1, [.ref a_hr, .ref a_hb, .int hist_length])), (a_hr, .inl (X.2 2, 60, .inl hr_f)), (a_hb, .inl (X.2 0, 60, .inl hb_f)), (a_plans, .inr (3, [.int plans_level, .int plans_quality, .int plans_twice])), (a_lot, .inr (2, [.int lot_order, .int lot_size, .long lot_findings, .int lot_verdict, .int lot_state, .int lot_inspected, .int lot_bad]))] sz)) 0 0 (va_A [(a_course, .inr (0, [.int course_steady, .int course_rate, .int course_state, .int course_skipping, .ref a_hist, .int course_changedAt, .int course_acceptedInRow, .int course_passedInGroup])), (a_hist, .inr (1, [.ref a_hr, .ref a_hb, .int hist_length])), (a_hr, .inl (X.2 2, 60, .inl hr_f)), (a_hb, .inl (X.2 0, 60, .inl hb_f)), (a_plans, .inr (3, [.int plans_level, .int plans_quality, .int plans_twice])), (a_lot, .inr (2, [.int lot_order, .int lot_size, .long lot_findings, .int lot_verdict, .int lot_state, .int lot_inspected, .int lot_bad]))] sz) := by
  refine Met.ofW (cc := cX0_pass) (maxL := 5) (ret := none) (by decide) rfl ?_
  intro p e s m args below meth c s₁ B hml hv
  obtain ⟨rfl, hsz, hP, hK, hD0, hSt⟩ := hv
  have hx := B.exec
  have hb := B.bytes
  have hr := B.returns
  have hts := atoms_spec (ws := wsX0_pass) B.pre
  have hown : s.vm.findClass RX0 = some m.cls := findClass_of_methodNamed B.named
  have hlocks := B.notSynchronized
  subst hsz
  have hD := hD0.self (sz := s.heap.size)
  generalize hAe : va_A [(a_course, .inr (0, [.int course_steady, .int course_rate, .int course_state, .int course_skipping, .ref a_hist, .int course_changedAt, .int course_acceptedInRow, .int course_passedInGroup])), (a_hist, .inr (1, [.ref a_hr, .ref a_hb, .int hist_length])), (a_hr, .inl (X.2 2, 60, .inl hr_f)), (a_hb, .inl (X.2 0, 60, .inl hb_f)), (a_plans, .inr (3, [.int plans_level, .int plans_quality, .int plans_twice])), (a_lot, .inr (2, [.int lot_order, .int lot_size, .long lot_findings, .int lot_verdict, .int lot_state, .int lot_inspected, .int lot_bad]))] s.heap.size = A at hD hSt ⊢
  have hA : ∀ q : Nat, s.heap.size ≤ q → A q := fun q h => by rw [← hAe]; exact Or.inr h
  have hS : va_S A s.heap s.heap [] := va_S.rf
  have hP : va_P X.1 vwCl [(a_course, .inr (0, [.int course_steady, .int course_rate, .int course_state, .int course_skipping, .ref a_hist, .int course_changedAt, .int course_acceptedInRow, .int course_passedInGroup])), (a_hist, .inr (1, [.ref a_hr, .ref a_hb, .int hist_length])), (a_hr, .inl (X.2 2, 60, .inl hr_f)), (a_hb, .inl (X.2 0, 60, .inl hb_f)), (a_plans, .inr (3, [.int plans_level, .int plans_quality, .int plans_twice])), (a_lot, .inr (2, [.int lot_order, .int lot_size, .long lot_findings, .int lot_verdict, .int lot_state, .int lot_inspected, .int lot_bad]))] s.heap := hP
  have hl := lv_entry ([.ref a_course, .ref a_lot, .int p2, .ref a_plans]) (n := 5) (Nat.le_of_ble_eq_true rfl)
  rw [lg_entry_eq]
  generalize (lg_sl ([.ref a_course, .ref a_lot, .int p2, .ref a_plans]) ++ List.replicate (5 - (lg_sl ([.ref a_course, .ref a_lot, .int p2, .ref a_plans])).length) Slot.unset).toArray = ls at hl ⊢
  have hl : lv_has ls 5 [(0, .ref a_course), (1, .ref a_lot), (2, .int p2), (3, .ref a_plans)] := hl
  have B108 : (∀ (course_state : Int32) (course_skipping : Int32) (course_changedAt : Int32) (course_acceptedInRow : Int32) (course_passedInGroup : Int32) (hist_length : Int32) (hr_f : Nat → Int32) (hb_f : Nat → Int32) (lot_verdict : Int32) (lot_state : Int32) (lot_inspected : Int32) (lot_bad : Int32), fX0_pass_b108 N course_steady course_rate plans_level plans_quality plans_twice lot_order lot_size lot_findings course_state course_skipping course_changedAt course_acceptedInRow course_passedInGroup hist_length hr_f hb_f lot_verdict lot_state lot_inspected lot_bad = some r → ∀ (H : Heap) (locs : List Loc), va_P X.1 vwCl [(a_course, .inr (0, [.int course_steady, .int course_rate, .int course_state, .int course_skipping, .ref a_hist, .int course_changedAt, .int course_acceptedInRow, .int course_passedInGroup])), (a_hist, .inr (1, [.ref a_hr, .ref a_hb, .int hist_length])), (a_hr, .inl (X.2 2, 60, .inl hr_f)), (a_hb, .inl (X.2 0, 60, .inl hb_f)), (a_plans, .inr (3, [.int plans_level, .int plans_quality, .int plans_twice])), (a_lot, .inr (2, [.int lot_order, .int lot_size, .long lot_findings, .int lot_verdict, .int lot_state, .int lot_inspected, .int lot_bad]))] H → va_D A [(a_course, .inr (0, [.int course_steady, .int course_rate, .int course_state, .int course_skipping, .ref a_hist, .int course_changedAt, .int course_acceptedInRow, .int course_passedInGroup])), (a_hist, .inr (1, [.ref a_hr, .ref a_hb, .int hist_length])), (a_hr, .inl (X.2 2, 60, .inl hr_f)), (a_hb, .inl (X.2 0, 60, .inl hb_f)), (a_plans, .inr (3, [.int plans_level, .int plans_quality, .int plans_twice])), (a_lot, .inr (2, [.int lot_order, .int lot_size, .long lot_findings, .int lot_verdict, .int lot_state, .int lot_inspected, .int lot_bad]))] → va_S A s.heap H locs → ∀ ls : Array Slot, lv_has ls 5 [(0, .ref a_course), (1, .ref a_lot)] → W p l e (headSpec wsX0_pass rmX0_pass).room s m (([.ref a_course, .ref a_lot, .int p2, .ref a_plans] : List Value).toArray) below meth c H locs 0 0 (MQ below (va_Qv (fun _ : Unit => True) (fun _ t => wPost X [(a_course, .inr (0, [.int course_steady, .int course_rate, .int r.1, .int r.2.1, .ref a_hist, .int r.2.2.1, .int r.2.2.2.1, .int r.2.2.2.2.1])), (a_hist, .inr (1, [.ref a_hr, .ref a_hb, .int r.2.2.2.2.2.1])), (a_hr, .inl (X.2 2, 60, .inl r.2.2.2.2.2.2.1)), (a_hb, .inl (X.2 0, 60, .inl r.2.2.2.2.2.2.2.1)), (a_plans, .inr (3, [.int plans_level, .int plans_quality, .int plans_twice])), (a_lot, .inr (2, [.int lot_order, .int lot_size, .long lot_findings, .int r.2.2.2.2.2.2.2.2.1, .int r.2.2.2.2.2.2.2.2.2.1, .int r.2.2.2.2.2.2.2.2.2.2.1, .int r.2.2.2.2.2.2.2.2.2.2.2]))] t) A) ([.ref a_course, .ref a_lot, .int p2, .ref a_plans] : List Value).toArray s 0 0 A) (F0 m 108 ls [])) := by
    intro course_state course_skipping course_changedAt course_acceptedInRow course_passedInGroup hist_length hr_f hb_f lot_verdict lot_state lot_inspected lot_bad hf H locs hP hD hS ls hl
    unfold fX0_pass_b108 at hf
    refine lv_aload_n hx hb dX0_pass_108 rfl (lv_at hl 0 rfl) ?_
    refine lv_aload_n hx hb dX0_pass_109 rfl (lv_at hl 1 rfl) ?_
    obtain ⟨r_18, e_19, hf⟩ := bind_some hf
    have hFc := va_free (wc := [(a_course, .inr (0, [.int course_steady, .int course_rate, .int course_state, .int course_skipping, .ref a_hist, .int course_changedAt, .int course_acceptedInRow, .int course_passedInGroup])), (a_hist, .inr (1, [.ref a_hr, .ref a_hb, .int hist_length])), (a_hr, .inl (X.2 2, 60, .inl hr_f)), (a_hb, .inl (X.2 0, 60, .inl hb_f)), (a_lot, .inr (2, [.int lot_order, .int lot_size, .long lot_findings, .int lot_verdict, .int lot_state, .int lot_inspected, .int lot_bad]))]) hD hS hA [0, 1, 2, 3, 5] rfl
    refine va_callv (va_runV (As := [.ref a_lot]) (rest := []) ⟨hx, hb, hml, hown, hts⟩ (mX0_countForSkipping l X N a_course a_hist a_hr a_hb a_lot H.size course_steady course_rate course_state course_skipping course_changedAt course_acceptedInRow course_passedInGroup hist_length hr_f hb_f lot_order lot_size lot_findings lot_verdict lot_state lot_inspected lot_bad r_18 e_19) (cwV 1 hts gX0_pass_X0_countForSkipping rfl rfl rfl (by decide +kernel) ⟨Nat.le_of_ble_eq_true rfl, Nat.le_of_ble_eq_true rfl⟩) (wPreV hK hP hD hSt hS hFc [0, 1, 2, 3, 5] (by decide) rfl rfl 0 rfl rfl) rfl rfl hl.1 rfl (lv_room (Nat.le_of_ble_eq_true rfl)) dX0_pass_110 ⟨Nat.zero_le _, Nat.zero_le _⟩) hS (fun q _ h => hFc q h) hFc (fun u t H1 locs ht hvm hw hB hz1 hk1 hS => ?_)
    have hP1 := hB.1
    rw [ht] at hP1
    obtain ⟨hP, hD⟩ := wj hP hD [0, 1, 2, 3, 5] (wc := [(a_course, .inr (0, [.int course_steady, .int course_rate, .int course_state, .int course_skipping, .ref a_hist, .int course_changedAt, .int course_acceptedInRow, .int course_passedInGroup])), (a_hist, .inr (1, [.ref a_hr, .ref a_hb, .int hist_length])), (a_hr, .inl (X.2 2, 60, .inl hr_f)), (a_hb, .inl (X.2 0, 60, .inl hb_f)), (a_lot, .inr (2, [.int lot_order, .int lot_size, .long lot_findings, .int lot_verdict, .int lot_state, .int lot_inspected, .int lot_bad]))]) (w1 := [(a_course, .inr (0, [.int course_steady, .int course_rate, .int course_state, .int r_18.1, .ref a_hist, .int course_changedAt, .int r_18.2.1, .int r_18.2.2])), (a_hist, .inr (1, [.ref a_hr, .ref a_hb, .int hist_length])), (a_hr, .inl (X.2 2, 60, .inl hr_f)), (a_hb, .inl (X.2 0, 60, .inl hb_f)), (a_lot, .inr (2, [.int lot_order, .int lot_size, .long lot_findings, .int lot_verdict, .int lot_state, .int lot_inspected, .int lot_bad]))]) rfl rfl hk1 hP1
    have hP : va_P X.1 vwCl [(a_course, .inr (0, [.int course_steady, .int course_rate, .int course_state, .int r_18.1, .ref a_hist, .int course_changedAt, .int r_18.2.1, .int r_18.2.2])), (a_hist, .inr (1, [.ref a_hr, .ref a_hb, .int hist_length])), (a_hr, .inl (X.2 2, 60, .inl hr_f)), (a_hb, .inl (X.2 0, 60, .inl hb_f)), (a_plans, .inr (3, [.int plans_level, .int plans_quality, .int plans_twice])), (a_lot, .inr (2, [.int lot_order, .int lot_size, .long lot_findings, .int lot_verdict, .int lot_state, .int lot_inspected, .int lot_bad]))] H1 := hP
    have hD : va_D A [(a_course, .inr (0, [.int course_steady, .int course_rate, .int course_state, .int r_18.1, .ref a_hist, .int course_changedAt, .int r_18.2.1, .int r_18.2.2])), (a_hist, .inr (1, [.ref a_hr, .ref a_hb, .int hist_length])), (a_hr, .inl (X.2 2, 60, .inl hr_f)), (a_hb, .inl (X.2 0, 60, .inl hb_f)), (a_plans, .inr (3, [.int plans_level, .int plans_quality, .int plans_twice])), (a_lot, .inr (2, [.int lot_order, .int lot_size, .long lot_findings, .int lot_verdict, .int lot_state, .int lot_inspected, .int lot_bad]))] := hD
    generalize H1 = H at hP hS ⊢
    obtain rfl := Option.some.inj hf
    exact W.vret hx hb hr (fun t ht hW => ⟨⟨(), rfl, trivial, by rw [ht]; exact hP, va_K.moved hW.alike hK⟩, hS.F ht⟩) hS.2.2 dX0_pass_113
  have B21 : (∀ (course_state : Int32) (course_skipping : Int32) (course_changedAt : Int32) (course_acceptedInRow : Int32) (course_passedInGroup : Int32) (hist_length : Int32) (hr_f : Nat → Int32) (hb_f : Nat → Int32) (lot_verdict : Int32) (lot_state : Int32) (lot_inspected : Int32) (lot_bad : Int32), fX0_pass_b21 N course_steady course_rate plans_level plans_quality plans_twice lot_order lot_size lot_findings course_state course_skipping course_changedAt course_acceptedInRow course_passedInGroup hist_length hr_f hb_f lot_verdict lot_state lot_inspected lot_bad = some r → ∀ (H : Heap) (locs : List Loc), va_P X.1 vwCl [(a_course, .inr (0, [.int course_steady, .int course_rate, .int course_state, .int course_skipping, .ref a_hist, .int course_changedAt, .int course_acceptedInRow, .int course_passedInGroup])), (a_hist, .inr (1, [.ref a_hr, .ref a_hb, .int hist_length])), (a_hr, .inl (X.2 2, 60, .inl hr_f)), (a_hb, .inl (X.2 0, 60, .inl hb_f)), (a_plans, .inr (3, [.int plans_level, .int plans_quality, .int plans_twice])), (a_lot, .inr (2, [.int lot_order, .int lot_size, .long lot_findings, .int lot_verdict, .int lot_state, .int lot_inspected, .int lot_bad]))] H → va_D A [(a_course, .inr (0, [.int course_steady, .int course_rate, .int course_state, .int course_skipping, .ref a_hist, .int course_changedAt, .int course_acceptedInRow, .int course_passedInGroup])), (a_hist, .inr (1, [.ref a_hr, .ref a_hb, .int hist_length])), (a_hr, .inl (X.2 2, 60, .inl hr_f)), (a_hb, .inl (X.2 0, 60, .inl hb_f)), (a_plans, .inr (3, [.int plans_level, .int plans_quality, .int plans_twice])), (a_lot, .inr (2, [.int lot_order, .int lot_size, .long lot_findings, .int lot_verdict, .int lot_state, .int lot_inspected, .int lot_bad]))] → va_S A s.heap H locs → ∀ ls : Array Slot, lv_has ls 5 [(0, .ref a_course), (1, .ref a_lot), (3, .ref a_plans)] → W p l e (headSpec wsX0_pass rmX0_pass).room s m (([.ref a_course, .ref a_lot, .int p2, .ref a_plans] : List Value).toArray) below meth c H locs 0 0 (MQ below (va_Qv (fun _ : Unit => True) (fun _ t => wPost X [(a_course, .inr (0, [.int course_steady, .int course_rate, .int r.1, .int r.2.1, .ref a_hist, .int r.2.2.1, .int r.2.2.2.1, .int r.2.2.2.2.1])), (a_hist, .inr (1, [.ref a_hr, .ref a_hb, .int r.2.2.2.2.2.1])), (a_hr, .inl (X.2 2, 60, .inl r.2.2.2.2.2.2.1)), (a_hb, .inl (X.2 0, 60, .inl r.2.2.2.2.2.2.2.1)), (a_plans, .inr (3, [.int plans_level, .int plans_quality, .int plans_twice])), (a_lot, .inr (2, [.int lot_order, .int lot_size, .long lot_findings, .int r.2.2.2.2.2.2.2.2.1, .int r.2.2.2.2.2.2.2.2.2.1, .int r.2.2.2.2.2.2.2.2.2.2.1, .int r.2.2.2.2.2.2.2.2.2.2.2]))] t) A) ([.ref a_course, .ref a_lot, .int p2, .ref a_plans] : List Value).toArray s 0 0 A) (F0 m 21 ls [])) := by
    intro course_state course_skipping course_changedAt course_acceptedInRow course_passedInGroup hist_length hr_f hb_f lot_verdict lot_state lot_inspected lot_bad hf H locs hP hD hS ls hl
    unfold fX0_pass_b21 at hf
    refine lv_aload_n hx hb dX0_pass_21 rfl (lv_at hl 1 rfl) ?_
    refine lv_aload_n hx hb dX0_pass_22 rfl (lv_at hl 0 rfl) ?_
    refine va_get (D := X.1) (ci := 0) (v := .int course_state) (C := RX0) (T := TX0) (N := 8) hx hb hts iwX0_pass_X0 hown hK hP 0 rfl rfl 2 (by decide) (hts _ lkX0_pass_1) (fun _ h9 => h9) rfl dX0_pass_23 ?_
    refine va_put (D := X.1) (ci := 2) (v := .int course_state) (ty := .int) (C := RX3) (T := TX3) (N := 7) hx hb hts iwX0_pass_X3 tyX3 tyX3_ok nmX3 hown hK hP hD hS 5 rfl rfl 4 (by decide) (hts _ lkX0_pass_3) (fun _ h9 => h9) rfl (by decide +kernel) rfl rfl (Nat.le_of_ble_eq_true rfl) dX0_pass_26 (fun H locs hP hD hS => ?_)
    have hP : va_P X.1 vwCl [(a_course, .inr (0, [.int course_steady, .int course_rate, .int course_state, .int course_skipping, .ref a_hist, .int course_changedAt, .int course_acceptedInRow, .int course_passedInGroup])), (a_hist, .inr (1, [.ref a_hr, .ref a_hb, .int hist_length])), (a_hr, .inl (X.2 2, 60, .inl hr_f)), (a_hb, .inl (X.2 0, 60, .inl hb_f)), (a_plans, .inr (3, [.int plans_level, .int plans_quality, .int plans_twice])), (a_lot, .inr (2, [.int lot_order, .int lot_size, .long lot_findings, .int lot_verdict, .int course_state, .int lot_inspected, .int lot_bad]))] H := hP
    have hD : va_D A [(a_course, .inr (0, [.int course_steady, .int course_rate, .int course_state, .int course_skipping, .ref a_hist, .int course_changedAt, .int course_acceptedInRow, .int course_passedInGroup])), (a_hist, .inr (1, [.ref a_hr, .ref a_hb, .int hist_length])), (a_hr, .inl (X.2 2, 60, .inl hr_f)), (a_hb, .inl (X.2 0, 60, .inl hb_f)), (a_plans, .inr (3, [.int plans_level, .int plans_quality, .int plans_twice])), (a_lot, .inr (2, [.int lot_order, .int lot_size, .long lot_findings, .int lot_verdict, .int course_state, .int lot_inspected, .int lot_bad]))] := hD
    refine lv_aload_n hx hb dX0_pass_29 rfl (lv_at hl 0 rfl) ?_
    refine va_get (D := X.1) (ci := 0) (v := .int course_state) (C := RX0) (T := TX0) (N := 8) hx hb hts iwX0_pass_X0 hown hK hP 0 rfl rfl 2 (by decide) (hts _ lkX0_pass_1) (fun _ h9 => h9) rfl dX0_pass_30 ?_
    refine lv_iconst (v := 3) hx hb dX0_pass_33 (by decide) ?_
    refine lv_icmp_ne (tgt := 45) hx hb dX0_pass_34 (by decide) (fun c_1 => ?_) (fun c_1 => ?_)
    · rw [if_neg c_1] at hf
      refine lv_aload_n hx hb dX0_pass_45 rfl (lv_at hl 0 rfl) ?_
      obtain ⟨r_2, e_3, hf⟩ := bind_some hf
      have hFc := va_free (wc := [(a_course, .inr (0, [.int course_steady, .int course_rate, .int course_state, .int course_skipping, .ref a_hist, .int course_changedAt, .int course_acceptedInRow, .int course_passedInGroup])), (a_hist, .inr (1, [.ref a_hr, .ref a_hb, .int hist_length])), (a_hr, .inl (X.2 2, 60, .inl hr_f)), (a_hb, .inl (X.2 0, 60, .inl hb_f))]) hD hS hA [0, 1, 2, 3] rfl
      refine va_calli (va_runV (As := []) (rest := []) ⟨hx, hb, hml, hown, hts⟩ (mX0_isPassedOver l X N a_course a_hist a_hr a_hb H.size course_steady course_rate course_state course_skipping course_changedAt course_acceptedInRow course_passedInGroup hist_length hr_f hb_f r_2 e_3) (cwV 0 hts gX0_pass_X0_isPassedOver rfl rfl rfl (by decide +kernel) ⟨Nat.le_of_ble_eq_true rfl, Nat.le_of_ble_eq_true rfl⟩) (wPreV hK hP hD hSt hS hFc [0, 1, 2, 3] (by decide) rfl rfl 0 rfl rfl) rfl rfl hl.1 rfl (lv_room (Nat.le_of_ble_eq_true rfl)) dX0_pass_46 ⟨Nat.zero_le _, Nat.zero_le _⟩) hS (fun q _ h => hFc q h) hFc (fun v9 u t H1 locs ht hvm hw hB hz1 hk1 hS => ?_)
      have hP1 := hB.1
      rw [ht] at hP1
      obtain ⟨hP, hD⟩ := wj hP hD [0, 1, 2, 3] (wc := [(a_course, .inr (0, [.int course_steady, .int course_rate, .int course_state, .int course_skipping, .ref a_hist, .int course_changedAt, .int course_acceptedInRow, .int course_passedInGroup])), (a_hist, .inr (1, [.ref a_hr, .ref a_hb, .int hist_length])), (a_hr, .inl (X.2 2, 60, .inl hr_f)), (a_hb, .inl (X.2 0, 60, .inl hb_f))]) (w1 := [(a_course, .inr (0, [.int course_steady, .int course_rate, .int course_state, .int course_skipping, .ref a_hist, .int course_changedAt, .int course_acceptedInRow, .int r_2.2])), (a_hist, .inr (1, [.ref a_hr, .ref a_hb, .int hist_length])), (a_hr, .inl (X.2 2, 60, .inl hr_f)), (a_hb, .inl (X.2 0, 60, .inl hb_f))]) rfl rfl hk1 hP1
      have hP : va_P X.1 vwCl [(a_course, .inr (0, [.int course_steady, .int course_rate, .int course_state, .int course_skipping, .ref a_hist, .int course_changedAt, .int course_acceptedInRow, .int r_2.2])), (a_hist, .inr (1, [.ref a_hr, .ref a_hb, .int hist_length])), (a_hr, .inl (X.2 2, 60, .inl hr_f)), (a_hb, .inl (X.2 0, 60, .inl hb_f)), (a_plans, .inr (3, [.int plans_level, .int plans_quality, .int plans_twice])), (a_lot, .inr (2, [.int lot_order, .int lot_size, .long lot_findings, .int lot_verdict, .int course_state, .int lot_inspected, .int lot_bad]))] H1 := hP
      have hD : va_D A [(a_course, .inr (0, [.int course_steady, .int course_rate, .int course_state, .int course_skipping, .ref a_hist, .int course_changedAt, .int course_acceptedInRow, .int r_2.2])), (a_hist, .inr (1, [.ref a_hr, .ref a_hb, .int hist_length])), (a_hr, .inl (X.2 2, 60, .inl hr_f)), (a_hb, .inl (X.2 0, 60, .inl hb_f)), (a_plans, .inr (3, [.int plans_level, .int plans_quality, .int plans_twice])), (a_lot, .inr (2, [.int lot_order, .int lot_size, .long lot_findings, .int lot_verdict, .int course_state, .int lot_inspected, .int lot_bad]))] := hD
      generalize H1 = H at hP hS ⊢
      rw [hw]
      refine lv_if_eq (tgt := 60) hx hb dX0_pass_49 (by decide) (fun c_4 => ?_) (fun c_4 => ?_)
      · rw [if_pos c_4] at hf
        refine lv_aload_n hx hb dX0_pass_60 rfl (lv_at hl 2 rfl) ?_
        refine lv_aload_n hx hb dX0_pass_61 rfl (lv_at hl 1 rfl) ?_
        refine lv_aload_n hx hb dX0_pass_62 rfl (lv_at hl 0 rfl) ?_
        refine va_get (D := X.1) (ci := 0) (v := .int course_state) (C := RX0) (T := TX0) (N := 8) hx hb hts iwX0_pass_X0 hown hK hP 0 rfl rfl 2 (by decide) (hts _ lkX0_pass_1) (fun _ h9 => h9) rfl dX0_pass_63 ?_
        obtain ⟨r_5, e_6, hf⟩ := bind_some hf
        have hFc := va_free (wc := [(a_plans, .inr (3, [.int plans_level, .int plans_quality, .int plans_twice])), (a_lot, .inr (2, [.int lot_order, .int lot_size, .long lot_findings, .int lot_verdict, .int course_state, .int lot_inspected, .int lot_bad]))]) hD hS hA [4, 5] rfl
        refine va_callv (va_runV (As := [.ref a_lot, .int course_state]) (rest := []) ⟨hx, hb, hml, hown, hts⟩ (mX4_inspect l X N a_plans a_lot H.size plans_level plans_quality plans_twice lot_order lot_size lot_findings lot_verdict course_state lot_inspected lot_bad course_state r_5 e_6) (cwV 2 hts gX0_pass_X4_inspect rfl rfl rfl (by decide +kernel) ⟨Nat.le_of_ble_eq_true rfl, Nat.le_of_ble_eq_true rfl⟩) (wPreV hK hP hD hSt hS hFc [4, 5] (by decide) rfl rfl 4 rfl rfl) rfl rfl hl.1 rfl (lv_room (Nat.le_of_ble_eq_true rfl)) dX0_pass_66 ⟨Nat.zero_le _, Nat.zero_le _⟩) hS (fun q _ h => hFc q h) hFc (fun u t H1 locs ht hvm hw hB hz1 hk1 hS => ?_)
        have hP1 := hB.1
        rw [ht] at hP1
        obtain ⟨hP, hD⟩ := wj hP hD [4, 5] (wc := [(a_plans, .inr (3, [.int plans_level, .int plans_quality, .int plans_twice])), (a_lot, .inr (2, [.int lot_order, .int lot_size, .long lot_findings, .int lot_verdict, .int course_state, .int lot_inspected, .int lot_bad]))]) (w1 := [(a_plans, .inr (3, [.int plans_level, .int plans_quality, .int plans_twice])), (a_lot, .inr (2, [.int lot_order, .int lot_size, .long lot_findings, .int r_5.1, .int course_state, .int r_5.2.1, .int r_5.2.2]))]) rfl rfl hk1 hP1
        have hP : va_P X.1 vwCl [(a_course, .inr (0, [.int course_steady, .int course_rate, .int course_state, .int course_skipping, .ref a_hist, .int course_changedAt, .int course_acceptedInRow, .int r_2.2])), (a_hist, .inr (1, [.ref a_hr, .ref a_hb, .int hist_length])), (a_hr, .inl (X.2 2, 60, .inl hr_f)), (a_hb, .inl (X.2 0, 60, .inl hb_f)), (a_plans, .inr (3, [.int plans_level, .int plans_quality, .int plans_twice])), (a_lot, .inr (2, [.int lot_order, .int lot_size, .long lot_findings, .int r_5.1, .int course_state, .int r_5.2.1, .int r_5.2.2]))] H1 := hP
        have hD : va_D A [(a_course, .inr (0, [.int course_steady, .int course_rate, .int course_state, .int course_skipping, .ref a_hist, .int course_changedAt, .int course_acceptedInRow, .int r_2.2])), (a_hist, .inr (1, [.ref a_hr, .ref a_hb, .int hist_length])), (a_hr, .inl (X.2 2, 60, .inl hr_f)), (a_hb, .inl (X.2 0, 60, .inl hb_f)), (a_plans, .inr (3, [.int plans_level, .int plans_quality, .int plans_twice])), (a_lot, .inr (2, [.int lot_order, .int lot_size, .long lot_findings, .int r_5.1, .int course_state, .int r_5.2.1, .int r_5.2.2]))] := hD
        generalize H1 = H at hP hS ⊢
        refine lv_aload_n hx hb dX0_pass_69 rfl (lv_at hl 0 rfl) ?_
        refine va_get (D := X.1) (ci := 0) (v := .ref a_hist) (C := RX0) (T := TX0) (N := 8) hx hb hts iwX0_pass_X0 hown hK hP 0 rfl rfl 4 (by decide) (hts _ lkX0_pass_4) (fun _ h9 => h9) rfl dX0_pass_70 ?_
        refine lv_aload_n hx hb dX0_pass_73 rfl (lv_at hl 1 rfl) ?_
        obtain ⟨r_7, e_8, hf⟩ := bind_some hf
        have hFc := va_free (wc := [(a_hist, .inr (1, [.ref a_hr, .ref a_hb, .int hist_length])), (a_hr, .inl (X.2 2, 60, .inl hr_f)), (a_hb, .inl (X.2 0, 60, .inl hb_f)), (a_lot, .inr (2, [.int lot_order, .int lot_size, .long lot_findings, .int r_5.1, .int course_state, .int r_5.2.1, .int r_5.2.2]))]) hD hS hA [1, 2, 3, 5] rfl
        refine va_callv (va_runV (As := [.ref a_lot]) (rest := []) ⟨hx, hb, hml, hown, hts⟩ (mX2_add l X N a_hist a_hr a_hb a_lot H.size hist_length hr_f hb_f lot_order lot_size lot_findings r_5.1 course_state r_5.2.1 r_5.2.2 r_7 e_8) (cwV 1 hts gX0_pass_X2_add rfl rfl rfl (by decide +kernel) ⟨Nat.le_of_ble_eq_true rfl, Nat.le_of_ble_eq_true rfl⟩) (wPreV hK hP hD hSt hS hFc [1, 2, 3, 5] (by decide) rfl rfl 1 rfl rfl) rfl rfl hl.1 rfl (lv_room (Nat.le_of_ble_eq_true rfl)) dX0_pass_74 ⟨Nat.zero_le _, Nat.zero_le _⟩) hS (fun q _ h => hFc q h) hFc (fun u t H1 locs ht hvm hw hB hz1 hk1 hS => ?_)
        have hP1 := hB.1
        rw [ht] at hP1
        obtain ⟨hP, hD⟩ := wj hP hD [1, 2, 3, 5] (wc := [(a_hist, .inr (1, [.ref a_hr, .ref a_hb, .int hist_length])), (a_hr, .inl (X.2 2, 60, .inl hr_f)), (a_hb, .inl (X.2 0, 60, .inl hb_f)), (a_lot, .inr (2, [.int lot_order, .int lot_size, .long lot_findings, .int r_5.1, .int course_state, .int r_5.2.1, .int r_5.2.2]))]) (w1 := [(a_hist, .inr (1, [.ref a_hr, .ref a_hb, .int r_7.1])), (a_hr, .inl (X.2 2, 60, .inl r_7.2.1)), (a_hb, .inl (X.2 0, 60, .inl r_7.2.2)), (a_lot, .inr (2, [.int lot_order, .int lot_size, .long lot_findings, .int r_5.1, .int course_state, .int r_5.2.1, .int r_5.2.2]))]) rfl rfl hk1 hP1
        have hP : va_P X.1 vwCl [(a_course, .inr (0, [.int course_steady, .int course_rate, .int course_state, .int course_skipping, .ref a_hist, .int course_changedAt, .int course_acceptedInRow, .int r_2.2])), (a_hist, .inr (1, [.ref a_hr, .ref a_hb, .int r_7.1])), (a_hr, .inl (X.2 2, 60, .inl r_7.2.1)), (a_hb, .inl (X.2 0, 60, .inl r_7.2.2)), (a_plans, .inr (3, [.int plans_level, .int plans_quality, .int plans_twice])), (a_lot, .inr (2, [.int lot_order, .int lot_size, .long lot_findings, .int r_5.1, .int course_state, .int r_5.2.1, .int r_5.2.2]))] H1 := hP
        have hD : va_D A [(a_course, .inr (0, [.int course_steady, .int course_rate, .int course_state, .int course_skipping, .ref a_hist, .int course_changedAt, .int course_acceptedInRow, .int r_2.2])), (a_hist, .inr (1, [.ref a_hr, .ref a_hb, .int r_7.1])), (a_hr, .inl (X.2 2, 60, .inl r_7.2.1)), (a_hb, .inl (X.2 0, 60, .inl r_7.2.2)), (a_plans, .inr (3, [.int plans_level, .int plans_quality, .int plans_twice])), (a_lot, .inr (2, [.int lot_order, .int lot_size, .long lot_findings, .int r_5.1, .int course_state, .int r_5.2.1, .int r_5.2.2]))] := hD
        generalize H1 = H at hP hS ⊢
        refine lv_aload_n hx hb dX0_pass_77 rfl (lv_at hl 0 rfl) ?_
        refine lv_aload_n hx hb dX0_pass_78 rfl (lv_at hl 1 rfl) ?_
        refine lv_aload_n hx hb dX0_pass_79 rfl (lv_at hl 2 rfl) ?_
        obtain ⟨r_9, e_10, hf⟩ := bind_some hf
        refine vp_callSi (W.runV (As := [.ref a_lot, .ref a_plans]) (rest := []) ⟨hx, hb, hml, hown, hts⟩ (mX0_nextBehind l X N a_course a_hist a_hr a_hb a_plans a_lot course_steady course_rate course_state course_skipping course_changedAt course_acceptedInRow r_2.2 r_7.1 r_7.2.1 r_7.2.2 plans_level plans_quality plans_twice lot_order lot_size lot_findings r_5.1 course_state r_5.2.1 r_5.2.2 r_9 e_10) (cwV 2 hts gX0_pass_X0_nextBehind rfl rfl rfl (by decide +kernel) ⟨Nat.le_of_ble_eq_true rfl, Nat.le_of_ble_eq_true rfl⟩) (rPreV hK hP hSt hS [0, 1, 2, 3, 4, 5] rfl 0 rfl rfl) rfl rfl hl.1 rfl (lv_room (Nat.le_of_ble_eq_true rfl)) dX0_pass_80 ⟨Nat.zero_le _, Nat.zero_le _⟩) (fun v9 e9 => ?_)
        rw [e9]
        refine lv_istore (lv' := [(4, .int r_9), (0, .ref a_course), (1, .ref a_lot), (3, .ref a_plans)]) hx hb dX0_pass_83 hl (by decide) rfl (fun ls hl => ?_)
        refine lv_iload hx hb dX0_pass_85 (lv_at hl 0 rfl) ?_
        refine lv_aload_n hx hb dX0_pass_87 rfl (lv_at hl 1 rfl) ?_
        refine va_get (D := X.1) (ci := 0) (v := .int course_state) (C := RX0) (T := TX0) (N := 8) hx hb hts iwX0_pass_X0 hown hK hP 0 rfl rfl 2 (by decide) (hts _ lkX0_pass_1) (fun _ h9 => h9) rfl dX0_pass_88 ?_
        refine lv_icmp_eq (tgt := 108) hx hb dX0_pass_91 (by decide) (fun c_11 => ?_) (fun c_11 => ?_)
        · rw [if_pos c_11] at hf
          exact B108 course_state course_skipping course_changedAt course_acceptedInRow r_2.2 r_7.1 r_7.2.1 r_7.2.2 r_5.1 course_state r_5.2.1 r_5.2.2 hf H locs hP hD hS ls (lv_sub hl [1, 2] rfl)
        · rw [if_neg c_11] at hf
          refine lv_aload_n hx hb dX0_pass_94 rfl (lv_at hl 1 rfl) ?_
          refine lv_iload hx hb dX0_pass_95 (lv_at hl 0 rfl) ?_
          obtain ⟨r_12, e_13, hf⟩ := bind_some hf
          have hFc := va_free (wc := [(a_course, .inr (0, [.int course_steady, .int course_rate, .int course_state, .int course_skipping, .ref a_hist, .int course_changedAt, .int course_acceptedInRow, .int r_2.2])), (a_hist, .inr (1, [.ref a_hr, .ref a_hb, .int r_7.1])), (a_hr, .inl (X.2 2, 60, .inl r_7.2.1)), (a_hb, .inl (X.2 0, 60, .inl r_7.2.2))]) hD hS hA [0, 1, 2, 3] rfl
          refine va_callv (va_runV (As := [.int r_9]) (rest := []) ⟨hx, hb, hml, hown, hts⟩ (mX0_begin l X N a_course a_hist a_hr a_hb H.size course_steady course_rate course_state course_skipping course_changedAt course_acceptedInRow r_2.2 r_7.1 r_7.2.1 r_7.2.2 r_9 r_12 e_13) (cwV 1 hts gX0_pass_X0_begin rfl rfl rfl (by decide +kernel) ⟨Nat.le_of_ble_eq_true rfl, Nat.le_of_ble_eq_true rfl⟩) (wPreV hK hP hD hSt hS hFc [0, 1, 2, 3] (by decide) rfl rfl 0 rfl rfl) rfl rfl hl.1 rfl (lv_room (Nat.le_of_ble_eq_true rfl)) dX0_pass_97 ⟨Nat.zero_le _, Nat.zero_le _⟩) hS (fun q _ h => hFc q h) hFc (fun u t H1 locs ht hvm hw hB hz1 hk1 hS => ?_)
          have hP1 := hB.1
          rw [ht] at hP1
          obtain ⟨hP, hD⟩ := wj hP hD [0, 1, 2, 3] (wc := [(a_course, .inr (0, [.int course_steady, .int course_rate, .int course_state, .int course_skipping, .ref a_hist, .int course_changedAt, .int course_acceptedInRow, .int r_2.2])), (a_hist, .inr (1, [.ref a_hr, .ref a_hb, .int r_7.1])), (a_hr, .inl (X.2 2, 60, .inl r_7.2.1)), (a_hb, .inl (X.2 0, 60, .inl r_7.2.2))]) (w1 := [(a_course, .inr (0, [.int course_steady, .int course_rate, .int r_12.1, .int course_skipping, .ref a_hist, .int course_changedAt, .int course_acceptedInRow, .int r_2.2])), (a_hist, .inr (1, [.ref a_hr, .ref a_hb, .int r_12.2])), (a_hr, .inl (X.2 2, 60, .inl r_7.2.1)), (a_hb, .inl (X.2 0, 60, .inl r_7.2.2))]) rfl rfl hk1 hP1
          have hP : va_P X.1 vwCl [(a_course, .inr (0, [.int course_steady, .int course_rate, .int r_12.1, .int course_skipping, .ref a_hist, .int course_changedAt, .int course_acceptedInRow, .int r_2.2])), (a_hist, .inr (1, [.ref a_hr, .ref a_hb, .int r_12.2])), (a_hr, .inl (X.2 2, 60, .inl r_7.2.1)), (a_hb, .inl (X.2 0, 60, .inl r_7.2.2)), (a_plans, .inr (3, [.int plans_level, .int plans_quality, .int plans_twice])), (a_lot, .inr (2, [.int lot_order, .int lot_size, .long lot_findings, .int r_5.1, .int course_state, .int r_5.2.1, .int r_5.2.2]))] H1 := hP
          have hD : va_D A [(a_course, .inr (0, [.int course_steady, .int course_rate, .int r_12.1, .int course_skipping, .ref a_hist, .int course_changedAt, .int course_acceptedInRow, .int r_2.2])), (a_hist, .inr (1, [.ref a_hr, .ref a_hb, .int r_12.2])), (a_hr, .inl (X.2 2, 60, .inl r_7.2.1)), (a_hb, .inl (X.2 0, 60, .inl r_7.2.2)), (a_plans, .inr (3, [.int plans_level, .int plans_quality, .int plans_twice])), (a_lot, .inr (2, [.int lot_order, .int lot_size, .long lot_findings, .int r_5.1, .int course_state, .int r_5.2.1, .int r_5.2.2]))] := hD
          generalize H1 = H at hP hS ⊢
          refine lv_aload_n hx hb dX0_pass_100 rfl (lv_at hl 1 rfl) ?_
          refine lv_aload_n hx hb dX0_pass_101 rfl (lv_at hl 2 rfl) ?_
          refine va_get (D := X.1) (ci := 2) (v := .int lot_order) (C := RX3) (T := TX3) (N := 7) hx hb hts iwX0_pass_X3 hown hK hP 5 rfl rfl 0 (by decide) (hts _ lkX0_pass_5) (fun _ h9 => h9) rfl dX0_pass_102 ?_
          refine va_put (D := X.1) (ci := 0) (v := .int lot_order) (ty := .int) (C := RX0) (T := TX0) (N := 8) hx hb hts iwX0_pass_X0 tyX0 tyX0_ok nmX0 hown hK hP hD hS 0 rfl rfl 5 (by decide) (hts _ lkX0_pass_2) (fun _ h9 => h9) rfl (by decide +kernel) rfl rfl (Nat.le_of_ble_eq_true rfl) dX0_pass_105 (fun H locs hP hD hS => ?_)
          have hP : va_P X.1 vwCl [(a_course, .inr (0, [.int course_steady, .int course_rate, .int r_12.1, .int course_skipping, .ref a_hist, .int lot_order, .int course_acceptedInRow, .int r_2.2])), (a_hist, .inr (1, [.ref a_hr, .ref a_hb, .int r_12.2])), (a_hr, .inl (X.2 2, 60, .inl r_7.2.1)), (a_hb, .inl (X.2 0, 60, .inl r_7.2.2)), (a_plans, .inr (3, [.int plans_level, .int plans_quality, .int plans_twice])), (a_lot, .inr (2, [.int lot_order, .int lot_size, .long lot_findings, .int r_5.1, .int course_state, .int r_5.2.1, .int r_5.2.2]))] H := hP
          have hD : va_D A [(a_course, .inr (0, [.int course_steady, .int course_rate, .int r_12.1, .int course_skipping, .ref a_hist, .int lot_order, .int course_acceptedInRow, .int r_2.2])), (a_hist, .inr (1, [.ref a_hr, .ref a_hb, .int r_12.2])), (a_hr, .inl (X.2 2, 60, .inl r_7.2.1)), (a_hb, .inl (X.2 0, 60, .inl r_7.2.2)), (a_plans, .inr (3, [.int plans_level, .int plans_quality, .int plans_twice])), (a_lot, .inr (2, [.int lot_order, .int lot_size, .long lot_findings, .int r_5.1, .int course_state, .int r_5.2.1, .int r_5.2.2]))] := hD
          exact B108 r_12.1 course_skipping lot_order course_acceptedInRow r_2.2 r_12.2 r_7.2.1 r_7.2.2 r_5.1 course_state r_5.2.1 r_5.2.2 hf H locs hP hD hS ls (lv_sub hl [1, 2] rfl)
      · rw [if_neg c_4] at hf
        refine lv_aload_n hx hb dX0_pass_52 rfl (lv_at hl 1 rfl) ?_
        refine lv_iconst (v := 2) hx hb dX0_pass_53 (by decide) ?_
        obtain ⟨r_14, e_15, hf⟩ := bind_some hf
        have hFc := va_free (wc := [(a_lot, .inr (2, [.int lot_order, .int lot_size, .long lot_findings, .int lot_verdict, .int course_state, .int lot_inspected, .int lot_bad]))]) hD hS hA [5] rfl
        refine va_callv (va_runV (As := [.int 2]) (rest := []) ⟨hx, hb, hml, hown, hts⟩ (mX3_leaveUninspected l X N a_lot H.size lot_order lot_size lot_findings lot_verdict course_state lot_inspected lot_bad 2 r_14 e_15) (cwV 1 hts gX0_pass_X3_leaveUninspected rfl rfl rfl (by decide +kernel) ⟨Nat.le_of_ble_eq_true rfl, Nat.le_of_ble_eq_true rfl⟩) (wPreV hK hP hD hSt hS hFc [5] (by decide) rfl rfl 5 rfl rfl) rfl rfl hl.1 rfl (lv_room (Nat.le_of_ble_eq_true rfl)) dX0_pass_54 ⟨Nat.zero_le _, Nat.zero_le _⟩) hS (fun q _ h => hFc q h) hFc (fun u t H1 locs ht hvm hw hB hz1 hk1 hS => ?_)
        have hP1 := hB.1
        rw [ht] at hP1
        obtain ⟨hP, hD⟩ := wj hP hD [5] (wc := [(a_lot, .inr (2, [.int lot_order, .int lot_size, .long lot_findings, .int lot_verdict, .int course_state, .int lot_inspected, .int lot_bad]))]) (w1 := [(a_lot, .inr (2, [.int lot_order, .int lot_size, .long lot_findings, .int r_14.1, .int course_state, .int r_14.2.1, .int r_14.2.2]))]) rfl rfl hk1 hP1
        have hP : va_P X.1 vwCl [(a_course, .inr (0, [.int course_steady, .int course_rate, .int course_state, .int course_skipping, .ref a_hist, .int course_changedAt, .int course_acceptedInRow, .int r_2.2])), (a_hist, .inr (1, [.ref a_hr, .ref a_hb, .int hist_length])), (a_hr, .inl (X.2 2, 60, .inl hr_f)), (a_hb, .inl (X.2 0, 60, .inl hb_f)), (a_plans, .inr (3, [.int plans_level, .int plans_quality, .int plans_twice])), (a_lot, .inr (2, [.int lot_order, .int lot_size, .long lot_findings, .int r_14.1, .int course_state, .int r_14.2.1, .int r_14.2.2]))] H1 := hP
        have hD : va_D A [(a_course, .inr (0, [.int course_steady, .int course_rate, .int course_state, .int course_skipping, .ref a_hist, .int course_changedAt, .int course_acceptedInRow, .int r_2.2])), (a_hist, .inr (1, [.ref a_hr, .ref a_hb, .int hist_length])), (a_hr, .inl (X.2 2, 60, .inl hr_f)), (a_hb, .inl (X.2 0, 60, .inl hb_f)), (a_plans, .inr (3, [.int plans_level, .int plans_quality, .int plans_twice])), (a_lot, .inr (2, [.int lot_order, .int lot_size, .long lot_findings, .int r_14.1, .int course_state, .int r_14.2.1, .int r_14.2.2]))] := hD
        generalize H1 = H at hP hS ⊢
        refine lv_goto (tgt := 113) hx hb dX0_pass_57 (by decide) ?_
        obtain rfl := Option.some.inj hf
        exact W.vret hx hb hr (fun t ht hW => ⟨⟨(), rfl, trivial, by rw [ht]; exact hP, va_K.moved hW.alike hK⟩, hS.F ht⟩) hS.2.2 dX0_pass_113
    · rw [if_pos c_1] at hf
      refine lv_aload_n hx hb dX0_pass_37 rfl (lv_at hl 1 rfl) ?_
      refine lv_iconst (v := 3) hx hb dX0_pass_38 (by decide) ?_
      obtain ⟨r_16, e_17, hf⟩ := bind_some hf
      have hFc := va_free (wc := [(a_lot, .inr (2, [.int lot_order, .int lot_size, .long lot_findings, .int lot_verdict, .int course_state, .int lot_inspected, .int lot_bad]))]) hD hS hA [5] rfl
      refine va_callv (va_runV (As := [.int 3]) (rest := []) ⟨hx, hb, hml, hown, hts⟩ (mX3_leaveUninspected l X N a_lot H.size lot_order lot_size lot_findings lot_verdict course_state lot_inspected lot_bad 3 r_16 e_17) (cwV 1 hts gX0_pass_X3_leaveUninspected rfl rfl rfl (by decide +kernel) ⟨Nat.le_of_ble_eq_true rfl, Nat.le_of_ble_eq_true rfl⟩) (wPreV hK hP hD hSt hS hFc [5] (by decide) rfl rfl 5 rfl rfl) rfl rfl hl.1 rfl (lv_room (Nat.le_of_ble_eq_true rfl)) dX0_pass_39 ⟨Nat.zero_le _, Nat.zero_le _⟩) hS (fun q _ h => hFc q h) hFc (fun u t H1 locs ht hvm hw hB hz1 hk1 hS => ?_)
      have hP1 := hB.1
      rw [ht] at hP1
      obtain ⟨hP, hD⟩ := wj hP hD [5] (wc := [(a_lot, .inr (2, [.int lot_order, .int lot_size, .long lot_findings, .int lot_verdict, .int course_state, .int lot_inspected, .int lot_bad]))]) (w1 := [(a_lot, .inr (2, [.int lot_order, .int lot_size, .long lot_findings, .int r_16.1, .int course_state, .int r_16.2.1, .int r_16.2.2]))]) rfl rfl hk1 hP1
      have hP : va_P X.1 vwCl [(a_course, .inr (0, [.int course_steady, .int course_rate, .int course_state, .int course_skipping, .ref a_hist, .int course_changedAt, .int course_acceptedInRow, .int course_passedInGroup])), (a_hist, .inr (1, [.ref a_hr, .ref a_hb, .int hist_length])), (a_hr, .inl (X.2 2, 60, .inl hr_f)), (a_hb, .inl (X.2 0, 60, .inl hb_f)), (a_plans, .inr (3, [.int plans_level, .int plans_quality, .int plans_twice])), (a_lot, .inr (2, [.int lot_order, .int lot_size, .long lot_findings, .int r_16.1, .int course_state, .int r_16.2.1, .int r_16.2.2]))] H1 := hP
      have hD : va_D A [(a_course, .inr (0, [.int course_steady, .int course_rate, .int course_state, .int course_skipping, .ref a_hist, .int course_changedAt, .int course_acceptedInRow, .int course_passedInGroup])), (a_hist, .inr (1, [.ref a_hr, .ref a_hb, .int hist_length])), (a_hr, .inl (X.2 2, 60, .inl hr_f)), (a_hb, .inl (X.2 0, 60, .inl hb_f)), (a_plans, .inr (3, [.int plans_level, .int plans_quality, .int plans_twice])), (a_lot, .inr (2, [.int lot_order, .int lot_size, .long lot_findings, .int r_16.1, .int course_state, .int r_16.2.1, .int r_16.2.2]))] := hD
      generalize H1 = H at hP hS ⊢
      refine lv_goto (tgt := 113) hx hb dX0_pass_42 (by decide) ?_
      obtain rfl := Option.some.inj hf
      exact W.vret hx hb hr (fun t ht hW => ⟨⟨(), rfl, trivial, by rw [ht]; exact hP, va_K.moved hW.alike hK⟩, hS.F ht⟩) hS.2.2 dX0_pass_113
  have hf := hf0
  unfold fX0_pass at hf
  obtain ⟨H, hHe⟩ : ∃ z, z = s.heap := ⟨_, rfl⟩
  have hP : va_P X.1 vwCl [(a_course, .inr (0, [.int course_steady, .int course_rate, .int course_state, .int course_skipping, .ref a_hist, .int course_changedAt, .int course_acceptedInRow, .int course_passedInGroup])), (a_hist, .inr (1, [.ref a_hr, .ref a_hb, .int hist_length])), (a_hr, .inl (X.2 2, 60, .inl hr_f)), (a_hb, .inl (X.2 0, 60, .inl hb_f)), (a_plans, .inr (3, [.int plans_level, .int plans_quality, .int plans_twice])), (a_lot, .inr (2, [.int lot_order, .int lot_size, .long lot_findings, .int lot_verdict, .int lot_state, .int lot_inspected, .int lot_bad]))] H := by rw [hHe]; exact hP
  have hS : va_S A s.heap H [] := by rw [hHe]; exact va_S.rf
  rw [← hHe]
  obtain ⟨locs, hLo⟩ : ∃ z : List Loc, z = [] := ⟨_, rfl⟩
  rw [← hLo] at hS ⊢
  refine lv_aload_n hx hb dX0_pass_0 rfl (lv_at hl 0 rfl) ?_
  refine va_get (D := X.1) (ci := 0) (v := .int course_state) (C := RX0) (T := TX0) (N := 8) hx hb hts iwX0_pass_X0 hown hK hP 0 rfl rfl 2 (by decide) (hts _ lkX0_pass_1) (fun _ h9 => h9) rfl dX0_pass_1 ?_
  refine lv_iconst (v := 3) hx hb dX0_pass_4 (by decide) ?_
  refine lv_icmp_ne (tgt := 21) hx hb dX0_pass_5 (by decide) (fun c_20 => ?_) (fun c_20 => ?_)
  · rw [if_neg c_20] at hf
    exact B21 course_state course_skipping course_changedAt course_acceptedInRow course_passedInGroup hist_length hr_f hb_f lot_verdict lot_state lot_inspected lot_bad hf H locs hP hD hS ls (lv_sub hl [0, 1, 3] rfl)
  · rw [if_pos c_20] at hf
    refine lv_iload_n hx hb dX0_pass_8 rfl (lv_at hl 2 rfl) ?_
    refine lv_aload_n hx hb dX0_pass_9 rfl (lv_at hl 0 rfl) ?_
    refine va_get (D := X.1) (ci := 0) (v := .int course_changedAt) (C := RX0) (T := TX0) (N := 8) hx hb hts iwX0_pass_X0 hown hK hP 0 rfl rfl 5 (by decide) (hts _ lkX0_pass_2) (fun _ h9 => h9) rfl dX0_pass_10 ?_
    refine lv_icmp_le (tgt := 21) hx hb dX0_pass_13 (by decide) (fun c_21 => ?_) (fun c_21 => ?_)
    · rw [if_pos c_21] at hf
      exact B21 course_state course_skipping course_changedAt course_acceptedInRow course_passedInGroup hist_length hr_f hb_f lot_verdict lot_state lot_inspected lot_bad hf H locs hP hD hS ls (lv_sub hl [0, 1, 3] rfl)
    · rw [if_neg c_21] at hf
      refine lv_aload_n hx hb dX0_pass_16 rfl (lv_at hl 0 rfl) ?_
      refine lv_iconst (v := 1) hx hb dX0_pass_17 (by decide) ?_
      obtain ⟨r_22, e_23, hf⟩ := bind_some hf
      have hFc := va_free (wc := [(a_course, .inr (0, [.int course_steady, .int course_rate, .int course_state, .int course_skipping, .ref a_hist, .int course_changedAt, .int course_acceptedInRow, .int course_passedInGroup])), (a_hist, .inr (1, [.ref a_hr, .ref a_hb, .int hist_length])), (a_hr, .inl (X.2 2, 60, .inl hr_f)), (a_hb, .inl (X.2 0, 60, .inl hb_f))]) hD hS hA [0, 1, 2, 3] rfl
      refine va_callv (va_runV (As := [.int 1]) (rest := []) ⟨hx, hb, hml, hown, hts⟩ (mX0_begin l X N a_course a_hist a_hr a_hb H.size course_steady course_rate course_state course_skipping course_changedAt course_acceptedInRow course_passedInGroup hist_length hr_f hb_f 1 r_22 e_23) (cwV 1 hts gX0_pass_X0_begin rfl rfl rfl (by decide +kernel) ⟨Nat.le_of_ble_eq_true rfl, Nat.le_of_ble_eq_true rfl⟩) (wPreV hK hP hD hSt hS hFc [0, 1, 2, 3] (by decide) rfl rfl 0 rfl rfl) rfl rfl hl.1 rfl (lv_room (Nat.le_of_ble_eq_true rfl)) dX0_pass_18 ⟨Nat.zero_le _, Nat.zero_le _⟩) hS (fun q _ h => hFc q h) hFc (fun u t H1 locs ht hvm hw hB hz1 hk1 hS => ?_)
      have hP1 := hB.1
      rw [ht] at hP1
      obtain ⟨hP, hD⟩ := wj hP hD [0, 1, 2, 3] (wc := [(a_course, .inr (0, [.int course_steady, .int course_rate, .int course_state, .int course_skipping, .ref a_hist, .int course_changedAt, .int course_acceptedInRow, .int course_passedInGroup])), (a_hist, .inr (1, [.ref a_hr, .ref a_hb, .int hist_length])), (a_hr, .inl (X.2 2, 60, .inl hr_f)), (a_hb, .inl (X.2 0, 60, .inl hb_f))]) (w1 := [(a_course, .inr (0, [.int course_steady, .int course_rate, .int r_22.1, .int course_skipping, .ref a_hist, .int course_changedAt, .int course_acceptedInRow, .int course_passedInGroup])), (a_hist, .inr (1, [.ref a_hr, .ref a_hb, .int r_22.2])), (a_hr, .inl (X.2 2, 60, .inl hr_f)), (a_hb, .inl (X.2 0, 60, .inl hb_f))]) rfl rfl hk1 hP1
      have hP : va_P X.1 vwCl [(a_course, .inr (0, [.int course_steady, .int course_rate, .int r_22.1, .int course_skipping, .ref a_hist, .int course_changedAt, .int course_acceptedInRow, .int course_passedInGroup])), (a_hist, .inr (1, [.ref a_hr, .ref a_hb, .int r_22.2])), (a_hr, .inl (X.2 2, 60, .inl hr_f)), (a_hb, .inl (X.2 0, 60, .inl hb_f)), (a_plans, .inr (3, [.int plans_level, .int plans_quality, .int plans_twice])), (a_lot, .inr (2, [.int lot_order, .int lot_size, .long lot_findings, .int lot_verdict, .int lot_state, .int lot_inspected, .int lot_bad]))] H1 := hP
      have hD : va_D A [(a_course, .inr (0, [.int course_steady, .int course_rate, .int r_22.1, .int course_skipping, .ref a_hist, .int course_changedAt, .int course_acceptedInRow, .int course_passedInGroup])), (a_hist, .inr (1, [.ref a_hr, .ref a_hb, .int r_22.2])), (a_hr, .inl (X.2 2, 60, .inl hr_f)), (a_hb, .inl (X.2 0, 60, .inl hb_f)), (a_plans, .inr (3, [.int plans_level, .int plans_quality, .int plans_twice])), (a_lot, .inr (2, [.int lot_order, .int lot_size, .long lot_findings, .int lot_verdict, .int lot_state, .int lot_inspected, .int lot_bad]))] := hD
      generalize H1 = H at hP hS ⊢
      exact B21 r_22.1 course_skipping course_changedAt course_acceptedInRow course_passedInGroup r_22.2 hr_f hb_f lot_verdict lot_state lot_inspected lot_bad hf H locs hP hD hS ls (lv_sub hl [0, 1, 3] rfl)
