def nX (U : State) : Prop := va_AO RX3 U ∧ va_Nw (.methodLinkNest RX5 21 yX4_init "InspectionOffice") U ∧ va_Nw (.methodLinkNest RX5 28 yX0_init "InspectionOffice") U ∧ va_Nw (.methodLinkNest RX0 11 yX2_init "InspectionOffice") U
theorem nX.moved {u U : State} (hW : u.WarmedH U.vm) (h : nX u) : nX U := ⟨va_AO.moved hW.alike h.1, va_Nw.warmM hW h.2.1, va_Nw.warmM hW h.2.2.1, va_Nw.warmM hW h.2.2.2⟩
def nPre (X : cxT) (sz : Nat) (W0 : va_W) (av : List Value) : Array Value → State → Prop := va_Pc av (fun U => U.heap.size = sz ∧ va_P X.1 vwCl W0 U.heap ∧ va_K X.1 vwCl (tyA X) U ∧ va_D (fun _ => True) W0 ∧ nX U)
theorem nPre.blind {X : cxT} {sz : Nat} {W0 : va_W} {av : List Value} : FrameBlind (nPre X sz W0 av) := fun a U g mk h => ⟨h.1, h.2.1, h.2.2.1, va_K.moved (u := U) (U := U.calling g mk a) (Vm.Alike.refl U.vm) h.2.2.2.1, h.2.2.2.2.1, nX.moved (u := U) (U := U.calling g mk a) (State.WarmedH.refl U) h.2.2.2.2.2⟩
theorem nPreS {X : cxT} {A : Nat → Prop} {s : State} {H : Heap} {W0 : va_W} {av : List Value} (hK : va_K X.1 vwCl (tyA X) s) (hP : va_P X.1 vwCl W0 H) (hD : va_D A W0) (hAO : nX s) : PreS s H (nPre X H.size W0 av) av :=
  ⟨nPre.blind, fun U hU hW => ⟨rfl, by rw [hU], by rw [hU]; exact hP, va_K.moved hW.alike hK, hD.weaken (fun _ _ _ _ => trivial), nX.moved hW hAO⟩⟩
theorem arr_I {X : cxT} {cA : ClassId} {s : State} (h : va_K X.1 vwCl (tyA X ++ [(cA, .int)]) s) : X.2 0 = cA := Option.some.inj ((h.2 0 (X.2 0, .int) rfl).2.symm.trans (h.2 4 (cA, .int) rfl).2)
theorem arr_Z {X : cxT} {cA : ClassId} {s : State} (h : va_K X.1 vwCl (tyA X ++ [(cA, .boolean)]) s) : X.2 2 = cA := Option.some.inj ((h.2 2 (X.2 2, .boolean) rfl).2.symm.trans (h.2 4 (cA, .boolean) rfl).2)
theorem arr_Q {X : cxT} {cA : ClassId} {s : State} (h : va_K X.1 vwCl (tyA X ++ [(cA, .object RX3)]) s) : X.2 3 = cA := by
  obtain ⟨-, -, -, -, -, h1⟩ := (h.2 3 (X.2 3, .object RX3) rfl).2
  obtain ⟨-, -, -, -, -, h2⟩ := (h.2 4 (cA, .object RX3) rfl).2
  exact Option.some.inj (h1.symm.trans h2)
def rmX2_init : Room := { frames := 1, cells := 2, slots := 120, locals := 20 }
theorem iwX2_init_X2 : ∀ w ∈ wsX20, w ∈ wsX2_init := fun w h => List.mem_cons_of_mem _ (List.mem_append_right _ (h))
theorem lkX2_init_1 : Cond.methodLink RX2 3 objectInit ∈ wsX2_init := List.mem_of_getElem? (i := 1) rfl
theorem lkX2_init_2 : Cond.instanceMethod objectInit ∈ wsX2_init := List.mem_of_getElem? (i := 2) rfl
theorem lkX2_init_3 : Cond.code objectInit ⟨#[0xb1]⟩ 1 none ∈ wsX2_init := List.mem_of_getElem? (i := 3) rfl
theorem lkX2_init_4 : Cond.arrayClass .boolean ∈ wsX2_init := List.mem_of_getElem? (i := 4) rfl
theorem lkX2_init_5 : Cond.fieldLink RX2 9 "InspectionOffice$History" "refused" "[Z" ∈ wsX2_init := List.mem_of_getElem? (i := 5) rfl
theorem lkX2_init_6 : Cond.arrayClass .int ∈ wsX2_init := List.mem_of_getElem? (i := 6) rfl
theorem lkX2_init_7 : Cond.fieldLink RX2 15 "InspectionOffice$History" "bad" "[I" ∈ wsX2_init := List.mem_of_getElem? (i := 7) rfl
set_option maxHeartbeats 4000000 in
set_option maxRecDepth 100000 in
theorem mX2_init (l : Launch) (X : cxT) (a : Nat) (sz : Nat) : Met l yX2_init wsX2_init rmX2_init (nPre X sz [(a, .inr (1, [.null, .null, .int 0]))] [.ref a]) (va_Qv (fun _ : Nat × Nat => True) (fun u t => oPost X (va_A [(a, .inr (1, [.null, .null, .int 0]))] sz) [(a, .inr (1, [.ref u.1, .ref u.2, .int 0])), (u.1, .inl (X.2 2, 60, .inl (fun _ => 0))), (u.2, .inl (X.2 0, 60, .inl (fun _ => 0)))] t) (va_A [(a, .inr (1, [.null, .null, .int 0]))] sz)) 2 120 (va_A [(a, .inr (1, [.null, .null, .int 0]))] sz) := by
  refine Met.ofW (cc := cX2_init) (maxL := 1) (ret := none) (by decide) rfl ?_
  intro p e s m args below meth c s₁ B hml hv
  obtain ⟨rfl, hsz, hP, hK, hD0, hAO⟩ := hv
  have hx := B.exec
  have hb := B.bytes
  have hr := B.returns
  have hts := atoms_spec (ws := wsX2_init) B.pre
  have hown : s.vm.findClass RX2 = some m.cls := findClass_of_methodNamed B.named
  have hlocks := B.notSynchronized
  have hin : meth.name = "<init>" := (name_of_methodNamed B.named B.method).1
  subst hsz
  have hD := hD0.self (sz := s.heap.size)
  generalize hAe : va_A [(a, .inr (1, [.null, .null, .int 0]))] s.heap.size = A at hD ⊢
  have hA : ∀ q : Nat, s.heap.size ≤ q → A q := fun q h => by rw [← hAe]; exact Or.inr h
  have hl := lv_entry ([.ref a]) (n := 1) (Nat.le_of_ble_eq_true rfl)
  rw [lg_entry_eq]
  generalize (lg_sl ([.ref a]) ++ List.replicate (1 - (lg_sl ([.ref a])).length) Slot.unset).toArray = ls at hl ⊢
  have hl : lv_has ls 1 [(0, .ref a)] := hl
  obtain ⟨H, hHe⟩ : ∃ z, z = s.heap := ⟨_, rfl⟩
  have hP : va_P X.1 vwCl [(a, .inr (1, [.null, .null, .int 0]))] H := by rw [hHe]; exact hP
  have hS : va_S A s.heap H [] := by rw [hHe]; exact va_S.rf
  rw [← hHe]
  obtain ⟨locs, hLo⟩ : ∃ z : List Loc, z = [] := ⟨_, rfl⟩
  rw [← hLo] at hS ⊢
  refine lv_aload_n hx hb dX2_init_0 rfl (lv_at hl 0 rfl) ?_
  refine W.objInit hx hb hown (hts _ lkX2_init_1) (hts _ lkX2_init_2) (hts _ lkX2_init_3) rfl (by rw [hml]; exact hl.1) rfl dX2_init_1 (Nat.le_of_ble_eq_true rfl) (Nat.le_of_ble_eq_true rfl) ?_
  refine W.eq (g2 := F0 m 4 ls []) rfl ?_
  refine lv_aload_n hx hb dX2_init_4 rfl (lv_at hl 0 rfl) ?_
  refine lv_bipush (v := 60) hx hb dX2_init_5 (by decide) ?_
  refine va_newa (atype := .boolean) (ty := .boolean) (N' := 60) (a0 := (60, .inl (fun _ => 0))) hx hb (hts _ lkX2_init_4) rfl hK hP hD hS hA (fun cA => rfl) (by decide) (by decide +kernel) (Nat.le_of_ble_eq_true rfl) (Nat.le_of_ble_eq_true rfl) (Nat.le_of_ble_eq_true rfl) dX2_init_7 (fun q7 cA H hK2 hP hD hS => ?_)
  obtain rfl := arr_Z hK2
  have hP : va_P X.1 vwCl [(a, .inr (1, [.null, .null, .int 0])), (q7, .inl (X.2 2, 60, .inl (fun _ => 0)))] H := hP
  have hD : va_D A [(a, .inr (1, [.null, .null, .int 0])), (q7, .inl (X.2 2, 60, .inl (fun _ => 0)))] := hD
  refine va_putF (D := X.1) (ci := 1) (v := .ref q7) (ty := (.array .boolean)) (C := RX2) (T := TX2) (N := 3) hx hb hts iwX2_init_X2 tyX2 tyX2_ok nmX2 hown hK hP hD hS 0 rfl rfl 0 (by decide) (hts _ lkX2_init_5) (fun _ h9 => h9) rfl hin rfl (by decide +kernel) rfl rfl (Nat.le_of_ble_eq_true rfl) dX2_init_9 (fun H locs hP hD hS => ?_)
  have hP : va_P X.1 vwCl [(a, .inr (1, [.ref q7, .null, .int 0])), (q7, .inl (X.2 2, 60, .inl (fun _ => 0)))] H := hP
  have hD : va_D A [(a, .inr (1, [.ref q7, .null, .int 0])), (q7, .inl (X.2 2, 60, .inl (fun _ => 0)))] := hD
  refine lv_aload_n hx hb dX2_init_12 rfl (lv_at hl 0 rfl) ?_
  refine lv_bipush (v := 60) hx hb dX2_init_13 (by decide) ?_
  refine va_newa (atype := .int) (ty := .int) (N' := 60) (a0 := (60, .inl (fun _ => 0))) hx hb (hts _ lkX2_init_6) rfl hK hP hD hS hA (fun cA => rfl) (by decide) (by decide +kernel) (Nat.le_of_ble_eq_true rfl) (Nat.le_of_ble_eq_true rfl) (Nat.le_of_ble_eq_true rfl) dX2_init_15 (fun q15 cA H hK2 hP hD hS => ?_)
  obtain rfl := arr_I hK2
  have hP : va_P X.1 vwCl [(a, .inr (1, [.ref q7, .null, .int 0])), (q7, .inl (X.2 2, 60, .inl (fun _ => 0))), (q15, .inl (X.2 0, 60, .inl (fun _ => 0)))] H := hP
  have hD : va_D A [(a, .inr (1, [.ref q7, .null, .int 0])), (q7, .inl (X.2 2, 60, .inl (fun _ => 0))), (q15, .inl (X.2 0, 60, .inl (fun _ => 0)))] := hD
  refine va_putF (D := X.1) (ci := 1) (v := .ref q15) (ty := (.array .int)) (C := RX2) (T := TX2) (N := 3) hx hb hts iwX2_init_X2 tyX2 tyX2_ok nmX2 hown hK hP hD hS 0 rfl rfl 1 (by decide) (hts _ lkX2_init_7) (fun _ h9 => h9) rfl hin rfl (by decide +kernel) rfl rfl (Nat.le_of_ble_eq_true rfl) dX2_init_17 (fun H locs hP hD hS => ?_)
  have hP : va_P X.1 vwCl [(a, .inr (1, [.ref q7, .ref q15, .int 0])), (q7, .inl (X.2 2, 60, .inl (fun _ => 0))), (q15, .inl (X.2 0, 60, .inl (fun _ => 0)))] H := hP
  have hD : va_D A [(a, .inr (1, [.ref q7, .ref q15, .int 0])), (q7, .inl (X.2 2, 60, .inl (fun _ => 0))), (q15, .inl (X.2 0, 60, .inl (fun _ => 0)))] := hD
  refine W.widen (k := 2) (n := 120) (Nat.le_of_ble_eq_true rfl) (Nat.le_of_ble_eq_true rfl) ?_
  exact W.vret hx hb hr (fun t ht hW => ⟨⟨(q7, q15), rfl, trivial, by rw [ht]; exact hP, va_K.moved hW.alike hK, hD⟩, hS.F ht⟩) hS.2.2 dX2_init_20
def rmX4_init : Room := { frames := 1, cells := 0, slots := 0, locals := 20 }
theorem iwX4_init_X4 : ∀ w ∈ wsX40, w ∈ wsX4_init := fun w h => List.mem_cons_of_mem _ (List.mem_append_right _ (h))
theorem lkX4_init_1 : Cond.methodLink RX4 3 objectInit ∈ wsX4_init := List.mem_of_getElem? (i := 1) rfl
theorem lkX4_init_2 : Cond.instanceMethod objectInit ∈ wsX4_init := List.mem_of_getElem? (i := 2) rfl
theorem lkX4_init_3 : Cond.code objectInit ⟨#[0xb1]⟩ 1 none ∈ wsX4_init := List.mem_of_getElem? (i := 3) rfl
theorem lkX4_init_4 : Cond.fieldLink RX4 9 "InspectionOffice$Plans" "level" "I" ∈ wsX4_init := List.mem_of_getElem? (i := 4) rfl
theorem lkX4_init_5 : Cond.fieldLink RX4 15 "InspectionOffice$Plans" "quality" "I" ∈ wsX4_init := List.mem_of_getElem? (i := 5) rfl
set_option maxHeartbeats 4000000 in
set_option maxRecDepth 100000 in
theorem mX4_init (l : Launch) (X : cxT) (a : Nat) (sz : Nat) : Met l yX4_init wsX4_init rmX4_init (nPre X sz [(a, .inr (3, [.int 0, .int 0, .int 0]))] [.ref a]) (va_Qv (fun _ : Unit => True) (fun u t => oPost X (va_A [(a, .inr (3, [.int 0, .int 0, .int 0]))] sz) [(a, .inr (3, [.int 1, .int 1, .int 0]))] t) (va_A [(a, .inr (3, [.int 0, .int 0, .int 0]))] sz)) 0 0 (va_A [(a, .inr (3, [.int 0, .int 0, .int 0]))] sz) := by
  refine Met.ofW (cc := cX4_init) (maxL := 1) (ret := none) (by decide) rfl ?_
  intro p e s m args below meth c s₁ B hml hv
  obtain ⟨rfl, hsz, hP, hK, hD0, hAO⟩ := hv
  have hx := B.exec
  have hb := B.bytes
  have hr := B.returns
  have hts := atoms_spec (ws := wsX4_init) B.pre
  have hown : s.vm.findClass RX4 = some m.cls := findClass_of_methodNamed B.named
  have hlocks := B.notSynchronized
  have hin : meth.name = "<init>" := (name_of_methodNamed B.named B.method).1
  subst hsz
  have hD := hD0.self (sz := s.heap.size)
  generalize hAe : va_A [(a, .inr (3, [.int 0, .int 0, .int 0]))] s.heap.size = A at hD ⊢
  have hA : ∀ q : Nat, s.heap.size ≤ q → A q := fun q h => by rw [← hAe]; exact Or.inr h
  have hl := lv_entry ([.ref a]) (n := 1) (Nat.le_of_ble_eq_true rfl)
  rw [lg_entry_eq]
  generalize (lg_sl ([.ref a]) ++ List.replicate (1 - (lg_sl ([.ref a])).length) Slot.unset).toArray = ls at hl ⊢
  have hl : lv_has ls 1 [(0, .ref a)] := hl
  obtain ⟨H, hHe⟩ : ∃ z, z = s.heap := ⟨_, rfl⟩
  have hP : va_P X.1 vwCl [(a, .inr (3, [.int 0, .int 0, .int 0]))] H := by rw [hHe]; exact hP
  have hS : va_S A s.heap H [] := by rw [hHe]; exact va_S.rf
  rw [← hHe]
  obtain ⟨locs, hLo⟩ : ∃ z : List Loc, z = [] := ⟨_, rfl⟩
  rw [← hLo] at hS ⊢
  refine lv_aload_n hx hb dX4_init_0 rfl (lv_at hl 0 rfl) ?_
  refine W.objInit hx hb hown (hts _ lkX4_init_1) (hts _ lkX4_init_2) (hts _ lkX4_init_3) rfl (by rw [hml]; exact hl.1) rfl dX4_init_1 (Nat.le_of_ble_eq_true rfl) (Nat.le_of_ble_eq_true rfl) ?_
  refine W.eq (g2 := F0 m 4 ls []) rfl ?_
  refine lv_aload_n hx hb dX4_init_4 rfl (lv_at hl 0 rfl) ?_
  refine lv_iconst (v := 1) hx hb dX4_init_5 (by decide) ?_
  refine va_put (D := X.1) (ci := 3) (v := .int 1) (ty := .int) (C := RX4) (T := TX4) (N := 3) hx hb hts iwX4_init_X4 tyX4 tyX4_ok nmX4 hown hK hP hD hS 0 rfl rfl 0 (by decide) (hts _ lkX4_init_4) (fun _ h9 => h9) rfl (by decide +kernel) rfl rfl (Nat.le_of_ble_eq_true rfl) dX4_init_6 (fun H locs hP hD hS => ?_)
  have hP : va_P X.1 vwCl [(a, .inr (3, [.int 1, .int 0, .int 0]))] H := hP
  have hD : va_D A [(a, .inr (3, [.int 1, .int 0, .int 0]))] := hD
  refine lv_aload_n hx hb dX4_init_9 rfl (lv_at hl 0 rfl) ?_
  refine lv_iconst (v := 1) hx hb dX4_init_10 (by decide) ?_
  refine va_put (D := X.1) (ci := 3) (v := .int 1) (ty := .int) (C := RX4) (T := TX4) (N := 3) hx hb hts iwX4_init_X4 tyX4 tyX4_ok nmX4 hown hK hP hD hS 0 rfl rfl 1 (by decide) (hts _ lkX4_init_5) (fun _ h9 => h9) rfl (by decide +kernel) rfl rfl (Nat.le_of_ble_eq_true rfl) dX4_init_11 (fun H locs hP hD hS => ?_)
  have hP : va_P X.1 vwCl [(a, .inr (3, [.int 1, .int 1, .int 0]))] H := hP
  have hD : va_D A [(a, .inr (3, [.int 1, .int 1, .int 0]))] := hD
  refine W.widen (k := 0) (n := 0) (Nat.le_of_ble_eq_true rfl) (Nat.le_of_ble_eq_true rfl) ?_
  exact W.vret hx hb hr (fun t ht hW => ⟨⟨(), rfl, trivial, by rw [ht]; exact hP, va_K.moved hW.alike hK, hD⟩, hS.F ht⟩) hS.2.2 dX4_init_14
def rmX0_init : Room := { frames := 2, cells := 3, slots := 123, locals := 40 }
theorem iwX0_init_X0 : ∀ w ∈ wsX00, w ∈ wsX0_init := fun w h => List.mem_cons_of_mem _ (List.mem_append_right _ (h))
theorem iwX0_init_X2 : ∀ w ∈ wsX20, w ∈ wsX0_init := fun w h => List.mem_cons_of_mem _ (List.mem_append_left _ (List.mem_append_right _ (h)))
theorem lkX0_init_1 : Cond.methodLink RX0 3 objectInit ∈ wsX0_init := List.mem_of_getElem? (i := 1) rfl
theorem lkX0_init_2 : Cond.instanceMethod objectInit ∈ wsX0_init := List.mem_of_getElem? (i := 2) rfl
theorem lkX0_init_3 : Cond.code objectInit ⟨#[0xb1]⟩ 1 none ∈ wsX0_init := List.mem_of_getElem? (i := 3) rfl
theorem lkX0_init_4 : Cond.classLink RX0 9 RX2 ∈ wsX0_init := List.mem_of_getElem? (i := 4) rfl
theorem lkX0_init_5 : Cond.instantiable RX2 3 ∈ wsX0_init := List.mem_of_getElem? (i := 5) rfl
theorem lkX0_init_6 : Cond.initialized RX2 ∈ wsX0_init := List.mem_of_getElem? (i := 6) rfl
theorem lkX0_init_7 : Cond.fieldLink RX0 12 "InspectionOffice$Course" "history" "LInspectionOffice$History;" ∈ wsX0_init := List.mem_of_getElem? (i := 7) rfl
theorem lkX0_init_8 : Cond.instanceMethod yX2_init ∈ wsX0_init := List.mem_of_getElem? (i := 8) rfl
set_option maxHeartbeats 4000000 in
set_option maxRecDepth 100000 in
theorem mX0_init (l : Launch) (X : cxT) (a : Nat) (sz : Nat) : Met l yX0_init wsX0_init rmX0_init (nPre X sz [(a, .inr (0, [.int 0, .int 0, .int 0, .int 0, .null, .int 0, .int 0, .int 0]))] [.ref a]) (va_Qv (fun _ : Nat × Nat × Nat => True) (fun u t => oPost X (va_A [(a, .inr (0, [.int 0, .int 0, .int 0, .int 0, .null, .int 0, .int 0, .int 0]))] sz) [(a, .inr (0, [.int 0, .int 0, .int 0, .int 0, .ref u.1, .int 0, .int 0, .int 0])), (u.1, .inr (1, [.ref u.2.1, .ref u.2.2, .int 0])), (u.2.1, .inl (X.2 2, 60, .inl (fun _ => 0))), (u.2.2, .inl (X.2 0, 60, .inl (fun _ => 0)))] t) (va_A [(a, .inr (0, [.int 0, .int 0, .int 0, .int 0, .null, .int 0, .int 0, .int 0]))] sz)) 3 123 (va_A [(a, .inr (0, [.int 0, .int 0, .int 0, .int 0, .null, .int 0, .int 0, .int 0]))] sz) := by
  refine Met.ofW (cc := cX0_init) (maxL := 1) (ret := none) (by decide) rfl ?_
  intro p e s m args below meth c s₁ B hml hv
  obtain ⟨rfl, hsz, hP, hK, hD0, hAO⟩ := hv
  have hx := B.exec
  have hb := B.bytes
  have hr := B.returns
  have hts := atoms_spec (ws := wsX0_init) B.pre
  have hown : s.vm.findClass RX0 = some m.cls := findClass_of_methodNamed B.named
  have hlocks := B.notSynchronized
  have hin : meth.name = "<init>" := (name_of_methodNamed B.named B.method).1
  subst hsz
  have hD := hD0.self (sz := s.heap.size)
  generalize hAe : va_A [(a, .inr (0, [.int 0, .int 0, .int 0, .int 0, .null, .int 0, .int 0, .int 0]))] s.heap.size = A at hD ⊢
  have hA : ∀ q : Nat, s.heap.size ≤ q → A q := fun q h => by rw [← hAe]; exact Or.inr h
  have hl := lv_entry ([.ref a]) (n := 1) (Nat.le_of_ble_eq_true rfl)
  rw [lg_entry_eq]
  generalize (lg_sl ([.ref a]) ++ List.replicate (1 - (lg_sl ([.ref a])).length) Slot.unset).toArray = ls at hl ⊢
  have hl : lv_has ls 1 [(0, .ref a)] := hl
  obtain ⟨H, hHe⟩ : ∃ z, z = s.heap := ⟨_, rfl⟩
  have hP : va_P X.1 vwCl [(a, .inr (0, [.int 0, .int 0, .int 0, .int 0, .null, .int 0, .int 0, .int 0]))] H := by rw [hHe]; exact hP
  have hS : va_S A s.heap H [] := by rw [hHe]; exact va_S.rf
  rw [← hHe]
  obtain ⟨locs, hLo⟩ : ∃ z : List Loc, z = [] := ⟨_, rfl⟩
  rw [← hLo] at hS ⊢
  refine lv_aload_n hx hb dX0_init_0 rfl (lv_at hl 0 rfl) ?_
  refine W.objInit hx hb hown (hts _ lkX0_init_1) (hts _ lkX0_init_2) (hts _ lkX0_init_3) rfl (by rw [hml]; exact hl.1) rfl dX0_init_1 (Nat.le_of_ble_eq_true rfl) (Nat.le_of_ble_eq_true rfl) ?_
  refine W.eq (g2 := F0 m 4 ls []) rfl ?_
  refine lv_aload_n hx hb dX0_init_4 rfl (lv_at hl 0 rfl) ?_
  refine va_new (ci := 1) (fs := [.null, .null, .int 0]) (C := RX2) (T := TX2) (N := 3) hx hb hts iwX0_init_X2 tyX2 tyX2_ok hown (hts _ lkX0_init_4) (hts _ lkX0_init_5) (hts _ lkX0_init_6) hK hP hD hS hA rfl (fun j hj => by rcases (show j = 0 ∨ j = 1 ∨ j = 2 by omega) with rfl | rfl | rfl <;> rfl) (Nat.le_of_ble_eq_true rfl) (Nat.le_of_ble_eq_true rfl) dX0_init_5 (fun q5 H hP hD hS => ?_)
  have hP : va_P X.1 vwCl [(a, .inr (0, [.int 0, .int 0, .int 0, .int 0, .null, .int 0, .int 0, .int 0])), (q5, .inr (1, [.null, .null, .int 0]))] H := hP
  have hD : va_D A [(a, .inr (0, [.int 0, .int 0, .int 0, .int 0, .null, .int 0, .int 0, .int 0])), (q5, .inr (1, [.null, .null, .int 0]))] := hD
  refine lv_dup hx hb dX0_init_8 rfl ?_
  have hPc := hP.sub (ws' := [(q5, .inr (1, [.null, .null, .int 0]))]) [1] rfl
  have hDc := hD.sub (ws' := [(q5, .inr (1, [.null, .null, .int 0]))]) [1] (by decide) rfl
  have hFc := va_free (wc := [(q5, .inr (1, [.null, .null, .int 0]))]) hD hS hA [1] rfl
  refine va_callv (va_runIN (As := []) (rest := [.ref q5, .ref a]) ⟨hx, hb, hml, hown, hts⟩ (mX2_init l X q5 H.size) ⟨va_cnB 0 hts gX0_init_X2_init_n11 rfl rfl rfl hAO.2.2.2 (hts _ lkX0_init_6) (by decide +kernel) ⟨Nat.le_of_ble_eq_true rfl, Nat.le_of_ble_eq_true rfl⟩, rfl, (hts _ lkX0_init_8)⟩ (nPreS hK hPc hDc hAO) rfl rfl hl.1 rfl (lv_room (Nat.le_of_ble_eq_true rfl)) dX0_init_9 ⟨Nat.le_of_ble_eq_true rfl, Nat.le_of_ble_eq_true rfl⟩) hS (fun q _ h => hFc q h) hFc (fun u1 t H1 locs ht hvm hw hB hz1 hk1 hS => ?_)
  obtain ⟨hP1, -, hD1⟩ := hB
  rw [ht] at hP1
  obtain ⟨hP, hD⟩ := va_join (wr := [(a, .inr (0, [.int 0, .int 0, .int 0, .int 0, .null, .int 0, .int 0, .int 0]))]) (w1 := [(q5, .inr (1, [.ref u1.1, .ref u1.2, .int 0])), (u1.1, .inl (X.2 2, 60, .inl (fun _ => 0))), (u1.2, .inl (X.2 0, 60, .inl (fun _ => 0)))]) hP hD [1] [0] rfl rfl (by decide) (by decide) hk1 hFc hP1 hD1
  generalize H1 = H at hP hS ⊢
  have hP : va_P X.1 vwCl [(a, .inr (0, [.int 0, .int 0, .int 0, .int 0, .null, .int 0, .int 0, .int 0])), (q5, .inr (1, [.ref u1.1, .ref u1.2, .int 0])), (u1.1, .inl (X.2 2, 60, .inl (fun _ => 0))), (u1.2, .inl (X.2 0, 60, .inl (fun _ => 0)))] H := hP
  have hD : va_D A [(a, .inr (0, [.int 0, .int 0, .int 0, .int 0, .null, .int 0, .int 0, .int 0])), (q5, .inr (1, [.ref u1.1, .ref u1.2, .int 0])), (u1.1, .inl (X.2 2, 60, .inl (fun _ => 0))), (u1.2, .inl (X.2 0, 60, .inl (fun _ => 0)))] := hD
  refine va_putF (D := X.1) (ci := 0) (v := .ref q5) (ty := (.object "InspectionOffice$History")) (C := RX0) (T := TX0) (N := 8) hx hb hts iwX0_init_X0 tyX0 tyX0_ok nmX0 hown hK hP hD hS 0 rfl rfl 4 (by decide) (hts _ lkX0_init_7) (fun _ h9 => h9) rfl hin rfl (by decide +kernel) rfl rfl (Nat.le_of_ble_eq_true rfl) dX0_init_12 (fun H locs hP hD hS => ?_)
  have hP : va_P X.1 vwCl [(a, .inr (0, [.int 0, .int 0, .int 0, .int 0, .ref q5, .int 0, .int 0, .int 0])), (q5, .inr (1, [.ref u1.1, .ref u1.2, .int 0])), (u1.1, .inl (X.2 2, 60, .inl (fun _ => 0))), (u1.2, .inl (X.2 0, 60, .inl (fun _ => 0)))] H := hP
  have hD : va_D A [(a, .inr (0, [.int 0, .int 0, .int 0, .int 0, .ref q5, .int 0, .int 0, .int 0])), (q5, .inr (1, [.ref u1.1, .ref u1.2, .int 0])), (u1.1, .inl (X.2 2, 60, .inl (fun _ => 0))), (u1.2, .inl (X.2 0, 60, .inl (fun _ => 0)))] := hD
  refine W.widen (k := 3) (n := 123) (Nat.le_of_ble_eq_true rfl) (Nat.le_of_ble_eq_true rfl) ?_
  exact W.vret hx hb hr (fun t ht hW => ⟨⟨(q5, u1.1, u1.2), rfl, trivial, by rw [ht]; exact hP, va_K.moved hW.alike hK, hD⟩, hS.F ht⟩) hS.2.2 dX0_init_15
def rmX5_init : Room := { frames := 3, cells := 7, slots := 534, locals := 60 }
theorem iwX5_init_X0 : ∀ w ∈ wsX00, w ∈ wsX5_init := fun w h => List.mem_cons_of_mem _ (List.mem_append_left _ (List.mem_append_right _ (h)))
theorem iwX5_init_X4 : ∀ w ∈ wsX40, w ∈ wsX5_init := fun w h => List.mem_cons_of_mem _ (List.mem_append_left _ (List.mem_append_left _ (List.mem_append_right _ (h))))
theorem iwX5_init_X5 : ∀ w ∈ wsX50, w ∈ wsX5_init := fun w h => List.mem_cons_of_mem _ (List.mem_append_left _ (List.mem_append_left _ (List.mem_append_left _ (List.mem_append_right _ (h)))))
theorem lkX5_init_1 : Cond.methodLink RX5 3 objectInit ∈ wsX5_init := List.mem_of_getElem? (i := 1) rfl
theorem lkX5_init_10 : Cond.initialized RX4 ∈ wsX5_init := List.mem_of_getElem? (i := 10) rfl
theorem lkX5_init_11 : Cond.fieldLink RX5 22 "InspectionOffice" "plans" "LInspectionOffice$Plans;" ∈ wsX5_init := List.mem_of_getElem? (i := 11) rfl
theorem lkX5_init_12 : Cond.classLink RX5 26 RX0 ∈ wsX5_init := List.mem_of_getElem? (i := 12) rfl
theorem lkX5_init_13 : Cond.instantiable RX0 8 ∈ wsX5_init := List.mem_of_getElem? (i := 13) rfl
theorem lkX5_init_14 : Cond.initialized RX0 ∈ wsX5_init := List.mem_of_getElem? (i := 14) rfl
theorem lkX5_init_15 : Cond.fieldLink RX5 29 "InspectionOffice" "course" "LInspectionOffice$Course;" ∈ wsX5_init := List.mem_of_getElem? (i := 15) rfl
theorem lkX5_init_16 : Cond.instanceMethod yX4_init ∈ wsX5_init := List.mem_of_getElem? (i := 16) rfl
theorem lkX5_init_2 : Cond.instanceMethod objectInit ∈ wsX5_init := List.mem_of_getElem? (i := 2) rfl
theorem lkX5_init_21 : Cond.instanceMethod yX0_init ∈ wsX5_init := List.mem_of_getElem? (i := 21) rfl
theorem lkX5_init_3 : Cond.code objectInit ⟨#[0xb1]⟩ 1 none ∈ wsX5_init := List.mem_of_getElem? (i := 3) rfl
theorem lkX5_init_4 : Cond.classLink RX5 9 RX3 ∈ wsX5_init := List.mem_of_getElem? (i := 4) rfl
theorem lkX5_init_5 : Cond.fieldLink RX5 11 "InspectionOffice" "lotByOrder" "[LInspectionOffice$Lot;" ∈ wsX5_init := List.mem_of_getElem? (i := 5) rfl
theorem lkX5_init_6 : Cond.arrayClass .boolean ∈ wsX5_init := List.mem_of_getElem? (i := 6) rfl
theorem lkX5_init_7 : Cond.fieldLink RX5 15 "InspectionOffice" "markByOrder" "[Z" ∈ wsX5_init := List.mem_of_getElem? (i := 7) rfl
theorem lkX5_init_8 : Cond.classLink RX5 19 RX4 ∈ wsX5_init := List.mem_of_getElem? (i := 8) rfl
theorem lkX5_init_9 : Cond.instantiable RX4 3 ∈ wsX5_init := List.mem_of_getElem? (i := 9) rfl
set_option maxHeartbeats 4000000 in
set_option maxRecDepth 100000 in
theorem mX5_init (l : Launch) (X : cxT) (a : Nat) (sz : Nat) : Met l yX5_init wsX5_init rmX5_init (nPre X sz [(a, .inr (4, [.null, .null, .null, .null, .int 0]))] [.ref a]) (va_Qv (fun _ : Nat × Nat × Nat × Nat × Nat × Nat × Nat => True) (fun u t => oPost X (va_A [(a, .inr (4, [.null, .null, .null, .null, .int 0]))] sz) [(a, .inr (4, [.ref u.1, .ref u.2.1, .ref u.2.2.1, .ref u.2.2.2.1, .int 0])), (u.1, .inl (X.2 3, 200, .inr (.inr (.inr (.inr (fun _ => none)))))), (u.2.1, .inl (X.2 2, 200, .inl (fun _ => 0))), (u.2.2.1, .inr (3, [.int 1, .int 1, .int 0])), (u.2.2.2.1, .inr (0, [.int 0, .int 0, .int 0, .int 0, .ref u.2.2.2.2.1, .int 0, .int 0, .int 0])), (u.2.2.2.2.1, .inr (1, [.ref u.2.2.2.2.2.1, .ref u.2.2.2.2.2.2, .int 0])), (u.2.2.2.2.2.1, .inl (X.2 2, 60, .inl (fun _ => 0))), (u.2.2.2.2.2.2, .inl (X.2 0, 60, .inl (fun _ => 0)))] t) (va_A [(a, .inr (4, [.null, .null, .null, .null, .int 0]))] sz)) 7 534 (va_A [(a, .inr (4, [.null, .null, .null, .null, .int 0]))] sz) := by
  refine Met.ofW (cc := cX5_init) (maxL := 1) (ret := none) (by decide) rfl ?_
  intro p e s m args below meth c s₁ B hml hv
  obtain ⟨rfl, hsz, hP, hK, hD0, hAO⟩ := hv
  have hx := B.exec
  have hb := B.bytes
  have hr := B.returns
  have hts := atoms_spec (ws := wsX5_init) B.pre
  have hown : s.vm.findClass RX5 = some m.cls := findClass_of_methodNamed B.named
  have hlocks := B.notSynchronized
  have hin : meth.name = "<init>" := (name_of_methodNamed B.named B.method).1
  subst hsz
  have hD := hD0.self (sz := s.heap.size)
  generalize hAe : va_A [(a, .inr (4, [.null, .null, .null, .null, .int 0]))] s.heap.size = A at hD ⊢
  have hA : ∀ q : Nat, s.heap.size ≤ q → A q := fun q h => by rw [← hAe]; exact Or.inr h
  have hl := lv_entry ([.ref a]) (n := 1) (Nat.le_of_ble_eq_true rfl)
  rw [lg_entry_eq]
  generalize (lg_sl ([.ref a]) ++ List.replicate (1 - (lg_sl ([.ref a])).length) Slot.unset).toArray = ls at hl ⊢
  have hl : lv_has ls 1 [(0, .ref a)] := hl
  obtain ⟨H, hHe⟩ : ∃ z, z = s.heap := ⟨_, rfl⟩
  have hP : va_P X.1 vwCl [(a, .inr (4, [.null, .null, .null, .null, .int 0]))] H := by rw [hHe]; exact hP
  have hS : va_S A s.heap H [] := by rw [hHe]; exact va_S.rf
  rw [← hHe]
  obtain ⟨locs, hLo⟩ : ∃ z : List Loc, z = [] := ⟨_, rfl⟩
  rw [← hLo] at hS ⊢
  refine lv_aload_n hx hb dX5_init_0 rfl (lv_at hl 0 rfl) ?_
  refine W.objInit hx hb hown (hts _ lkX5_init_1) (hts _ lkX5_init_2) (hts _ lkX5_init_3) rfl (by rw [hml]; exact hl.1) rfl dX5_init_1 (Nat.le_of_ble_eq_true rfl) (Nat.le_of_ble_eq_true rfl) ?_
  refine W.eq (g2 := F0 m 4 ls []) rfl ?_
  refine lv_aload_n hx hb dX5_init_4 rfl (lv_at hl 0 rfl) ?_
  refine lv_sipush (v := 200) hx hb dX5_init_5 (by decide) ?_
  refine va_newq (C := RX3) (N' := 200) hx hb hown (hts _ lkX5_init_4) hAO.1 hK hP hD hS hA (by decide) (by decide +kernel) (Nat.le_of_ble_eq_true rfl) (Nat.le_of_ble_eq_true rfl) (Nat.le_of_ble_eq_true rfl) dX5_init_8 (fun q8 cA H hK2 hP hD hS => ?_)
  obtain rfl := arr_Q hK2
  have hP : va_P X.1 vwCl [(a, .inr (4, [.null, .null, .null, .null, .int 0])), (q8, .inl (X.2 3, 200, .inr (.inr (.inr (.inr (fun _ => none))))))] H := hP
  have hD : va_D A [(a, .inr (4, [.null, .null, .null, .null, .int 0])), (q8, .inl (X.2 3, 200, .inr (.inr (.inr (.inr (fun _ => none))))))] := hD
  refine va_putF (D := X.1) (ci := 4) (v := .ref q8) (ty := (.array (.object "InspectionOffice$Lot"))) (C := RX5) (T := TX5) (N := 5) hx hb hts iwX5_init_X5 tyX5 tyX5_ok nmX5 hown hK hP hD hS 0 rfl rfl 0 (by decide) (hts _ lkX5_init_5) (fun _ h9 => h9) rfl hin rfl (by decide +kernel) rfl rfl (Nat.le_of_ble_eq_true rfl) dX5_init_11 (fun H locs hP hD hS => ?_)
  have hP : va_P X.1 vwCl [(a, .inr (4, [.ref q8, .null, .null, .null, .int 0])), (q8, .inl (X.2 3, 200, .inr (.inr (.inr (.inr (fun _ => none))))))] H := hP
  have hD : va_D A [(a, .inr (4, [.ref q8, .null, .null, .null, .int 0])), (q8, .inl (X.2 3, 200, .inr (.inr (.inr (.inr (fun _ => none))))))] := hD
  refine lv_aload_n hx hb dX5_init_14 rfl (lv_at hl 0 rfl) ?_
  refine lv_sipush (v := 200) hx hb dX5_init_15 (by decide) ?_
  refine va_newa (atype := .boolean) (ty := .boolean) (N' := 200) (a0 := (200, .inl (fun _ => 0))) hx hb (hts _ lkX5_init_6) rfl hK hP hD hS hA (fun cA => rfl) (by decide) (by decide +kernel) (Nat.le_of_ble_eq_true rfl) (Nat.le_of_ble_eq_true rfl) (Nat.le_of_ble_eq_true rfl) dX5_init_18 (fun q18 cA H hK2 hP hD hS => ?_)
  obtain rfl := arr_Z hK2
  have hP : va_P X.1 vwCl [(a, .inr (4, [.ref q8, .null, .null, .null, .int 0])), (q8, .inl (X.2 3, 200, .inr (.inr (.inr (.inr (fun _ => none)))))), (q18, .inl (X.2 2, 200, .inl (fun _ => 0)))] H := hP
  have hD : va_D A [(a, .inr (4, [.ref q8, .null, .null, .null, .int 0])), (q8, .inl (X.2 3, 200, .inr (.inr (.inr (.inr (fun _ => none)))))), (q18, .inl (X.2 2, 200, .inl (fun _ => 0)))] := hD
  refine va_putF (D := X.1) (ci := 4) (v := .ref q18) (ty := (.array .boolean)) (C := RX5) (T := TX5) (N := 5) hx hb hts iwX5_init_X5 tyX5 tyX5_ok nmX5 hown hK hP hD hS 0 rfl rfl 1 (by decide) (hts _ lkX5_init_7) (fun _ h9 => h9) rfl hin rfl (by decide +kernel) rfl rfl (Nat.le_of_ble_eq_true rfl) dX5_init_20 (fun H locs hP hD hS => ?_)
  have hP : va_P X.1 vwCl [(a, .inr (4, [.ref q8, .ref q18, .null, .null, .int 0])), (q8, .inl (X.2 3, 200, .inr (.inr (.inr (.inr (fun _ => none)))))), (q18, .inl (X.2 2, 200, .inl (fun _ => 0)))] H := hP
  have hD : va_D A [(a, .inr (4, [.ref q8, .ref q18, .null, .null, .int 0])), (q8, .inl (X.2 3, 200, .inr (.inr (.inr (.inr (fun _ => none)))))), (q18, .inl (X.2 2, 200, .inl (fun _ => 0)))] := hD
  refine lv_aload_n hx hb dX5_init_23 rfl (lv_at hl 0 rfl) ?_
  refine va_new (ci := 3) (fs := [.int 0, .int 0, .int 0]) (C := RX4) (T := TX4) (N := 3) hx hb hts iwX5_init_X4 tyX4 tyX4_ok hown (hts _ lkX5_init_8) (hts _ lkX5_init_9) (hts _ lkX5_init_10) hK hP hD hS hA rfl (fun j hj => by rcases (show j = 0 ∨ j = 1 ∨ j = 2 by omega) with rfl | rfl | rfl <;> rfl) (Nat.le_of_ble_eq_true rfl) (Nat.le_of_ble_eq_true rfl) dX5_init_24 (fun q24 H hP hD hS => ?_)
  have hP : va_P X.1 vwCl [(a, .inr (4, [.ref q8, .ref q18, .null, .null, .int 0])), (q8, .inl (X.2 3, 200, .inr (.inr (.inr (.inr (fun _ => none)))))), (q18, .inl (X.2 2, 200, .inl (fun _ => 0))), (q24, .inr (3, [.int 0, .int 0, .int 0]))] H := hP
  have hD : va_D A [(a, .inr (4, [.ref q8, .ref q18, .null, .null, .int 0])), (q8, .inl (X.2 3, 200, .inr (.inr (.inr (.inr (fun _ => none)))))), (q18, .inl (X.2 2, 200, .inl (fun _ => 0))), (q24, .inr (3, [.int 0, .int 0, .int 0]))] := hD
  refine lv_dup hx hb dX5_init_27 rfl ?_
  have hPc := hP.sub (ws' := [(q24, .inr (3, [.int 0, .int 0, .int 0]))]) [3] rfl
  have hDc := hD.sub (ws' := [(q24, .inr (3, [.int 0, .int 0, .int 0]))]) [3] (by decide) rfl
  have hFc := va_free (wc := [(q24, .inr (3, [.int 0, .int 0, .int 0]))]) hD hS hA [3] rfl
  refine va_callv (va_runIN (As := []) (rest := [.ref q24, .ref a]) ⟨hx, hb, hml, hown, hts⟩ (mX4_init l X q24 H.size) ⟨va_cnB 0 hts gX5_init_X4_init_n21 rfl rfl rfl hAO.2.1 (hts _ lkX5_init_10) (by decide +kernel) ⟨Nat.le_of_ble_eq_true rfl, Nat.le_of_ble_eq_true rfl⟩, rfl, (hts _ lkX5_init_16)⟩ (nPreS hK hPc hDc hAO) rfl rfl hl.1 rfl (lv_room (Nat.le_of_ble_eq_true rfl)) dX5_init_28 ⟨Nat.le_of_ble_eq_true rfl, Nat.le_of_ble_eq_true rfl⟩) hS (fun q _ h => hFc q h) hFc (fun u1 t H1 locs ht hvm hw hB hz1 hk1 hS => ?_)
  obtain ⟨hP1, -, hD1⟩ := hB
  rw [ht] at hP1
  obtain ⟨hP, hD⟩ := va_join (wr := [(a, .inr (4, [.ref q8, .ref q18, .null, .null, .int 0])), (q8, .inl (X.2 3, 200, .inr (.inr (.inr (.inr (fun _ => none)))))), (q18, .inl (X.2 2, 200, .inl (fun _ => 0)))]) (w1 := [(q24, .inr (3, [.int 1, .int 1, .int 0]))]) hP hD [3] [0, 1, 2] rfl rfl (by decide) (by decide) hk1 hFc hP1 hD1
  generalize H1 = H at hP hS ⊢
  have hP : va_P X.1 vwCl [(a, .inr (4, [.ref q8, .ref q18, .null, .null, .int 0])), (q8, .inl (X.2 3, 200, .inr (.inr (.inr (.inr (fun _ => none)))))), (q18, .inl (X.2 2, 200, .inl (fun _ => 0))), (q24, .inr (3, [.int 1, .int 1, .int 0]))] H := hP
  have hD : va_D A [(a, .inr (4, [.ref q8, .ref q18, .null, .null, .int 0])), (q8, .inl (X.2 3, 200, .inr (.inr (.inr (.inr (fun _ => none)))))), (q18, .inl (X.2 2, 200, .inl (fun _ => 0))), (q24, .inr (3, [.int 1, .int 1, .int 0]))] := hD
  refine va_putF (D := X.1) (ci := 4) (v := .ref q24) (ty := (.object "InspectionOffice$Plans")) (C := RX5) (T := TX5) (N := 5) hx hb hts iwX5_init_X5 tyX5 tyX5_ok nmX5 hown hK hP hD hS 0 rfl rfl 2 (by decide) (hts _ lkX5_init_11) (fun _ h9 => h9) rfl hin rfl (by decide +kernel) rfl rfl (Nat.le_of_ble_eq_true rfl) dX5_init_31 (fun H locs hP hD hS => ?_)
  have hP : va_P X.1 vwCl [(a, .inr (4, [.ref q8, .ref q18, .ref q24, .null, .int 0])), (q8, .inl (X.2 3, 200, .inr (.inr (.inr (.inr (fun _ => none)))))), (q18, .inl (X.2 2, 200, .inl (fun _ => 0))), (q24, .inr (3, [.int 1, .int 1, .int 0]))] H := hP
  have hD : va_D A [(a, .inr (4, [.ref q8, .ref q18, .ref q24, .null, .int 0])), (q8, .inl (X.2 3, 200, .inr (.inr (.inr (.inr (fun _ => none)))))), (q18, .inl (X.2 2, 200, .inl (fun _ => 0))), (q24, .inr (3, [.int 1, .int 1, .int 0]))] := hD
  refine lv_aload_n hx hb dX5_init_34 rfl (lv_at hl 0 rfl) ?_
  refine va_new (ci := 0) (fs := [.int 0, .int 0, .int 0, .int 0, .null, .int 0, .int 0, .int 0]) (C := RX0) (T := TX0) (N := 8) hx hb hts iwX5_init_X0 tyX0 tyX0_ok hown (hts _ lkX5_init_12) (hts _ lkX5_init_13) (hts _ lkX5_init_14) hK hP hD hS hA rfl (fun j hj => by rcases (show j = 0 ∨ j = 1 ∨ j = 2 ∨ j = 3 ∨ j = 4 ∨ j = 5 ∨ j = 6 ∨ j = 7 by omega) with rfl | rfl | rfl | rfl | rfl | rfl | rfl | rfl <;> rfl) (Nat.le_of_ble_eq_true rfl) (Nat.le_of_ble_eq_true rfl) dX5_init_35 (fun q35 H hP hD hS => ?_)
  have hP : va_P X.1 vwCl [(a, .inr (4, [.ref q8, .ref q18, .ref q24, .null, .int 0])), (q8, .inl (X.2 3, 200, .inr (.inr (.inr (.inr (fun _ => none)))))), (q18, .inl (X.2 2, 200, .inl (fun _ => 0))), (q24, .inr (3, [.int 1, .int 1, .int 0])), (q35, .inr (0, [.int 0, .int 0, .int 0, .int 0, .null, .int 0, .int 0, .int 0]))] H := hP
  have hD : va_D A [(a, .inr (4, [.ref q8, .ref q18, .ref q24, .null, .int 0])), (q8, .inl (X.2 3, 200, .inr (.inr (.inr (.inr (fun _ => none)))))), (q18, .inl (X.2 2, 200, .inl (fun _ => 0))), (q24, .inr (3, [.int 1, .int 1, .int 0])), (q35, .inr (0, [.int 0, .int 0, .int 0, .int 0, .null, .int 0, .int 0, .int 0]))] := hD
  refine lv_dup hx hb dX5_init_38 rfl ?_
  have hPc := hP.sub (ws' := [(q35, .inr (0, [.int 0, .int 0, .int 0, .int 0, .null, .int 0, .int 0, .int 0]))]) [4] rfl
  have hDc := hD.sub (ws' := [(q35, .inr (0, [.int 0, .int 0, .int 0, .int 0, .null, .int 0, .int 0, .int 0]))]) [4] (by decide) rfl
  have hFc := va_free (wc := [(q35, .inr (0, [.int 0, .int 0, .int 0, .int 0, .null, .int 0, .int 0, .int 0]))]) hD hS hA [4] rfl
  refine va_callv (va_runIN (As := []) (rest := [.ref q35, .ref a]) ⟨hx, hb, hml, hown, hts⟩ (mX0_init l X q35 H.size) ⟨va_cnB 0 hts gX5_init_X0_init_n28 rfl rfl rfl hAO.2.2.1 (hts _ lkX5_init_14) (by decide +kernel) ⟨Nat.le_of_ble_eq_true rfl, Nat.le_of_ble_eq_true rfl⟩, rfl, (hts _ lkX5_init_21)⟩ (nPreS hK hPc hDc hAO) rfl rfl hl.1 rfl (lv_room (Nat.le_of_ble_eq_true rfl)) dX5_init_39 ⟨Nat.le_of_ble_eq_true rfl, Nat.le_of_ble_eq_true rfl⟩) hS (fun q _ h => hFc q h) hFc (fun u2 t H1 locs ht hvm hw hB hz1 hk1 hS => ?_)
  obtain ⟨hP1, -, hD1⟩ := hB
  rw [ht] at hP1
  obtain ⟨hP, hD⟩ := va_join (wr := [(a, .inr (4, [.ref q8, .ref q18, .ref q24, .null, .int 0])), (q8, .inl (X.2 3, 200, .inr (.inr (.inr (.inr (fun _ => none)))))), (q18, .inl (X.2 2, 200, .inl (fun _ => 0))), (q24, .inr (3, [.int 1, .int 1, .int 0]))]) (w1 := [(q35, .inr (0, [.int 0, .int 0, .int 0, .int 0, .ref u2.1, .int 0, .int 0, .int 0])), (u2.1, .inr (1, [.ref u2.2.1, .ref u2.2.2, .int 0])), (u2.2.1, .inl (X.2 2, 60, .inl (fun _ => 0))), (u2.2.2, .inl (X.2 0, 60, .inl (fun _ => 0)))]) hP hD [4] [0, 1, 2, 3] rfl rfl (by decide) (by decide) hk1 hFc hP1 hD1
  generalize H1 = H at hP hS ⊢
  have hP : va_P X.1 vwCl [(a, .inr (4, [.ref q8, .ref q18, .ref q24, .null, .int 0])), (q8, .inl (X.2 3, 200, .inr (.inr (.inr (.inr (fun _ => none)))))), (q18, .inl (X.2 2, 200, .inl (fun _ => 0))), (q24, .inr (3, [.int 1, .int 1, .int 0])), (q35, .inr (0, [.int 0, .int 0, .int 0, .int 0, .ref u2.1, .int 0, .int 0, .int 0])), (u2.1, .inr (1, [.ref u2.2.1, .ref u2.2.2, .int 0])), (u2.2.1, .inl (X.2 2, 60, .inl (fun _ => 0))), (u2.2.2, .inl (X.2 0, 60, .inl (fun _ => 0)))] H := hP
  have hD : va_D A [(a, .inr (4, [.ref q8, .ref q18, .ref q24, .null, .int 0])), (q8, .inl (X.2 3, 200, .inr (.inr (.inr (.inr (fun _ => none)))))), (q18, .inl (X.2 2, 200, .inl (fun _ => 0))), (q24, .inr (3, [.int 1, .int 1, .int 0])), (q35, .inr (0, [.int 0, .int 0, .int 0, .int 0, .ref u2.1, .int 0, .int 0, .int 0])), (u2.1, .inr (1, [.ref u2.2.1, .ref u2.2.2, .int 0])), (u2.2.1, .inl (X.2 2, 60, .inl (fun _ => 0))), (u2.2.2, .inl (X.2 0, 60, .inl (fun _ => 0)))] := hD
  refine va_putF (D := X.1) (ci := 4) (v := .ref q35) (ty := (.object "InspectionOffice$Course")) (C := RX5) (T := TX5) (N := 5) hx hb hts iwX5_init_X5 tyX5 tyX5_ok nmX5 hown hK hP hD hS 0 rfl rfl 3 (by decide) (hts _ lkX5_init_15) (fun _ h9 => h9) rfl hin rfl (by decide +kernel) rfl rfl (Nat.le_of_ble_eq_true rfl) dX5_init_42 (fun H locs hP hD hS => ?_)
  have hP : va_P X.1 vwCl [(a, .inr (4, [.ref q8, .ref q18, .ref q24, .ref q35, .int 0])), (q8, .inl (X.2 3, 200, .inr (.inr (.inr (.inr (fun _ => none)))))), (q18, .inl (X.2 2, 200, .inl (fun _ => 0))), (q24, .inr (3, [.int 1, .int 1, .int 0])), (q35, .inr (0, [.int 0, .int 0, .int 0, .int 0, .ref u2.1, .int 0, .int 0, .int 0])), (u2.1, .inr (1, [.ref u2.2.1, .ref u2.2.2, .int 0])), (u2.2.1, .inl (X.2 2, 60, .inl (fun _ => 0))), (u2.2.2, .inl (X.2 0, 60, .inl (fun _ => 0)))] H := hP
  have hD : va_D A [(a, .inr (4, [.ref q8, .ref q18, .ref q24, .ref q35, .int 0])), (q8, .inl (X.2 3, 200, .inr (.inr (.inr (.inr (fun _ => none)))))), (q18, .inl (X.2 2, 200, .inl (fun _ => 0))), (q24, .inr (3, [.int 1, .int 1, .int 0])), (q35, .inr (0, [.int 0, .int 0, .int 0, .int 0, .ref u2.1, .int 0, .int 0, .int 0])), (u2.1, .inr (1, [.ref u2.2.1, .ref u2.2.2, .int 0])), (u2.2.1, .inl (X.2 2, 60, .inl (fun _ => 0))), (u2.2.2, .inl (X.2 0, 60, .inl (fun _ => 0)))] := hD
  refine W.widen (k := 7) (n := 534) (Nat.le_of_ble_eq_true rfl) (Nat.le_of_ble_eq_true rfl) ?_
  exact W.vret hx hb hr (fun t ht hW => ⟨⟨(q8, q18, q24, q35, u2.1, u2.2.1, u2.2.2), rfl, trivial, by rw [ht]; exact hP, va_K.moved hW.alike hK, hD⟩, hS.F ht⟩) hS.2.2 dX5_init_45
