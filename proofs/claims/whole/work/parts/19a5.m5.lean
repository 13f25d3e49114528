def rmX5_state : Room := { frames := 0, cells := 0, slots := 0, locals := 0 }
theorem iwX5_state_X0 : ∀ w ∈ wsX00, w ∈ wsX5_state := fun w h => List.mem_cons_of_mem _ (List.mem_append_right _ (h))
theorem iwX5_state_X5 : ∀ w ∈ wsX50, w ∈ wsX5_state := fun w h => List.mem_cons_of_mem _ (List.mem_append_left _ (List.mem_append_right _ (h)))
theorem lkX5_state_1 : Cond.fieldLink RX5 29 "InspectionOffice" "course" "LInspectionOffice$Course;" ∈ wsX5_state := List.mem_of_getElem? (i := 1) rfl
theorem lkX5_state_2 : Cond.fieldLink RX5 115 "InspectionOffice$Course" "state" "I" ∈ wsX5_state := List.mem_of_getElem? (i := 2) rfl
set_option maxHeartbeats 4000000 in
set_option maxRecDepth 100000 in
theorem mX5_state (l : Launch) (X : cxT) (N : Nat) (a_office a_la a_ma a_plans a_course a_hist a_hr a_hb : Nat) (office_lotCount : Int32) (la_f : Nat → Option Nat) (ma_f : Nat → Int32) (plans_level : Int32) (plans_quality : Int32) (plans_twice : Int32) (course_steady : Int32) (course_rate : Int32) (course_state : Int32) (course_skipping : Int32) (course_changedAt : Int32) (course_acceptedInRow : Int32) (course_passedInGroup : Int32) (hist_length : Int32) (hr_f : Nat → Int32) (hb_f : Nat → Int32) (pL : List Nat) (pO : Nat → Int32) (pZ : Nat → Int32) (pF : Nat → Int64) (pV : Nat → Int32) (pT : Nat → Int32) (pI : Nat → Int32) (pB : Nat → Int32) (r : Int32) (hf0 : fX5_state N course_state = some r) : Met l yX5_state wsX5_state rmX5_state (rPre X ([(a_office, .inr (4, [.ref a_la, .ref a_ma, .ref a_plans, .ref a_course, .int office_lotCount])), (a_la, .inl (X.2 3, 200, .inr (.inr (.inr (.inr la_f))))), (a_ma, .inl (X.2 2, 200, .inl ma_f)), (a_plans, .inr (3, [.int plans_level, .int plans_quality, .int plans_twice])), (a_course, .inr (0, [.int course_steady, .int course_rate, .int course_state, .int course_skipping, .ref a_hist, .int course_changedAt, .int course_acceptedInRow, .int course_passedInGroup])), (a_hist, .inr (1, [.ref a_hr, .ref a_hb, .int hist_length])), (a_hr, .inl (X.2 2, 60, .inl hr_f)), (a_hb, .inl (X.2 0, 60, .inl hb_f))] ++ (va_pl pL (lotE pO pZ pF pV pT pI pB))) [.ref a_office]) (vp_Si (fun v : Int32 => v = r)) 0 0 (fun _ => False) := by
  refine Met.ofW (cc := cX5_state) (maxL := 1) (ret := (some .int)) (by decide) rfl ?_
  intro p e s m args below meth c s₁ B hml hv
  obtain ⟨rfl, hP, hK, hSt⟩ := hv
  have hx := B.exec
  have hb := B.bytes
  have hr := B.returns
  have hts := atoms_spec (ws := wsX5_state) B.pre
  have hown : s.vm.findClass RX5 = some m.cls := findClass_of_methodNamed B.named
  have hlocks := B.notSynchronized
  have hS : va_S (fun _ => False) s.heap s.heap [] := va_S.rf
  have hl := lv_entry ([.ref a_office]) (n := 1) (Nat.le_of_ble_eq_true rfl)
  rw [lg_entry_eq]
  generalize (lg_sl ([.ref a_office]) ++ List.replicate (1 - (lg_sl ([.ref a_office])).length) Slot.unset).toArray = ls at hl ⊢
  have hl : lv_has ls 1 [(0, .ref a_office)] := hl
  have hf := hf0
  unfold fX5_state at hf
  refine lv_aload_n hx hb dX5_state_0 rfl (lv_at hl 0 rfl) ?_
  refine va_get (D := X.1) (ci := 4) (v := .ref a_course) (C := RX5) (T := TX5) (N := 5) hx hb hts iwX5_state_X5 hown hK hP 0 rfl rfl 3 (by decide) (hts _ lkX5_state_1) (fun _ h9 => h9) rfl dX5_state_1 ?_
  refine va_get (D := X.1) (ci := 0) (v := .int course_state) (C := RX0) (T := TX0) (N := 8) hx hb hts iwX5_state_X0 hown hK hP 4 rfl rfl 2 (by decide) (hts _ lkX5_state_2) (fun _ h9 => h9) rfl dX5_state_4 ?_
  obtain rfl := Option.some.inj hf
  exact W.iret hx hb hr (fun t ht hW => ⟨_, rfl, rfl, ht⟩) (fun _ h => by cases h) dX5_state_7
def rmX5_isSkipping : Room := { frames := 0, cells := 0, slots := 0, locals := 0 }
theorem iwX5_isSkipping_X0 : ∀ w ∈ wsX00, w ∈ wsX5_isSkipping := fun w h => List.mem_cons_of_mem _ (List.mem_append_right _ (h))
theorem iwX5_isSkipping_X5 : ∀ w ∈ wsX50, w ∈ wsX5_isSkipping := fun w h => List.mem_cons_of_mem _ (List.mem_append_left _ (List.mem_append_right _ (h)))
theorem lkX5_isSkipping_1 : Cond.fieldLink RX5 29 "InspectionOffice" "course" "LInspectionOffice$Course;" ∈ wsX5_isSkipping := List.mem_of_getElem? (i := 1) rfl
theorem lkX5_isSkipping_2 : Cond.fieldLink RX5 116 "InspectionOffice$Course" "skipping" "Z" ∈ wsX5_isSkipping := List.mem_of_getElem? (i := 2) rfl
set_option maxHeartbeats 4000000 in
set_option maxRecDepth 100000 in
theorem mX5_isSkipping (l : Launch) (X : cxT) (N : Nat) (a_office a_la a_ma a_plans a_course a_hist a_hr a_hb : Nat) (office_lotCount : Int32) (la_f : Nat → Option Nat) (ma_f : Nat → Int32) (plans_level : Int32) (plans_quality : Int32) (plans_twice : Int32) (course_steady : Int32) (course_rate : Int32) (course_state : Int32) (course_skipping : Int32) (course_changedAt : Int32) (course_acceptedInRow : Int32) (course_passedInGroup : Int32) (hist_length : Int32) (hr_f : Nat → Int32) (hb_f : Nat → Int32) (pL : List Nat) (pO : Nat → Int32) (pZ : Nat → Int32) (pF : Nat → Int64) (pV : Nat → Int32) (pT : Nat → Int32) (pI : Nat → Int32) (pB : Nat → Int32) (r : Int32) (hf0 : fX5_isSkipping N course_skipping = some r) : Met l yX5_isSkipping wsX5_isSkipping rmX5_isSkipping (rPre X ([(a_office, .inr (4, [.ref a_la, .ref a_ma, .ref a_plans, .ref a_course, .int office_lotCount])), (a_la, .inl (X.2 3, 200, .inr (.inr (.inr (.inr la_f))))), (a_ma, .inl (X.2 2, 200, .inl ma_f)), (a_plans, .inr (3, [.int plans_level, .int plans_quality, .int plans_twice])), (a_course, .inr (0, [.int course_steady, .int course_rate, .int course_state, .int course_skipping, .ref a_hist, .int course_changedAt, .int course_acceptedInRow, .int course_passedInGroup])), (a_hist, .inr (1, [.ref a_hr, .ref a_hb, .int hist_length])), (a_hr, .inl (X.2 2, 60, .inl hr_f)), (a_hb, .inl (X.2 0, 60, .inl hb_f))] ++ (va_pl pL (lotE pO pZ pF pV pT pI pB))) [.ref a_office]) (vp_Si (fun v : Int32 => v = r)) 0 0 (fun _ => False) := by
  refine Met.ofW (cc := cX5_isSkipping) (maxL := 1) (ret := (some .boolean)) (by decide) rfl ?_
  intro p e s m args below meth c s₁ B hml hv
  obtain ⟨rfl, hP, hK, hSt⟩ := hv
  have hx := B.exec
  have hb := B.bytes
  have hr := B.returns
  have hts := atoms_spec (ws := wsX5_isSkipping) B.pre
  have hown : s.vm.findClass RX5 = some m.cls := findClass_of_methodNamed B.named
  have hlocks := B.notSynchronized
  have hS : va_S (fun _ => False) s.heap s.heap [] := va_S.rf
  have hl := lv_entry ([.ref a_office]) (n := 1) (Nat.le_of_ble_eq_true rfl)
  rw [lg_entry_eq]
  generalize (lg_sl ([.ref a_office]) ++ List.replicate (1 - (lg_sl ([.ref a_office])).length) Slot.unset).toArray = ls at hl ⊢
  have hl : lv_has ls 1 [(0, .ref a_office)] := hl
  have hf := hf0
  unfold fX5_isSkipping at hf
  refine lv_aload_n hx hb dX5_isSkipping_0 rfl (lv_at hl 0 rfl) ?_
  refine va_get (D := X.1) (ci := 4) (v := .ref a_course) (C := RX5) (T := TX5) (N := 5) hx hb hts iwX5_isSkipping_X5 hown hK hP 0 rfl rfl 3 (by decide) (hts _ lkX5_isSkipping_1) (fun _ h9 => h9) rfl dX5_isSkipping_1 ?_
  refine va_get (D := X.1) (ci := 0) (v := .int course_skipping) (C := RX0) (T := TX0) (N := 8) hx hb hts iwX5_isSkipping_X0 hown hK hP 4 rfl rfl 3 (by decide) (hts _ lkX5_isSkipping_2) (fun _ h9 => h9) rfl dX5_isSkipping_4 ?_
  obtain ⟨g_1, hf⟩ := ite_some hf
  obtain rfl := Option.some.inj hf
  exact W.zret hx hb hr (zb_n g_1) (fun t ht hW => ⟨_, rfl, rfl, ht⟩) (fun _ h => by cases h) dX5_isSkipping_7
