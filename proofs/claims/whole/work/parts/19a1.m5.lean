def rmX5_findLot : Room := { frames := 1, cells := 0, slots := 0, locals := 20 }
theorem iwX5_findLot_X5 : ∀ w ∈ wsX50, w ∈ wsX5_findLot := fun w h => List.mem_cons_of_mem _ (List.mem_append_right _ (h))
theorem lkX5_findLot_1 : Cond.fieldLink RX5 11 "InspectionOffice" "lotByOrder" "[LInspectionOffice$Lot;" ∈ wsX5_findLot := List.mem_of_getElem? (i := 1) rfl
set_option maxHeartbeats 4000000 in
set_option maxRecDepth 100000 in
theorem mX5_findLot (l : Launch) (X : cxT) (N : Nat) (a_office a_la a_ma a_plans a_course a_hist a_hr a_hb : Nat) (office_lotCount : Int32) (la_f : Nat → Option Nat) (ma_f : Nat → Int32) (plans_level : Int32) (plans_quality : Int32) (plans_twice : Int32) (course_steady : Int32) (course_rate : Int32) (course_state : Int32) (course_skipping : Int32) (course_changedAt : Int32) (course_acceptedInRow : Int32) (course_passedInGroup : Int32) (hist_length : Int32) (hr_f : Nat → Int32) (hb_f : Nat → Int32) (pL : List Nat) (pO : Nat → Int32) (pZ : Nat → Int32) (pF : Nat → Int64) (pV : Nat → Int32) (pT : Nat → Int32) (pI : Nat → Int32) (pB : Nat → Int32) (p1 : Int32) (r : Option Nat) (hf0 : fX5_findLot N p1 la_f = some r) : Met l yX5_findLot wsX5_findLot rmX5_findLot (rPre X ([(a_office, .inr (4, [.ref a_la, .ref a_ma, .ref a_plans, .ref a_course, .int office_lotCount])), (a_la, .inl (X.2 3, 200, .inr (.inr (.inr (.inr la_f))))), (a_ma, .inl (X.2 2, 200, .inl ma_f)), (a_plans, .inr (3, [.int plans_level, .int plans_quality, .int plans_twice])), (a_course, .inr (0, [.int course_steady, .int course_rate, .int course_state, .int course_skipping, .ref a_hist, .int course_changedAt, .int course_acceptedInRow, .int course_passedInGroup])), (a_hist, .inr (1, [.ref a_hr, .ref a_hb, .int hist_length])), (a_hr, .inl (X.2 2, 60, .inl hr_f)), (a_hb, .inl (X.2 0, 60, .inl hb_f))] ++ (va_pl pL (lotE pO pZ pF pV pT pI pB))) [.ref a_office, .int p1]) (va_Sq (fun v : Option Nat => v = r)) 0 0 (fun _ => False) := by
  refine Met.ofW (cc := cX5_findLot) (maxL := 2) (ret := (some (.object "InspectionOffice$Lot"))) (by decide) rfl ?_
  intro p e s m args below meth c s₁ B hml hv
  obtain ⟨rfl, hP, hK, hSt⟩ := hv
  have hx := B.exec
  have hb := B.bytes
  have hr := B.returns
  have hts := atoms_spec (ws := wsX5_findLot) B.pre
  have hown : s.vm.findClass RX5 = some m.cls := findClass_of_methodNamed B.named
  have hlocks := B.notSynchronized
  have hS : va_S (fun _ => False) s.heap s.heap [] := va_S.rf
  have hl := lv_entry ([.ref a_office, .int p1]) (n := 2) (Nat.le_of_ble_eq_true rfl)
  rw [lg_entry_eq]
  generalize (lg_sl ([.ref a_office, .int p1]) ++ List.replicate (2 - (lg_sl ([.ref a_office, .int p1])).length) Slot.unset).toArray = ls at hl ⊢
  have hl : lv_has ls 2 [(0, .ref a_office), (1, .int p1)] := hl
  have hf := hf0
  unfold fX5_findLot at hf
  refine lv_iload_n hx hb dX5_findLot_0 rfl (lv_at hl 1 rfl) ?_
  obtain ⟨r_1, e_2, hf⟩ := bind_some hf
  refine vp_callSi (W.runS (As := [.int p1]) (rest := []) ⟨hx, hb, hml, hown, hts⟩ (mX5_isOrder l X N p1 r_1 e_2) (va_cwS 1 hts gX5_findLot_X5_isOrder rfl rfl rfl (by decide +kernel) ⟨Nat.le_of_ble_eq_true rfl, Nat.le_of_ble_eq_true rfl⟩) (rPreS hK hP hSt hS [] rfl) rfl rfl hl.1 rfl (lv_room (Nat.le_of_ble_eq_true rfl)) dX5_findLot_1 ⟨Nat.zero_le _, Nat.zero_le _⟩) (fun v9 e9 => ?_)
  rw [e9]
  refine lv_if_eq (tgt := 16) hx hb dX5_findLot_4 (by decide) (fun c_3 => ?_) (fun c_3 => ?_)
  · rw [if_pos c_3] at hf
    refine lv_null hx hb dX5_findLot_16 ?_
    obtain rfl := Option.some.inj hf
    exact W.aret hx hb hr (Or.inl ⟨_, rfl⟩) (Or.inl rfl) (fun t ht hW => ⟨none, rfl, rfl, ht⟩) (fun _ h => by cases h) dX5_findLot_17
  · rw [if_neg c_3] at hf
    refine lv_aload_n hx hb dX5_findLot_7 rfl (lv_at hl 0 rfl) ?_
    refine va_get (D := X.1) (ci := 4) (v := .ref a_la) (C := RX5) (T := TX5) (N := 5) hx hb hts iwX5_findLot_X5 hown hK hP 0 rfl rfl 0 (by decide) (hts _ lkX5_findLot_1) (fun _ h9 => h9) rfl dX5_findLot_8 ?_
    refine lv_iload_n hx hb dX5_findLot_11 rfl (lv_at hl 1 rfl) ?_
    obtain ⟨g_4, hf⟩ := ite_some hf
    refine va_aldq hx hb hK hP 1 3 rfl rfl (i := p1) g_4 dX5_findLot_12 ?_
    obtain ⟨o_6, e_7, hf⟩ := bind_some hf
    refine lv_eqq (Option.some.inj e_7) ?_
    rcases o_6 with _ | a_5
    · try dsimp only at hf
      show W _ _ _ _ _ _ _ _ _ _ _ _ _ _ _ (F0 m 13 ls (.null :: _))
      refine lv_goto (tgt := 17) hx hb dX5_findLot_13 (by decide) ?_
      obtain rfl := Option.some.inj hf
      exact W.aret hx hb hr (Or.inl ⟨_, rfl⟩) (Or.inl rfl) (fun t ht hW => ⟨none, rfl, rfl, ht⟩) (fun _ h => by cases h) dX5_findLot_17
    · try dsimp only at hf
      show W _ _ _ _ _ _ _ _ _ _ _ _ _ _ _ (F0 m 13 ls (.ref a_5 :: _))
      refine lv_goto (tgt := 17) hx hb dX5_findLot_13 (by decide) ?_
      obtain rfl := Option.some.inj hf
      exact W.aret hx hb hr (Or.inl ⟨_, rfl⟩) (Or.inr ⟨_, rfl⟩) (fun t ht hW => ⟨(some a_5), rfl, rfl, ht⟩) (fun _ h => by cases h) dX5_findLot_17
