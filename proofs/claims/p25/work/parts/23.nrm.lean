def rnX5_verdict : Room := { frames := 6, cells := 0, slots := 0, locals := 100 }
set_option maxHeartbeats 4000000 in
set_option maxRecDepth 100000 in
theorem nX5_verdict (l : Launch) (X : cxT) (N : Nat) (a_office a_la a_ma a_plans a_course a_hist a_hr a_hb : Nat) (office_lotCount : Int32) (la_f : Nat → Option Nat) (ma_f : Nat → Int32) (plans_level : Int32) (plans_quality : Int32) (plans_twice : Int32) (course_steady : Int32) (course_rate : Int32) (course_state : Int32) (course_skipping : Int32) (course_changedAt : Int32) (course_acceptedInRow : Int32) (course_passedInGroup : Int32) (hist_length : Int32) (hr_f : Nat → Int32) (hb_f : Nat → Int32) (pL : List Nat) (pO : Nat → Int32) (pZ : Nat → Int32) (pF : Nat → Int64) (pV : Nat → Int32) (pT : Nat → Int32) (pI : Nat → Int32) (pB : Nat → Int32) (p1 : Int32) (r : Int32) (hf0 : fX5_verdict N p1 la_f pL pV = some (Sum.inr r)) : Met l yX5_verdict wsX5_verdict rnX5_verdict (rPre X (HAppend.hAppend (α := va_W) (β := va_W) (γ := va_W) [(a_office, .inr (4, [.ref a_la, .ref a_ma, .ref a_plans, .ref a_course, .int office_lotCount])), (a_la, .inl (X.2 3, 200, .inr (.inr (.inr (.inr la_f))))), (a_ma, .inl (X.2 2, 200, .inl ma_f)), (a_plans, .inr (3, [.int plans_level, .int plans_quality, .int plans_twice])), (a_course, .inr (0, [.int course_steady, .int course_rate, .int course_state, .int course_skipping, .ref a_hist, .int course_changedAt, .int course_acceptedInRow, .int course_passedInGroup])), (a_hist, .inr (1, [.ref a_hr, .ref a_hb, .int hist_length])), (a_hr, .inl (X.2 2, 60, .inl hr_f)), (a_hb, .inl (X.2 0, 60, .inl hb_f))] (va_pl pL (lotE pO pZ pF pV pT pI pB))) [.ref a_office, .int p1]) (vp_Si (fun v : Int32 => v = r)) 0 0 (fun _ => False) := by
  refine Met.ofW (cc := cX5_verdict) (maxL := 3) (ret := (some .int)) (by decide) rfl ?_
  intro p e s m args below meth c s₁ B hml hv
  obtain ⟨rfl, hP, hK, hSt⟩ := hv
  have hx := B.exec
  have hb := B.bytes
  have hr := B.returns
  have hts := atoms_spec (ws := wsX5_verdict) B.pre
  have hown : s.vm.findClass RX5 = some m.cls := findClass_of_methodNamed B.named
  have hlocks := B.notSynchronized
  have hS : va_S (fun _ => False) s.heap s.heap [] := va_S.rf
  have hl := lv_entry ([.ref a_office, .int p1]) (n := 3) (Nat.le_of_ble_eq_true rfl)
  rw [lg_entry_eq]
  generalize (lg_sl ([.ref a_office, .int p1]) ++ List.replicate (3 - (lg_sl ([.ref a_office, .int p1])).length) Slot.unset).toArray = ls at hl ⊢
  have hl : lv_has ls 3 [(0, .ref a_office), (1, .int p1)] := hl
  have hf := hf0
  unfold fX5_verdict at hf
  refine lv_aload_n hx hb dX5_verdict_0 rfl (lv_at hl 0 rfl) ?_
  refine lv_iload_n hx hb dX5_verdict_1 rfl (lv_at hl 1 rfl) ?_
  obtain ⟨r_1, e_2, hf⟩ := bind_some hf
  refine va_csq (W.runV (As := [.int p1]) (rest := []) ⟨hx, hb, hml, hown, hts⟩ (mX5_findLot l X N a_office a_la a_ma a_plans a_course a_hist a_hr a_hb office_lotCount la_f ma_f plans_level plans_quality plans_twice course_steady course_rate course_state course_skipping course_changedAt course_acceptedInRow course_passedInGroup hist_length hr_f hb_f pL pO pZ pF pV pT pI pB p1 r_1 e_2) (cwV 1 hts gX5_verdict_X5_findLot rfl rfl rfl (by decide +kernel) ⟨Nat.le_of_ble_eq_true rfl, Nat.le_of_ble_eq_true rfl⟩) (oPreV hK hP hSt hS 0 rfl rfl) rfl rfl hl.1 rfl (lv_room (Nat.le_of_ble_eq_true rfl)) dX5_verdict_2 ⟨Nat.zero_le _, Nat.zero_le _⟩) (fun v9 e9 => ?_)
  rw [e9]
  rcases r_1 with _ | a_3
  · try dsimp only at hf
    show W _ _ _ _ _ _ _ _ _ _ _ _ _ _ _ (F0 m 5 ls (.null :: _))
    refine lv_astore_nN (lv' := [(2, .null), (0, .ref a_office), (1, .int p1)]) hx hb dX5_verdict_5 rfl hl (by decide) rfl (fun ls hl => ?_)
    refine lv_aload_nN hx hb dX5_verdict_6 rfl (lv_at hl 0 rfl) ?_
    refine lv_ifnonnullN hx hb dX5_verdict_7 ?_
    exact absurd (Option.some.inj hf) (by simp)
  · try dsimp only at hf
    show W _ _ _ _ _ _ _ _ _ _ _ _ _ _ _ (F0 m 5 ls (.ref a_3 :: _))
    refine lv_astore_n (lv' := [(2, .ref a_3), (0, .ref a_office), (1, .int p1)]) hx hb dX5_verdict_5 rfl hl (by decide) rfl (fun ls hl => ?_)
    refine lv_aload_n hx hb dX5_verdict_6 rfl (lv_at hl 0 rfl) ?_
    refine lv_ifnonnull (tgt := 20) hx hb dX5_verdict_7 (by decide) ?_
    refine lv_aload_n hx hb dX5_verdict_20 rfl (lv_at hl 0 rfl) ?_
    obtain ⟨g_4, hf⟩ := ite_some hf
    obtain ⟨k_5, hk_5⟩ := va_pl_get (X := [(a_office, .inr (4, [.ref a_la, .ref a_ma, .ref a_plans, .ref a_course, .int office_lotCount])), (a_la, .inl (X.2 3, 200, .inr (.inr (.inr (.inr la_f))))), (a_ma, .inl (X.2 2, 200, .inl ma_f)), (a_plans, .inr (3, [.int plans_level, .int plans_quality, .int plans_twice])), (a_course, .inr (0, [.int course_steady, .int course_rate, .int course_state, .int course_skipping, .ref a_hist, .int course_changedAt, .int course_acceptedInRow, .int course_passedInGroup])), (a_hist, .inr (1, [.ref a_hr, .ref a_hb, .int hist_length])), (a_hr, .inl (X.2 2, 60, .inl hr_f)), (a_hb, .inl (X.2 0, 60, .inl hb_f))]) (f := (lotE pO pZ pF pV pT pI pB)) g_4
    refine va_get (D := X.1) (ci := 2) (v := .int (pV a_3)) (C := RX3) (T := TX3) (N := 7) hx hb hts iwX5_verdict_X3 hown hK hP k_5 hk_5 rfl 3 (by decide) (hts _ lkX5_verdict_3) (fun _ h9 => h9) rfl dX5_verdict_21 ?_
    obtain rfl := Sum.inr.inj (Option.some.inj hf)
    exact W.iret hx hb hr (fun t ht hW => ⟨_, rfl, rfl, ht⟩) (fun _ h => by cases h) dX5_verdict_24
def rnX5_stateAt : Room := { frames := 6, cells := 0, slots := 0, locals := 100 }
set_option maxHeartbeats 4000000 in
set_option maxRecDepth 100000 in
theorem nX5_stateAt (l : Launch) (X : cxT) (N : Nat) (a_office a_la a_ma a_plans a_course a_hist a_hr a_hb : Nat) (office_lotCount : Int32) (la_f : Nat → Option Nat) (ma_f : Nat → Int32) (plans_level : Int32) (plans_quality : Int32) (plans_twice : Int32) (course_steady : Int32) (course_rate : Int32) (course_state : Int32) (course_skipping : Int32) (course_changedAt : Int32) (course_acceptedInRow : Int32) (course_passedInGroup : Int32) (hist_length : Int32) (hr_f : Nat → Int32) (hb_f : Nat → Int32) (pL : List Nat) (pO : Nat → Int32) (pZ : Nat → Int32) (pF : Nat → Int64) (pV : Nat → Int32) (pT : Nat → Int32) (pI : Nat → Int32) (pB : Nat → Int32) (p1 : Int32) (r : Int32) (hf0 : fX5_stateAt N p1 la_f pL pT = some (Sum.inr r)) : Met l yX5_stateAt wsX5_stateAt rnX5_stateAt (rPre X (HAppend.hAppend (α := va_W) (β := va_W) (γ := va_W) [(a_office, .inr (4, [.ref a_la, .ref a_ma, .ref a_plans, .ref a_course, .int office_lotCount])), (a_la, .inl (X.2 3, 200, .inr (.inr (.inr (.inr la_f))))), (a_ma, .inl (X.2 2, 200, .inl ma_f)), (a_plans, .inr (3, [.int plans_level, .int plans_quality, .int plans_twice])), (a_course, .inr (0, [.int course_steady, .int course_rate, .int course_state, .int course_skipping, .ref a_hist, .int course_changedAt, .int course_acceptedInRow, .int course_passedInGroup])), (a_hist, .inr (1, [.ref a_hr, .ref a_hb, .int hist_length])), (a_hr, .inl (X.2 2, 60, .inl hr_f)), (a_hb, .inl (X.2 0, 60, .inl hb_f))] (va_pl pL (lotE pO pZ pF pV pT pI pB))) [.ref a_office, .int p1]) (vp_Si (fun v : Int32 => v = r)) 0 0 (fun _ => False) := by
  refine Met.ofW (cc := cX5_stateAt) (maxL := 3) (ret := (some .int)) (by decide) rfl ?_
  intro p e s m args below meth c s₁ B hml hv
  obtain ⟨rfl, hP, hK, hSt⟩ := hv
  have hx := B.exec
  have hb := B.bytes
  have hr := B.returns
  have hts := atoms_spec (ws := wsX5_stateAt) B.pre
  have hown : s.vm.findClass RX5 = some m.cls := findClass_of_methodNamed B.named
  have hlocks := B.notSynchronized
  have hS : va_S (fun _ => False) s.heap s.heap [] := va_S.rf
  have hl := lv_entry ([.ref a_office, .int p1]) (n := 3) (Nat.le_of_ble_eq_true rfl)
  rw [lg_entry_eq]
  generalize (lg_sl ([.ref a_office, .int p1]) ++ List.replicate (3 - (lg_sl ([.ref a_office, .int p1])).length) Slot.unset).toArray = ls at hl ⊢
  have hl : lv_has ls 3 [(0, .ref a_office), (1, .int p1)] := hl
  have hf := hf0
  unfold fX5_stateAt at hf
  refine lv_aload_n hx hb dX5_stateAt_0 rfl (lv_at hl 0 rfl) ?_
  refine lv_iload_n hx hb dX5_stateAt_1 rfl (lv_at hl 1 rfl) ?_
  obtain ⟨r_1, e_2, hf⟩ := bind_some hf
  refine va_csq (W.runV (As := [.int p1]) (rest := []) ⟨hx, hb, hml, hown, hts⟩ (mX5_findLot l X N a_office a_la a_ma a_plans a_course a_hist a_hr a_hb office_lotCount la_f ma_f plans_level plans_quality plans_twice course_steady course_rate course_state course_skipping course_changedAt course_acceptedInRow course_passedInGroup hist_length hr_f hb_f pL pO pZ pF pV pT pI pB p1 r_1 e_2) (cwV 1 hts gX5_stateAt_X5_findLot rfl rfl rfl (by decide +kernel) ⟨Nat.le_of_ble_eq_true rfl, Nat.le_of_ble_eq_true rfl⟩) (oPreV hK hP hSt hS 0 rfl rfl) rfl rfl hl.1 rfl (lv_room (Nat.le_of_ble_eq_true rfl)) dX5_stateAt_2 ⟨Nat.zero_le _, Nat.zero_le _⟩) (fun v9 e9 => ?_)
  rw [e9]
  rcases r_1 with _ | a_3
  · try dsimp only at hf
    show W _ _ _ _ _ _ _ _ _ _ _ _ _ _ _ (F0 m 5 ls (.null :: _))
    refine lv_astore_nN (lv' := [(2, .null), (0, .ref a_office), (1, .int p1)]) hx hb dX5_stateAt_5 rfl hl (by decide) rfl (fun ls hl => ?_)
    refine lv_aload_nN hx hb dX5_stateAt_6 rfl (lv_at hl 0 rfl) ?_
    refine lv_ifnonnullN hx hb dX5_stateAt_7 ?_
    exact absurd (Option.some.inj hf) (by simp)
  · try dsimp only at hf
    show W _ _ _ _ _ _ _ _ _ _ _ _ _ _ _ (F0 m 5 ls (.ref a_3 :: _))
    refine lv_astore_n (lv' := [(2, .ref a_3), (0, .ref a_office), (1, .int p1)]) hx hb dX5_stateAt_5 rfl hl (by decide) rfl (fun ls hl => ?_)
    refine lv_aload_n hx hb dX5_stateAt_6 rfl (lv_at hl 0 rfl) ?_
    refine lv_ifnonnull (tgt := 20) hx hb dX5_stateAt_7 (by decide) ?_
    refine lv_aload_n hx hb dX5_stateAt_20 rfl (lv_at hl 0 rfl) ?_
    obtain ⟨g_4, hf⟩ := ite_some hf
    obtain ⟨k_5, hk_5⟩ := va_pl_get (X := [(a_office, .inr (4, [.ref a_la, .ref a_ma, .ref a_plans, .ref a_course, .int office_lotCount])), (a_la, .inl (X.2 3, 200, .inr (.inr (.inr (.inr la_f))))), (a_ma, .inl (X.2 2, 200, .inl ma_f)), (a_plans, .inr (3, [.int plans_level, .int plans_quality, .int plans_twice])), (a_course, .inr (0, [.int course_steady, .int course_rate, .int course_state, .int course_skipping, .ref a_hist, .int course_changedAt, .int course_acceptedInRow, .int course_passedInGroup])), (a_hist, .inr (1, [.ref a_hr, .ref a_hb, .int hist_length])), (a_hr, .inl (X.2 2, 60, .inl hr_f)), (a_hb, .inl (X.2 0, 60, .inl hb_f))]) (f := (lotE pO pZ pF pV pT pI pB)) g_4
    refine va_get (D := X.1) (ci := 2) (v := .int (pT a_3)) (C := RX3) (T := TX3) (N := 7) hx hb hts iwX5_stateAt_X3 hown hK hP k_5 hk_5 rfl 4 (by decide) (hts _ lkX5_stateAt_3) (fun _ h9 => h9) rfl dX5_stateAt_21 ?_
    obtain rfl := Sum.inr.inj (Option.some.inj hf)
    exact W.iret hx hb hr (fun t ht hW => ⟨_, rfl, rfl, ht⟩) (fun _ h => by cases h) dX5_stateAt_24
def rnX5_inspected : Room := { frames := 6, cells := 0, slots := 0, locals := 100 }
set_option maxHeartbeats 4000000 in
set_option maxRecDepth 100000 in
theorem nX5_inspected (l : Launch) (X : cxT) (N : Nat) (a_office a_la a_ma a_plans a_course a_hist a_hr a_hb : Nat) (office_lotCount : Int32) (la_f : Nat → Option Nat) (ma_f : Nat → Int32) (plans_level : Int32) (plans_quality : Int32) (plans_twice : Int32) (course_steady : Int32) (course_rate : Int32) (course_state : Int32) (course_skipping : Int32) (course_changedAt : Int32) (course_acceptedInRow : Int32) (course_passedInGroup : Int32) (hist_length : Int32) (hr_f : Nat → Int32) (hb_f : Nat → Int32) (pL : List Nat) (pO : Nat → Int32) (pZ : Nat → Int32) (pF : Nat → Int64) (pV : Nat → Int32) (pT : Nat → Int32) (pI : Nat → Int32) (pB : Nat → Int32) (p1 : Int32) (r : Int32) (hf0 : fX5_inspected N p1 la_f pL pI = some (Sum.inr r)) : Met l yX5_inspected wsX5_inspected rnX5_inspected (rPre X (HAppend.hAppend (α := va_W) (β := va_W) (γ := va_W) [(a_office, .inr (4, [.ref a_la, .ref a_ma, .ref a_plans, .ref a_course, .int office_lotCount])), (a_la, .inl (X.2 3, 200, .inr (.inr (.inr (.inr la_f))))), (a_ma, .inl (X.2 2, 200, .inl ma_f)), (a_plans, .inr (3, [.int plans_level, .int plans_quality, .int plans_twice])), (a_course, .inr (0, [.int course_steady, .int course_rate, .int course_state, .int course_skipping, .ref a_hist, .int course_changedAt, .int course_acceptedInRow, .int course_passedInGroup])), (a_hist, .inr (1, [.ref a_hr, .ref a_hb, .int hist_length])), (a_hr, .inl (X.2 2, 60, .inl hr_f)), (a_hb, .inl (X.2 0, 60, .inl hb_f))] (va_pl pL (lotE pO pZ pF pV pT pI pB))) [.ref a_office, .int p1]) (vp_Si (fun v : Int32 => v = r)) 0 0 (fun _ => False) := by
  refine Met.ofW (cc := cX5_inspected) (maxL := 3) (ret := (some .int)) (by decide) rfl ?_
  intro p e s m args below meth c s₁ B hml hv
  obtain ⟨rfl, hP, hK, hSt⟩ := hv
  have hx := B.exec
  have hb := B.bytes
  have hr := B.returns
  have hts := atoms_spec (ws := wsX5_inspected) B.pre
  have hown : s.vm.findClass RX5 = some m.cls := findClass_of_methodNamed B.named
  have hlocks := B.notSynchronized
  have hS : va_S (fun _ => False) s.heap s.heap [] := va_S.rf
  have hl := lv_entry ([.ref a_office, .int p1]) (n := 3) (Nat.le_of_ble_eq_true rfl)
  rw [lg_entry_eq]
  generalize (lg_sl ([.ref a_office, .int p1]) ++ List.replicate (3 - (lg_sl ([.ref a_office, .int p1])).length) Slot.unset).toArray = ls at hl ⊢
  have hl : lv_has ls 3 [(0, .ref a_office), (1, .int p1)] := hl
  have hf := hf0
  unfold fX5_inspected at hf
  refine lv_aload_n hx hb dX5_inspected_0 rfl (lv_at hl 0 rfl) ?_
  refine lv_iload_n hx hb dX5_inspected_1 rfl (lv_at hl 1 rfl) ?_
  obtain ⟨r_1, e_2, hf⟩ := bind_some hf
  refine va_csq (W.runV (As := [.int p1]) (rest := []) ⟨hx, hb, hml, hown, hts⟩ (mX5_findLot l X N a_office a_la a_ma a_plans a_course a_hist a_hr a_hb office_lotCount la_f ma_f plans_level plans_quality plans_twice course_steady course_rate course_state course_skipping course_changedAt course_acceptedInRow course_passedInGroup hist_length hr_f hb_f pL pO pZ pF pV pT pI pB p1 r_1 e_2) (cwV 1 hts gX5_inspected_X5_findLot rfl rfl rfl (by decide +kernel) ⟨Nat.le_of_ble_eq_true rfl, Nat.le_of_ble_eq_true rfl⟩) (oPreV hK hP hSt hS 0 rfl rfl) rfl rfl hl.1 rfl (lv_room (Nat.le_of_ble_eq_true rfl)) dX5_inspected_2 ⟨Nat.zero_le _, Nat.zero_le _⟩) (fun v9 e9 => ?_)
  rw [e9]
  rcases r_1 with _ | a_3
  · try dsimp only at hf
    show W _ _ _ _ _ _ _ _ _ _ _ _ _ _ _ (F0 m 5 ls (.null :: _))
    refine lv_astore_nN (lv' := [(2, .null), (0, .ref a_office), (1, .int p1)]) hx hb dX5_inspected_5 rfl hl (by decide) rfl (fun ls hl => ?_)
    refine lv_aload_nN hx hb dX5_inspected_6 rfl (lv_at hl 0 rfl) ?_
    refine lv_ifnonnullN hx hb dX5_inspected_7 ?_
    exact absurd (Option.some.inj hf) (by simp)
  · try dsimp only at hf
    show W _ _ _ _ _ _ _ _ _ _ _ _ _ _ _ (F0 m 5 ls (.ref a_3 :: _))
    refine lv_astore_n (lv' := [(2, .ref a_3), (0, .ref a_office), (1, .int p1)]) hx hb dX5_inspected_5 rfl hl (by decide) rfl (fun ls hl => ?_)
    refine lv_aload_n hx hb dX5_inspected_6 rfl (lv_at hl 0 rfl) ?_
    refine lv_ifnonnull (tgt := 20) hx hb dX5_inspected_7 (by decide) ?_
    refine lv_aload_n hx hb dX5_inspected_20 rfl (lv_at hl 0 rfl) ?_
    obtain ⟨g_4, hf⟩ := ite_some hf
    obtain ⟨k_5, hk_5⟩ := va_pl_get (X := [(a_office, .inr (4, [.ref a_la, .ref a_ma, .ref a_plans, .ref a_course, .int office_lotCount])), (a_la, .inl (X.2 3, 200, .inr (.inr (.inr (.inr la_f))))), (a_ma, .inl (X.2 2, 200, .inl ma_f)), (a_plans, .inr (3, [.int plans_level, .int plans_quality, .int plans_twice])), (a_course, .inr (0, [.int course_steady, .int course_rate, .int course_state, .int course_skipping, .ref a_hist, .int course_changedAt, .int course_acceptedInRow, .int course_passedInGroup])), (a_hist, .inr (1, [.ref a_hr, .ref a_hb, .int hist_length])), (a_hr, .inl (X.2 2, 60, .inl hr_f)), (a_hb, .inl (X.2 0, 60, .inl hb_f))]) (f := (lotE pO pZ pF pV pT pI pB)) g_4
    refine va_get (D := X.1) (ci := 2) (v := .int (pI a_3)) (C := RX3) (T := TX3) (N := 7) hx hb hts iwX5_inspected_X3 hown hK hP k_5 hk_5 rfl 5 (by decide) (hts _ lkX5_inspected_3) (fun _ h9 => h9) rfl dX5_inspected_21 ?_
    obtain rfl := Sum.inr.inj (Option.some.inj hf)
    exact W.iret hx hb hr (fun t ht hW => ⟨_, rfl, rfl, ht⟩) (fun _ h => by cases h) dX5_inspected_24
def rnX5_badIn : Room := { frames := 6, cells := 0, slots := 0, locals := 100 }
set_option maxHeartbeats 4000000 in
set_option maxRecDepth 100000 in
theorem nX5_badIn (l : Launch) (X : cxT) (N : Nat) (a_office a_la a_ma a_plans a_course a_hist a_hr a_hb : Nat) (office_lotCount : Int32) (la_f : Nat → Option Nat) (ma_f : Nat → Int32) (plans_level : Int32) (plans_quality : Int32) (plans_twice : Int32) (course_steady : Int32) (course_rate : Int32) (course_state : Int32) (course_skipping : Int32) (course_changedAt : Int32) (course_acceptedInRow : Int32) (course_passedInGroup : Int32) (hist_length : Int32) (hr_f : Nat → Int32) (hb_f : Nat → Int32) (pL : List Nat) (pO : Nat → Int32) (pZ : Nat → Int32) (pF : Nat → Int64) (pV : Nat → Int32) (pT : Nat → Int32) (pI : Nat → Int32) (pB : Nat → Int32) (p1 : Int32) (r : Int32) (hf0 : fX5_badIn N p1 la_f pL pB = some (Sum.inr r)) : Met l yX5_badIn wsX5_badIn rnX5_badIn (rPre X (HAppend.hAppend (α := va_W) (β := va_W) (γ := va_W) [(a_office, .inr (4, [.ref a_la, .ref a_ma, .ref a_plans, .ref a_course, .int office_lotCount])), (a_la, .inl (X.2 3, 200, .inr (.inr (.inr (.inr la_f))))), (a_ma, .inl (X.2 2, 200, .inl ma_f)), (a_plans, .inr (3, [.int plans_level, .int plans_quality, .int plans_twice])), (a_course, .inr (0, [.int course_steady, .int course_rate, .int course_state, .int course_skipping, .ref a_hist, .int course_changedAt, .int course_acceptedInRow, .int course_passedInGroup])), (a_hist, .inr (1, [.ref a_hr, .ref a_hb, .int hist_length])), (a_hr, .inl (X.2 2, 60, .inl hr_f)), (a_hb, .inl (X.2 0, 60, .inl hb_f))] (va_pl pL (lotE pO pZ pF pV pT pI pB))) [.ref a_office, .int p1]) (vp_Si (fun v : Int32 => v = r)) 0 0 (fun _ => False) := by
  refine Met.ofW (cc := cX5_badIn) (maxL := 3) (ret := (some .int)) (by decide) rfl ?_
  intro p e s m args below meth c s₁ B hml hv
  obtain ⟨rfl, hP, hK, hSt⟩ := hv
  have hx := B.exec
  have hb := B.bytes
  have hr := B.returns
  have hts := atoms_spec (ws := wsX5_badIn) B.pre
  have hown : s.vm.findClass RX5 = some m.cls := findClass_of_methodNamed B.named
  have hlocks := B.notSynchronized
  have hS : va_S (fun _ => False) s.heap s.heap [] := va_S.rf
  have hl := lv_entry ([.ref a_office, .int p1]) (n := 3) (Nat.le_of_ble_eq_true rfl)
  rw [lg_entry_eq]
  generalize (lg_sl ([.ref a_office, .int p1]) ++ List.replicate (3 - (lg_sl ([.ref a_office, .int p1])).length) Slot.unset).toArray = ls at hl ⊢
  have hl : lv_has ls 3 [(0, .ref a_office), (1, .int p1)] := hl
  have hf := hf0
  unfold fX5_badIn at hf
  refine lv_aload_n hx hb dX5_badIn_0 rfl (lv_at hl 0 rfl) ?_
  refine lv_iload_n hx hb dX5_badIn_1 rfl (lv_at hl 1 rfl) ?_
  obtain ⟨r_1, e_2, hf⟩ := bind_some hf
  refine va_csq (W.runV (As := [.int p1]) (rest := []) ⟨hx, hb, hml, hown, hts⟩ (mX5_findLot l X N a_office a_la a_ma a_plans a_course a_hist a_hr a_hb office_lotCount la_f ma_f plans_level plans_quality plans_twice course_steady course_rate course_state course_skipping course_changedAt course_acceptedInRow course_passedInGroup hist_length hr_f hb_f pL pO pZ pF pV pT pI pB p1 r_1 e_2) (cwV 1 hts gX5_badIn_X5_findLot rfl rfl rfl (by decide +kernel) ⟨Nat.le_of_ble_eq_true rfl, Nat.le_of_ble_eq_true rfl⟩) (oPreV hK hP hSt hS 0 rfl rfl) rfl rfl hl.1 rfl (lv_room (Nat.le_of_ble_eq_true rfl)) dX5_badIn_2 ⟨Nat.zero_le _, Nat.zero_le _⟩) (fun v9 e9 => ?_)
  rw [e9]
  rcases r_1 with _ | a_3
  · try dsimp only at hf
    show W _ _ _ _ _ _ _ _ _ _ _ _ _ _ _ (F0 m 5 ls (.null :: _))
    refine lv_astore_nN (lv' := [(2, .null), (0, .ref a_office), (1, .int p1)]) hx hb dX5_badIn_5 rfl hl (by decide) rfl (fun ls hl => ?_)
    refine lv_aload_nN hx hb dX5_badIn_6 rfl (lv_at hl 0 rfl) ?_
    refine lv_ifnonnullN hx hb dX5_badIn_7 ?_
    exact absurd (Option.some.inj hf) (by simp)
  · try dsimp only at hf
    show W _ _ _ _ _ _ _ _ _ _ _ _ _ _ _ (F0 m 5 ls (.ref a_3 :: _))
    refine lv_astore_n (lv' := [(2, .ref a_3), (0, .ref a_office), (1, .int p1)]) hx hb dX5_badIn_5 rfl hl (by decide) rfl (fun ls hl => ?_)
    refine lv_aload_n hx hb dX5_badIn_6 rfl (lv_at hl 0 rfl) ?_
    refine lv_ifnonnull (tgt := 20) hx hb dX5_badIn_7 (by decide) ?_
    refine lv_aload_n hx hb dX5_badIn_20 rfl (lv_at hl 0 rfl) ?_
    obtain ⟨g_4, hf⟩ := ite_some hf
    obtain ⟨k_5, hk_5⟩ := va_pl_get (X := [(a_office, .inr (4, [.ref a_la, .ref a_ma, .ref a_plans, .ref a_course, .int office_lotCount])), (a_la, .inl (X.2 3, 200, .inr (.inr (.inr (.inr la_f))))), (a_ma, .inl (X.2 2, 200, .inl ma_f)), (a_plans, .inr (3, [.int plans_level, .int plans_quality, .int plans_twice])), (a_course, .inr (0, [.int course_steady, .int course_rate, .int course_state, .int course_skipping, .ref a_hist, .int course_changedAt, .int course_acceptedInRow, .int course_passedInGroup])), (a_hist, .inr (1, [.ref a_hr, .ref a_hb, .int hist_length])), (a_hr, .inl (X.2 2, 60, .inl hr_f)), (a_hb, .inl (X.2 0, 60, .inl hb_f))]) (f := (lotE pO pZ pF pV pT pI pB)) g_4
    refine va_get (D := X.1) (ci := 2) (v := .int (pB a_3)) (C := RX3) (T := TX3) (N := 7) hx hb hts iwX5_badIn_X3 hown hK hP k_5 hk_5 rfl 6 (by decide) (hts _ lkX5_badIn_3) (fun _ h9 => h9) rfl dX5_badIn_21 ?_
    obtain rfl := Sum.inr.inj (Option.some.inj hf)
    exact W.iret hx hb hr (fun t ht hW => ⟨_, rfl, rfl, ht⟩) (fun _ h => by cases h) dX5_badIn_24
def rnX5_orderAt : Room := { frames := 6, cells := 0, slots := 0, locals := 100 }
set_option maxHeartbeats 4000000 in
set_option maxRecDepth 100000 in
theorem nX5_orderAt (l : Launch) (X : cxT) (N : Nat) (a_office a_la a_ma a_plans a_course a_hist a_hr a_hb : Nat) (office_lotCount : Int32) (la_f : Nat → Option Nat) (ma_f : Nat → Int32) (plans_level : Int32) (plans_quality : Int32) (plans_twice : Int32) (course_steady : Int32) (course_rate : Int32) (course_state : Int32) (course_skipping : Int32) (course_changedAt : Int32) (course_acceptedInRow : Int32) (course_passedInGroup : Int32) (hist_length : Int32) (hr_f : Nat → Int32) (hb_f : Nat → Int32) (pL : List Nat) (pO : Nat → Int32) (pZ : Nat → Int32) (pF : Nat → Int64) (pV : Nat → Int32) (pT : Nat → Int32) (pI : Nat → Int32) (pB : Nat → Int32) (p1 : Int32) (r : Int32) (hf0 : fX5_orderAt N p1 la_f = some (Sum.inr r)) : Met l yX5_orderAt wsX5_orderAt rnX5_orderAt (rPre X (HAppend.hAppend (α := va_W) (β := va_W) (γ := va_W) [(a_office, .inr (4, [.ref a_la, .ref a_ma, .ref a_plans, .ref a_course, .int office_lotCount])), (a_la, .inl (X.2 3, 200, .inr (.inr (.inr (.inr la_f))))), (a_ma, .inl (X.2 2, 200, .inl ma_f)), (a_plans, .inr (3, [.int plans_level, .int plans_quality, .int plans_twice])), (a_course, .inr (0, [.int course_steady, .int course_rate, .int course_state, .int course_skipping, .ref a_hist, .int course_changedAt, .int course_acceptedInRow, .int course_passedInGroup])), (a_hist, .inr (1, [.ref a_hr, .ref a_hb, .int hist_length])), (a_hr, .inl (X.2 2, 60, .inl hr_f)), (a_hb, .inl (X.2 0, 60, .inl hb_f))] (va_pl pL (lotE pO pZ pF pV pT pI pB))) [.ref a_office, .int p1]) (vp_Si (fun v : Int32 => v = r)) 0 0 (fun _ => False) := by
  refine Met.ofW (cc := cX5_orderAt) (maxL := 4) (ret := (some .int)) (by decide) rfl ?_
  intro p e s m args below meth c s₁ B hml hv
  obtain ⟨rfl, hP, hK, hSt⟩ := hv
  have hx := B.exec
  have hb := B.bytes
  have hr := B.returns
  have hts := atoms_spec (ws := wsX5_orderAt) B.pre
  have hown : s.vm.findClass RX5 = some m.cls := findClass_of_methodNamed B.named
  have hlocks := B.notSynchronized
  have hS : va_S (fun _ => False) s.heap s.heap [] := va_S.rf
  have hl := lv_entry ([.ref a_office, .int p1]) (n := 4) (Nat.le_of_ble_eq_true rfl)
  rw [lg_entry_eq]
  generalize (lg_sl ([.ref a_office, .int p1]) ++ List.replicate (4 - (lg_sl ([.ref a_office, .int p1])).length) Slot.unset).toArray = ls at hl ⊢
  have hl : lv_has ls 4 [(0, .ref a_office), (1, .int p1)] := hl
  have B30 : ∀ (rec_4 : Int32 → Int32 → Int32 → Option (Nat ⊕ (Int32))), (∀ (x1 : Int32) (x2 : Int32) (x3 : Int32), rec_4 x1 x2 x3 = some (Sum.inr r) → ∀ ls : Array Slot, lv_has ls 4 [(0, .ref a_office), (1, .int x1), (2, .int x2), (3, .int x3)] → W p l e (headSpec wsX5_orderAt rnX5_orderAt).room s m (([.ref a_office, .int p1] : List Value).toArray) below meth c s.heap [] 0 0 (MQ below (vp_Si (fun v : Int32 => v = r)) ([.ref a_office, .int p1] : List Value).toArray s 0 0 (fun _ => False)) (F0 m 4 ls [])) → (∀ (x1 : Int32) (x2 : Int32) (x3 : Int32), fX5_orderAt_b30 N la_f rec_4 x1 x2 x3 = some (Sum.inr r) → ∀ ls : Array Slot, lv_has ls 4 [(0, .ref a_office), (1, .int x1), (2, .int x2), (3, .int x3)] → W p l e (headSpec wsX5_orderAt rnX5_orderAt).room s m (([.ref a_office, .int p1] : List Value).toArray) below meth c s.heap [] 0 0 (MQ below (vp_Si (fun v : Int32 => v = r)) ([.ref a_office, .int p1] : List Value).toArray s 0 0 (fun _ => False)) (F0 m 30 ls [])) := by
    intro rec_4 hrec_4 x1 x2 x3 hf ls hl
    unfold fX5_orderAt_b30 at hf
    refine lv_iinc (v := x3 + 1) (lv' := [(3, .int (x3 + 1)), (0, .ref a_office), (1, .int x1), (2, .int x2)]) hx hb dX5_orderAt_30 hl (k := 3) rfl rfl (by decide) rfl (fun ls hl => ?_)
    refine lv_goto (tgt := 4) hx hb dX5_orderAt_33 (by decide) ?_
    exact hrec_4 x1 x2 (x3 + 1) hf ls (lv_sub hl [1, 2, 3, 0] rfl)
  have B4 : ∀ k : Nat, (∀ (x1 : Int32) (x2 : Int32) (x3 : Int32), fX5_orderAt_b4 N la_f k x1 x2 x3 = some (Sum.inr r) → ∀ ls : Array Slot, lv_has ls 4 [(0, .ref a_office), (1, .int x1), (2, .int x2), (3, .int x3)] → W p l e (headSpec wsX5_orderAt rnX5_orderAt).room s m (([.ref a_office, .int p1] : List Value).toArray) below meth c s.heap [] 0 0 (MQ below (vp_Si (fun v : Int32 => v = r)) ([.ref a_office, .int p1] : List Value).toArray s 0 0 (fun _ => False)) (F0 m 4 ls [])) := by
    intro k
    induction k with
    | zero =>
      intro x1 x2 x3 hf ls hl
      exact nomatch (show (none : Option (Nat ⊕ (Int32))) = some (Sum.inr r) from hf)
    | succ k ih =>
      intro x1 x2 x3 hf ls hl
      unfold fX5_orderAt_b4 at hf
      refine lv_iload_n hx hb dX5_orderAt_4 rfl (lv_at hl 3 rfl) ?_
      refine lv_sipush (v := 200) hx hb dX5_orderAt_5 (by decide) ?_
      refine lv_icmp_ge (tgt := 36) hx hb dX5_orderAt_8 (by decide) (fun c_1 => ?_) (fun c_1 => ?_)
      · rw [if_pos c_1] at hf
        exact absurd (Option.some.inj hf) (by simp)
      · rw [if_neg c_1] at hf
        refine lv_aload_n hx hb dX5_orderAt_11 rfl (lv_at hl 0 rfl) ?_
        refine va_get (D := X.1) (ci := 4) (v := .ref a_la) (C := RX5) (T := TX5) (N := 5) hx hb hts iwX5_orderAt_X5 hown hK hP 0 rfl rfl 0 (by decide) (hts _ lkX5_orderAt_3) (fun _ h9 => h9) rfl dX5_orderAt_12 ?_
        refine lv_iload_n hx hb dX5_orderAt_15 rfl (lv_at hl 3 rfl) ?_
        obtain ⟨g_2, hf⟩ := ite_some hf
        refine va_aldq hx hb hK hP 1 3 rfl rfl (i := x3) g_2 dX5_orderAt_16 ?_
        obtain ⟨o_4, e_5, hf⟩ := bind_some hf
        refine lv_eqq (Option.some.inj e_5) ?_
        rcases o_4 with _ | a_3
        · try dsimp only at hf
          show W _ _ _ _ _ _ _ _ _ _ _ _ _ _ _ (F0 m 17 ls (.null :: _))
          refine lv_ifnullN (tgt := 30) hx hb dX5_orderAt_17 (by decide) ?_
          exact B30 (fun x1 x2 x3 => fX5_orderAt_b4 N la_f k x1 x2 x3) ih x1 x2 x3 hf ls (lv_sub hl [0, 1, 2, 3] rfl)
        · try dsimp only at hf
          show W _ _ _ _ _ _ _ _ _ _ _ _ _ _ _ (F0 m 17 ls (.ref a_3 :: _))
          refine lv_ifnull hx hb dX5_orderAt_17 ?_
          refine lv_iload_n hx hb dX5_orderAt_20 rfl (lv_at hl 2 rfl) ?_
          refine lv_iload_n hx hb dX5_orderAt_21 rfl (lv_at hl 1 rfl) ?_
          refine lv_icmp_ne (tgt := 27) hx hb dX5_orderAt_22 (by decide) (fun c_6 => ?_) (fun c_6 => ?_)
          · rw [if_neg c_6] at hf
            refine lv_iinc (v := x2 + 1) (lv' := [(2, .int (x2 + 1)), (0, .ref a_office), (1, .int x1), (3, .int x3)]) hx hb dX5_orderAt_27 hl (k := 2) rfl rfl (by decide) rfl (fun ls hl => ?_)
            exact B30 (fun x1 x2 x3 => fX5_orderAt_b4 N la_f k x1 x2 x3) ih x1 (x2 + 1) x3 hf ls (lv_sub hl [1, 2, 0, 3] rfl)
          · rw [if_pos c_6] at hf
            refine lv_iload_n hx hb dX5_orderAt_25 rfl (lv_at hl 3 rfl) ?_
            obtain rfl := Sum.inr.inj (Option.some.inj hf)
            exact W.iret hx hb hr (fun t ht hW => ⟨_, rfl, rfl, ht⟩) (fun _ h => by cases h) dX5_orderAt_26
  have hf := hf0
  unfold fX5_orderAt at hf
  refine lv_iconst (v := 0) hx hb dX5_orderAt_0 (by decide) ?_
  refine lv_istore_n (lv' := [(2, .int 0), (0, .ref a_office), (1, .int p1)]) hx hb dX5_orderAt_1 rfl hl (by decide) rfl (fun ls hl => ?_)
  refine lv_iconst (v := 0) hx hb dX5_orderAt_2 (by decide) ?_
  refine lv_istore_n (lv' := [(3, .int 0), (2, .int 0), (0, .ref a_office), (1, .int p1)]) hx hb dX5_orderAt_3 rfl hl (by decide) rfl (fun ls hl => ?_)
  exact B4 N p1 0 0 hf ls (lv_sub hl [2, 3, 1, 0] rfl)
def rnX5_count : Room := { frames := 6, cells := 0, slots := 0, locals := 100 }
set_option maxHeartbeats 4000000 in
set_option maxRecDepth 100000 in
theorem nX5_count (l : Launch) (X : cxT) (N : Nat) (a_office a_la a_ma a_plans a_course a_hist a_hr a_hb : Nat) (office_lotCount : Int32) (la_f : Nat → Option Nat) (ma_f : Nat → Int32) (plans_level : Int32) (plans_quality : Int32) (plans_twice : Int32) (course_steady : Int32) (course_rate : Int32) (course_state : Int32) (course_skipping : Int32) (course_changedAt : Int32) (course_acceptedInRow : Int32) (course_passedInGroup : Int32) (hist_length : Int32) (hr_f : Nat → Int32) (hb_f : Nat → Int32) (pL : List Nat) (pO : Nat → Int32) (pZ : Nat → Int32) (pF : Nat → Int64) (pV : Nat → Int32) (pT : Nat → Int32) (pI : Nat → Int32) (pB : Nat → Int32) (p1 : Int32) (r : Int32) (hf0 : fX5_count N p1 la_f pL pV = some (Sum.inr r)) : Met l yX5_count wsX5_count rnX5_count (rPre X (HAppend.hAppend (α := va_W) (β := va_W) (γ := va_W) [(a_office, .inr (4, [.ref a_la, .ref a_ma, .ref a_plans, .ref a_course, .int office_lotCount])), (a_la, .inl (X.2 3, 200, .inr (.inr (.inr (.inr la_f))))), (a_ma, .inl (X.2 2, 200, .inl ma_f)), (a_plans, .inr (3, [.int plans_level, .int plans_quality, .int plans_twice])), (a_course, .inr (0, [.int course_steady, .int course_rate, .int course_state, .int course_skipping, .ref a_hist, .int course_changedAt, .int course_acceptedInRow, .int course_passedInGroup])), (a_hist, .inr (1, [.ref a_hr, .ref a_hb, .int hist_length])), (a_hr, .inl (X.2 2, 60, .inl hr_f)), (a_hb, .inl (X.2 0, 60, .inl hb_f))] (va_pl pL (lotE pO pZ pF pV pT pI pB))) [.ref a_office, .int p1]) (vp_Si (fun v : Int32 => v = r)) 0 0 (fun _ => False) := by
  refine Met.ofW (cc := cX5_count) (maxL := 7) (ret := (some .int)) (by decide) rfl ?_
  intro p e s m args below meth c s₁ B hml hv
  obtain ⟨rfl, hP, hK, hSt⟩ := hv
  have hx := B.exec
  have hb := B.bytes
  have hr := B.returns
  have hts := atoms_spec (ws := wsX5_count) B.pre
  have hown : s.vm.findClass RX5 = some m.cls := findClass_of_methodNamed B.named
  have hlocks := B.notSynchronized
  have hS : va_S (fun _ => False) s.heap s.heap [] := va_S.rf
  have hl := lv_entry ([.ref a_office, .int p1]) (n := 7) (Nat.le_of_ble_eq_true rfl)
  rw [lg_entry_eq]
  generalize (lg_sl ([.ref a_office, .int p1]) ++ List.replicate (7 - (lg_sl ([.ref a_office, .int p1])).length) Slot.unset).toArray = ls at hl ⊢
  have hl : lv_has ls 7 [(0, .ref a_office), (1, .int p1)] := hl
  have B63 : ∀ (rec_33 : Int32 → Int32 → Int32 → Int32 → Option (Nat ⊕ (Int32))), (∀ (x1 : Int32) (x2 : Int32) (x4 : Int32) (x5 : Int32), rec_33 x1 x2 x4 x5 = some (Sum.inr r) → ∀ ls : Array Slot, lv_has ls 7 [(1, .int x1), (2, .int x2), (3, .ref a_la), (4, .int x4), (5, .int x5)] → W p l e (headSpec wsX5_count rnX5_count).room s m (([.ref a_office, .int p1] : List Value).toArray) below meth c s.heap [] 0 0 (MQ below (vp_Si (fun v : Int32 => v = r)) ([.ref a_office, .int p1] : List Value).toArray s 0 0 (fun _ => False)) (F0 m 33 ls [])) → (∀ (x1 : Int32) (x2 : Int32) (x4 : Int32) (x5 : Int32), fX5_count_b63 N la_f pL pV rec_33 x1 x2 x4 x5 = some (Sum.inr r) → ∀ ls : Array Slot, lv_has ls 7 [(1, .int x1), (2, .int x2), (3, .ref a_la), (4, .int x4), (5, .int x5)] → W p l e (headSpec wsX5_count rnX5_count).room s m (([.ref a_office, .int p1] : List Value).toArray) below meth c s.heap [] 0 0 (MQ below (vp_Si (fun v : Int32 => v = r)) ([.ref a_office, .int p1] : List Value).toArray s 0 0 (fun _ => False)) (F0 m 63 ls [])) := by
    intro rec_33 hrec_33 x1 x2 x4 x5 hf ls hl
    unfold fX5_count_b63 at hf
    refine lv_iinc (v := x5 + 1) (lv' := [(5, .int (x5 + 1)), (1, .int x1), (2, .int x2), (3, .ref a_la), (4, .int x4)]) hx hb dX5_count_63 hl (k := 4) rfl rfl (by decide) rfl (fun ls hl => ?_)
    refine lv_goto (tgt := 33) hx hb dX5_count_66 (by decide) ?_
    exact hrec_33 x1 x2 x4 (x5 + 1) hf ls (lv_sub hl [1, 2, 3, 4, 0] rfl)
  have B33 : ∀ k : Nat, (∀ (x1 : Int32) (x2 : Int32) (x4 : Int32) (x5 : Int32), fX5_count_b33 N la_f pL pV k x1 x2 x4 x5 = some (Sum.inr r) → ∀ ls : Array Slot, lv_has ls 7 [(1, .int x1), (2, .int x2), (3, .ref a_la), (4, .int x4), (5, .int x5)] → W p l e (headSpec wsX5_count rnX5_count).room s m (([.ref a_office, .int p1] : List Value).toArray) below meth c s.heap [] 0 0 (MQ below (vp_Si (fun v : Int32 => v = r)) ([.ref a_office, .int p1] : List Value).toArray s 0 0 (fun _ => False)) (F0 m 33 ls [])) := by
    intro k
    induction k with
    | zero =>
      intro x1 x2 x4 x5 hf ls hl
      exact nomatch (show (none : Option (Nat ⊕ (Int32))) = some (Sum.inr r) from hf)
    | succ k ih =>
      intro x1 x2 x4 x5 hf ls hl
      unfold fX5_count_b33 at hf
      refine lv_iload hx hb dX5_count_33 (lv_at hl 4 rfl) ?_
      refine lv_iload hx hb dX5_count_35 (lv_at hl 3 rfl) ?_
      refine lv_icmp_ge (tgt := 69) hx hb dX5_count_37 (by decide) (fun c_1 => ?_) (fun c_1 => ?_)
      · rw [if_pos c_1] at hf
        refine lv_iload_n hx hb dX5_count_69 rfl (lv_at hl 1 rfl) ?_
        obtain rfl := Sum.inr.inj (Option.some.inj hf)
        exact W.iret hx hb hr (fun t ht hW => ⟨_, rfl, rfl, ht⟩) (fun _ h => by cases h) dX5_count_70
      · rw [if_neg c_1] at hf
        refine lv_aload_n hx hb dX5_count_40 rfl (lv_at hl 2 rfl) ?_
        refine lv_iload hx hb dX5_count_41 (lv_at hl 4 rfl) ?_
        obtain ⟨g_2, hf⟩ := ite_some hf
        refine va_aldq hx hb hK hP 1 3 rfl rfl (i := x5) g_2 dX5_count_43 ?_
        obtain ⟨o_4, e_5, hf⟩ := bind_some hf
        refine lv_eqq (Option.some.inj e_5) ?_
        rcases o_4 with _ | a_3
        · try dsimp only at hf
          show W _ _ _ _ _ _ _ _ _ _ _ _ _ _ _ (F0 m 44 ls (.null :: _))
          refine lv_astoreN (lv' := [(6, .null), (1, .int x1), (2, .int x2), (3, .ref a_la), (4, .int x4), (5, .int x5)]) hx hb dX5_count_44 hl (by decide) rfl (fun ls hl => ?_)
          refine lv_aloadN hx hb dX5_count_46 (lv_at hl 0 rfl) ?_
          refine lv_ifnullN (tgt := 63) hx hb dX5_count_48 (by decide) ?_
          exact B63 (fun x1 x2 x4 x5 => fX5_count_b33 N la_f pL pV k x1 x2 x4 x5) ih x1 x2 x4 x5 hf ls (lv_sub hl [1, 2, 3, 4, 5] rfl)
        · try dsimp only at hf
          show W _ _ _ _ _ _ _ _ _ _ _ _ _ _ _ (F0 m 44 ls (.ref a_3 :: _))
          refine lv_astore (lv' := [(6, .ref a_3), (1, .int x1), (2, .int x2), (3, .ref a_la), (4, .int x4), (5, .int x5)]) hx hb dX5_count_44 hl (by decide) rfl (fun ls hl => ?_)
          refine lv_aload hx hb dX5_count_46 (lv_at hl 0 rfl) ?_
          refine lv_ifnull hx hb dX5_count_48 ?_
          refine lv_aload hx hb dX5_count_51 (lv_at hl 0 rfl) ?_
          obtain ⟨g_6, hf⟩ := ite_some hf
          obtain ⟨k_7, hk_7⟩ := va_pl_get (X := [(a_office, .inr (4, [.ref a_la, .ref a_ma, .ref a_plans, .ref a_course, .int office_lotCount])), (a_la, .inl (X.2 3, 200, .inr (.inr (.inr (.inr la_f))))), (a_ma, .inl (X.2 2, 200, .inl ma_f)), (a_plans, .inr (3, [.int plans_level, .int plans_quality, .int plans_twice])), (a_course, .inr (0, [.int course_steady, .int course_rate, .int course_state, .int course_skipping, .ref a_hist, .int course_changedAt, .int course_acceptedInRow, .int course_passedInGroup])), (a_hist, .inr (1, [.ref a_hr, .ref a_hb, .int hist_length])), (a_hr, .inl (X.2 2, 60, .inl hr_f)), (a_hb, .inl (X.2 0, 60, .inl hb_f))]) (f := (lotE pO pZ pF pV pT pI pB)) g_6
          refine va_get (D := X.1) (ci := 2) (v := .int (pV a_3)) (C := RX3) (T := TX3) (N := 7) hx hb hts iwX5_count_X3 hown hK hP k_7 hk_7 rfl 3 (by decide) (hts _ lkX5_count_4) (fun _ h9 => h9) rfl dX5_count_53 ?_
          refine lv_iload_n hx hb dX5_count_56 rfl (lv_at hl 1 rfl) ?_
          refine lv_icmp_ne (tgt := 63) hx hb dX5_count_57 (by decide) (fun c_8 => ?_) (fun c_8 => ?_)
          · rw [if_neg c_8] at hf
            exact B63 (fun x1 x2 x4 x5 => fX5_count_b33 N la_f pL pV k x1 x2 x4 x5) ih x1 x2 x4 x5 hf ls (lv_sub hl [1, 2, 3, 4, 5] rfl)
          · rw [if_pos c_8] at hf
            refine lv_iinc (v := x2 + 1) (lv' := [(2, .int (x2 + 1)), (6, .ref a_3), (1, .int x1), (3, .ref a_la), (4, .int x4), (5, .int x5)]) hx hb dX5_count_60 hl (k := 2) rfl rfl (by decide) rfl (fun ls hl => ?_)
            exact B63 (fun x1 x2 x4 x5 => fX5_count_b33 N la_f pL pV k x1 x2 x4 x5) ih x1 (x2 + 1) x4 x5 hf ls (lv_sub hl [2, 0, 3, 4, 5] rfl)
  have hf := hf0
  unfold fX5_count at hf
  refine lv_iload_n hx hb dX5_count_0 rfl (lv_at hl 1 rfl) ?_
  refine lv_iconst (v := 0) hx hb dX5_count_1 (by decide) ?_
  refine lv_iconst (v := 3) hx hb dX5_count_2 (by decide) ?_
  obtain ⟨r_9, e_10, hf⟩ := bind_some hf
  refine vp_callSi (W.runS (As := [.int p1, .int 0, .int 3]) (rest := []) ⟨hx, hb, hml, hown, hts⟩ (mX5_isWithin l X N p1 0 3 r_9 e_10) (va_cwS 3 hts gX5_count_X5_isWithin rfl rfl rfl (by decide +kernel) ⟨Nat.le_of_ble_eq_true rfl, Nat.le_of_ble_eq_true rfl⟩) (rPreS hK hP hSt hS [] rfl) rfl rfl hl.1 rfl (lv_room (Nat.le_of_ble_eq_true rfl)) dX5_count_3 ⟨Nat.zero_le _, Nat.zero_le _⟩) (fun v9 e9 => ?_)
  rw [e9]
  refine lv_if_ne (tgt := 19) hx hb dX5_count_6 (by decide) (fun c_11 => ?_) (fun c_11 => ?_)
  · rw [if_neg c_11] at hf
    refine lv_iconst (v := 0) hx hb dX5_count_19 (by decide) ?_
    refine lv_istore_n (lv' := [(2, .int 0), (0, .ref a_office), (1, .int p1)]) hx hb dX5_count_20 rfl hl (by decide) rfl (fun ls hl => ?_)
    refine lv_aload_n hx hb dX5_count_21 rfl (lv_at hl 1 rfl) ?_
    refine va_get (D := X.1) (ci := 4) (v := .ref a_la) (C := RX5) (T := TX5) (N := 5) hx hb hts iwX5_count_X5 hown hK hP 0 rfl rfl 0 (by decide) (hts _ lkX5_count_3) (fun _ h9 => h9) rfl dX5_count_22 ?_
    refine lv_astore_n (lv' := [(3, .ref a_la), (2, .int 0), (0, .ref a_office), (1, .int p1)]) hx hb dX5_count_25 rfl hl (by decide) rfl (fun ls hl => ?_)
    refine lv_aload_n hx hb dX5_count_26 rfl (lv_at hl 0 rfl) ?_
    refine va_alen (v := 200) hx hb hK hP 1 3 rfl rfl rfl dX5_count_27 ?_
    refine lv_istore (lv' := [(4, .int 200), (3, .ref a_la), (2, .int 0), (0, .ref a_office), (1, .int p1)]) hx hb dX5_count_28 hl (by decide) rfl (fun ls hl => ?_)
    refine lv_iconst (v := 0) hx hb dX5_count_30 (by decide) ?_
    refine lv_istore (lv' := [(5, .int 0), (4, .int 200), (3, .ref a_la), (2, .int 0), (0, .ref a_office), (1, .int p1)]) hx hb dX5_count_31 hl (by decide) rfl (fun ls hl => ?_)
    exact B33 N p1 0 200 0 hf ls (lv_sub hl [5, 3, 2, 1, 0] rfl)
  · rw [if_pos c_11] at hf
    exact absurd (Option.some.inj hf) (by simp)
def rnX5_samples : Room := { frames := 6, cells := 0, slots := 0, locals := 100 }
set_option maxHeartbeats 4000000 in
set_option maxRecDepth 100000 in
theorem nX5_samples (l : Launch) (X : cxT) (N : Nat) (a_office a_la a_ma a_plans a_course a_hist a_hr a_hb : Nat) (office_lotCount : Int32) (la_f : Nat → Option Nat) (ma_f : Nat → Int32) (plans_level : Int32) (plans_quality : Int32) (plans_twice : Int32) (course_steady : Int32) (course_rate : Int32) (course_state : Int32) (course_skipping : Int32) (course_changedAt : Int32) (course_acceptedInRow : Int32) (course_passedInGroup : Int32) (hist_length : Int32) (hr_f : Nat → Int32) (hb_f : Nat → Int32) (pL : List Nat) (pO : Nat → Int32) (pZ : Nat → Int32) (pF : Nat → Int64) (pV : Nat → Int32) (pT : Nat → Int32) (pI : Nat → Int32) (pB : Nat → Int32) (p1 : Int32) (p2 : Int32) (r : Int64) (hf0 : fX5_samples N p1 p2 = some (Sum.inr r)) : Met l yX5_samples wsX5_samples rnX5_samples (rPre X (HAppend.hAppend (α := va_W) (β := va_W) (γ := va_W) [(a_office, .inr (4, [.ref a_la, .ref a_ma, .ref a_plans, .ref a_course, .int office_lotCount])), (a_la, .inl (X.2 3, 200, .inr (.inr (.inr (.inr la_f))))), (a_ma, .inl (X.2 2, 200, .inl ma_f)), (a_plans, .inr (3, [.int plans_level, .int plans_quality, .int plans_twice])), (a_course, .inr (0, [.int course_steady, .int course_rate, .int course_state, .int course_skipping, .ref a_hist, .int course_changedAt, .int course_acceptedInRow, .int course_passedInGroup])), (a_hist, .inr (1, [.ref a_hr, .ref a_hb, .int hist_length])), (a_hr, .inl (X.2 2, 60, .inl hr_f)), (a_hb, .inl (X.2 0, 60, .inl hb_f))] (va_pl pL (lotE pO pZ pF pV pT pI pB))) [.ref a_office, .int p1, .int p2]) (vp_Sl (fun v : Int64 => v = r)) 0 0 (fun _ => False) := by
  refine Met.ofW (cc := cX5_samples) (maxL := 3) (ret := (some .long)) (by decide) rfl ?_
  intro p e s m args below meth c s₁ B hml hv
  obtain ⟨rfl, hP, hK, hSt⟩ := hv
  have hx := B.exec
  have hb := B.bytes
  have hr := B.returns
  have hts := atoms_spec (ws := wsX5_samples) B.pre
  have hown : s.vm.findClass RX5 = some m.cls := findClass_of_methodNamed B.named
  have hlocks := B.notSynchronized
  have hS : va_S (fun _ => False) s.heap s.heap [] := va_S.rf
  have hl := lv_entry ([.ref a_office, .int p1, .int p2]) (n := 3) (Nat.le_of_ble_eq_true rfl)
  rw [lg_entry_eq]
  generalize (lg_sl ([.ref a_office, .int p1, .int p2]) ++ List.replicate (3 - (lg_sl ([.ref a_office, .int p1, .int p2])).length) Slot.unset).toArray = ls at hl ⊢
  have hl : lv_has ls 3 [(0, .ref a_office), (1, .int p1), (2, .int p2)] := hl
  have B19 : (fX5_samples_b19 N  = some (Sum.inr r) → ∀ ls : Array Slot, lv_has ls 3 [] → W p l e (headSpec wsX5_samples rnX5_samples).room s m (([.ref a_office, .int p1, .int p2] : List Value).toArray) below meth c s.heap [] 0 0 (MQ below (vp_Sl (fun v : Int64 => v = r)) ([.ref a_office, .int p1, .int p2] : List Value).toArray s 0 0 (fun _ => False)) (F0 m 19 ls [])) := by
    intro hf ls hl
    unfold fX5_samples_b19 at hf
    exact absurd (Option.some.inj hf) (by simp)
  have hf := hf0
  unfold fX5_samples at hf
  refine lv_iload_n hx hb dX5_samples_0 rfl (lv_at hl 1 rfl) ?_
  refine lv_iconst (v := 2) hx hb dX5_samples_1 (by decide) ?_
  refine lv_bipush (v := 60) hx hb dX5_samples_2 (by decide) ?_
  obtain ⟨r_1, e_2, hf⟩ := bind_some hf
  refine vp_callSi (W.runS (As := [.int p1, .int 2, .int 60]) (rest := []) ⟨hx, hb, hml, hown, hts⟩ (mX5_isWithin l X N p1 2 60 r_1 e_2) (va_cwS 3 hts gX5_samples_X5_isWithin rfl rfl rfl (by decide +kernel) ⟨Nat.le_of_ble_eq_true rfl, Nat.le_of_ble_eq_true rfl⟩) (rPreS hK hP hSt hS [] rfl) rfl rfl hl.1 rfl (lv_room (Nat.le_of_ble_eq_true rfl)) dX5_samples_4 ⟨Nat.zero_le _, Nat.zero_le _⟩) (fun v9 e9 => ?_)
  rw [e9]
  refine lv_if_eq (tgt := 19) hx hb dX5_samples_7 (by decide) (fun c_3 => ?_) (fun c_3 => ?_)
  · rw [if_pos c_3] at hf
    exact B19  hf ls (lv_sub hl [] rfl)
  · rw [if_neg c_3] at hf
    refine lv_iload_n hx hb dX5_samples_10 rfl (lv_at hl 2 rfl) ?_
    refine lv_iconst (v := 1) hx hb dX5_samples_11 (by decide) ?_
    refine lv_iload_n hx hb dX5_samples_12 rfl (lv_at hl 1 rfl) ?_
    obtain ⟨r_4, e_5, hf⟩ := bind_some hf
    refine vp_callSi (W.runS (As := [.int p2, .int 1, .int p1]) (rest := []) ⟨hx, hb, hml, hown, hts⟩ (mX5_isWithin l X N p2 1 p1 r_4 e_5) (va_cwS 3 hts gX5_samples_X5_isWithin rfl rfl rfl (by decide +kernel) ⟨Nat.le_of_ble_eq_true rfl, Nat.le_of_ble_eq_true rfl⟩) (rPreS hK hP hSt hS [] rfl) rfl rfl hl.1 rfl (lv_room (Nat.le_of_ble_eq_true rfl)) dX5_samples_13 ⟨Nat.zero_le _, Nat.zero_le _⟩) (fun v9 e9 => ?_)
    rw [e9]
    refine lv_if_ne (tgt := 29) hx hb dX5_samples_16 (by decide) (fun c_6 => ?_) (fun c_6 => ?_)
    · rw [if_neg c_6] at hf
      refine lv_iload_n hx hb dX5_samples_29 rfl (lv_at hl 1 rfl) ?_
      refine lv_iload_n hx hb dX5_samples_30 rfl (lv_at hl 2 rfl) ?_
      obtain ⟨r_7, e_8, hf⟩ := bind_some hf
      refine vp_callSl (W.runS (As := [.int p1, .int p2]) (rest := []) ⟨hx, hb, hml, hown, hts⟩ (mX1_choices l X N p1 p2 r_7 e_8) (va_cwS 2 hts gX5_samples_X1_choices rfl rfl rfl (by decide +kernel) ⟨Nat.le_of_ble_eq_true rfl, Nat.le_of_ble_eq_true rfl⟩) (rPreS hK hP hSt hS [] rfl) rfl rfl hl.1 rfl (lv_room (Nat.le_of_ble_eq_true rfl)) dX5_samples_31 ⟨Nat.zero_le _, Nat.zero_le _⟩) (fun v9 e9 => ?_)
      rw [e9]
      obtain rfl := Sum.inr.inj (Option.some.inj hf)
      exact W.lret hx hb hr (fun t ht hW => ⟨_, rfl, rfl, ht⟩) (fun _ h => by cases h) dX5_samples_34
    · rw [if_pos c_6] at hf
      exact B19  hf ls (lv_sub hl [] rfl)
def rnX5_accepted : Room := { frames := 6, cells := 0, slots := 0, locals := 100 }
set_option maxHeartbeats 4000000 in
set_option maxRecDepth 100000 in
theorem nX5_accepted (l : Launch) (X : cxT) (N : Nat) (a_office a_la a_ma a_plans a_course a_hist a_hr a_hb : Nat) (office_lotCount : Int32) (la_f : Nat → Option Nat) (ma_f : Nat → Int32) (plans_level : Int32) (plans_quality : Int32) (plans_twice : Int32) (course_steady : Int32) (course_rate : Int32) (course_state : Int32) (course_skipping : Int32) (course_changedAt : Int32) (course_acceptedInRow : Int32) (course_passedInGroup : Int32) (hist_length : Int32) (hr_f : Nat → Int32) (hb_f : Nat → Int32) (pL : List Nat) (pO : Nat → Int32) (pZ : Nat → Int32) (pF : Nat → Int64) (pV : Nat → Int32) (pT : Nat → Int32) (pI : Nat → Int32) (pB : Nat → Int32) (p1 : Int32) (p2 : Int32) (p3 : Int32) (p4 : Int32) (r : Int64) (hf0 : fX5_accepted N p1 p2 p3 p4 = some (Sum.inr r)) : Met l yX5_accepted wsX5_accepted rnX5_accepted (rPre X (HAppend.hAppend (α := va_W) (β := va_W) (γ := va_W) [(a_office, .inr (4, [.ref a_la, .ref a_ma, .ref a_plans, .ref a_course, .int office_lotCount])), (a_la, .inl (X.2 3, 200, .inr (.inr (.inr (.inr la_f))))), (a_ma, .inl (X.2 2, 200, .inl ma_f)), (a_plans, .inr (3, [.int plans_level, .int plans_quality, .int plans_twice])), (a_course, .inr (0, [.int course_steady, .int course_rate, .int course_state, .int course_skipping, .ref a_hist, .int course_changedAt, .int course_acceptedInRow, .int course_passedInGroup])), (a_hist, .inr (1, [.ref a_hr, .ref a_hb, .int hist_length])), (a_hr, .inl (X.2 2, 60, .inl hr_f)), (a_hb, .inl (X.2 0, 60, .inl hb_f))] (va_pl pL (lotE pO pZ pF pV pT pI pB))) [.ref a_office, .int p1, .int p2, .int p3, .int p4]) (vp_Sl (fun v : Int64 => v = r)) 0 0 (fun _ => False) := by
  refine Met.ofW (cc := cX5_accepted) (maxL := 5) (ret := (some .long)) (by decide) rfl ?_
  intro p e s m args below meth c s₁ B hml hv
  obtain ⟨rfl, hP, hK, hSt⟩ := hv
  have hx := B.exec
  have hb := B.bytes
  have hr := B.returns
  have hts := atoms_spec (ws := wsX5_accepted) B.pre
  have hown : s.vm.findClass RX5 = some m.cls := findClass_of_methodNamed B.named
  have hlocks := B.notSynchronized
  have hS : va_S (fun _ => False) s.heap s.heap [] := va_S.rf
  have hl := lv_entry ([.ref a_office, .int p1, .int p2, .int p3, .int p4]) (n := 5) (Nat.le_of_ble_eq_true rfl)
  rw [lg_entry_eq]
  generalize (lg_sl ([.ref a_office, .int p1, .int p2, .int p3, .int p4]) ++ List.replicate (5 - (lg_sl ([.ref a_office, .int p1, .int p2, .int p3, .int p4])).length) Slot.unset).toArray = ls at hl ⊢
  have hl : lv_has ls 5 [(0, .ref a_office), (1, .int p1), (2, .int p2), (3, .int p3), (4, .int p4)] := hl
  have B39 : (fX5_accepted_b39 N  = some (Sum.inr r) → ∀ ls : Array Slot, lv_has ls 5 [] → W p l e (headSpec wsX5_accepted rnX5_accepted).room s m (([.ref a_office, .int p1, .int p2, .int p3, .int p4] : List Value).toArray) below meth c s.heap [] 0 0 (MQ below (vp_Sl (fun v : Int64 => v = r)) ([.ref a_office, .int p1, .int p2, .int p3, .int p4] : List Value).toArray s 0 0 (fun _ => False)) (F0 m 39 ls [])) := by
    intro hf ls hl
    unfold fX5_accepted_b39 at hf
    exact absurd (Option.some.inj hf) (by simp)
  have hf := hf0
  unfold fX5_accepted at hf
  refine lv_iload_n hx hb dX5_accepted_0 rfl (lv_at hl 1 rfl) ?_
  refine lv_iconst (v := 2) hx hb dX5_accepted_1 (by decide) ?_
  refine lv_bipush (v := 60) hx hb dX5_accepted_2 (by decide) ?_
  obtain ⟨r_1, e_2, hf⟩ := bind_some hf
  refine vp_callSi (W.runS (As := [.int p1, .int 2, .int 60]) (rest := []) ⟨hx, hb, hml, hown, hts⟩ (mX5_isWithin l X N p1 2 60 r_1 e_2) (va_cwS 3 hts gX5_accepted_X5_isWithin rfl rfl rfl (by decide +kernel) ⟨Nat.le_of_ble_eq_true rfl, Nat.le_of_ble_eq_true rfl⟩) (rPreS hK hP hSt hS [] rfl) rfl rfl hl.1 rfl (lv_room (Nat.le_of_ble_eq_true rfl)) dX5_accepted_4 ⟨Nat.zero_le _, Nat.zero_le _⟩) (fun v9 e9 => ?_)
  rw [e9]
  refine lv_if_eq (tgt := 39) hx hb dX5_accepted_7 (by decide) (fun c_3 => ?_) (fun c_3 => ?_)
  · rw [if_pos c_3] at hf
    exact B39  hf ls (lv_sub hl [] rfl)
  · rw [if_neg c_3] at hf
    refine lv_iload_n hx hb dX5_accepted_10 rfl (lv_at hl 2 rfl) ?_
    refine lv_iconst (v := 0) hx hb dX5_accepted_11 (by decide) ?_
    refine lv_iload_n hx hb dX5_accepted_12 rfl (lv_at hl 1 rfl) ?_
    obtain ⟨r_4, e_5, hf⟩ := bind_some hf
    refine vp_callSi (W.runS (As := [.int p2, .int 0, .int p1]) (rest := []) ⟨hx, hb, hml, hown, hts⟩ (mX5_isWithin l X N p2 0 p1 r_4 e_5) (va_cwS 3 hts gX5_accepted_X5_isWithin rfl rfl rfl (by decide +kernel) ⟨Nat.le_of_ble_eq_true rfl, Nat.le_of_ble_eq_true rfl⟩) (rPreS hK hP hSt hS [] rfl) rfl rfl hl.1 rfl (lv_room (Nat.le_of_ble_eq_true rfl)) dX5_accepted_13 ⟨Nat.zero_le _, Nat.zero_le _⟩) (fun v9 e9 => ?_)
    rw [e9]
    refine lv_if_eq (tgt := 39) hx hb dX5_accepted_16 (by decide) (fun c_6 => ?_) (fun c_6 => ?_)
    · rw [if_pos c_6] at hf
      exact B39  hf ls (lv_sub hl [] rfl)
    · rw [if_neg c_6] at hf
      refine lv_iload_n hx hb dX5_accepted_19 rfl (lv_at hl 3 rfl) ?_
      refine lv_iconst (v := 1) hx hb dX5_accepted_20 (by decide) ?_
      refine lv_iload_n hx hb dX5_accepted_21 rfl (lv_at hl 1 rfl) ?_
      obtain ⟨r_7, e_8, hf⟩ := bind_some hf
      refine vp_callSi (W.runS (As := [.int p3, .int 1, .int p1]) (rest := []) ⟨hx, hb, hml, hown, hts⟩ (mX5_isWithin l X N p3 1 p1 r_7 e_8) (va_cwS 3 hts gX5_accepted_X5_isWithin rfl rfl rfl (by decide +kernel) ⟨Nat.le_of_ble_eq_true rfl, Nat.le_of_ble_eq_true rfl⟩) (rPreS hK hP hSt hS [] rfl) rfl rfl hl.1 rfl (lv_room (Nat.le_of_ble_eq_true rfl)) dX5_accepted_22 ⟨Nat.zero_le _, Nat.zero_le _⟩) (fun v9 e9 => ?_)
      rw [e9]
      refine lv_if_eq (tgt := 39) hx hb dX5_accepted_25 (by decide) (fun c_9 => ?_) (fun c_9 => ?_)
      · rw [if_pos c_9] at hf
        exact B39  hf ls (lv_sub hl [] rfl)
      · rw [if_neg c_9] at hf
        refine lv_iload hx hb dX5_accepted_28 (lv_at hl 4 rfl) ?_
        refine lv_iconst (v := 0) hx hb dX5_accepted_30 (by decide) ?_
        refine lv_bipush (v := 60) hx hb dX5_accepted_31 (by decide) ?_
        obtain ⟨r_10, e_11, hf⟩ := bind_some hf
        refine vp_callSi (W.runS (As := [.int p4, .int 0, .int 60]) (rest := []) ⟨hx, hb, hml, hown, hts⟩ (mX5_isWithin l X N p4 0 60 r_10 e_11) (va_cwS 3 hts gX5_accepted_X5_isWithin rfl rfl rfl (by decide +kernel) ⟨Nat.le_of_ble_eq_true rfl, Nat.le_of_ble_eq_true rfl⟩) (rPreS hK hP hSt hS [] rfl) rfl rfl hl.1 rfl (lv_room (Nat.le_of_ble_eq_true rfl)) dX5_accepted_33 ⟨Nat.zero_le _, Nat.zero_le _⟩) (fun v9 e9 => ?_)
        rw [e9]
        refine lv_if_ne (tgt := 49) hx hb dX5_accepted_36 (by decide) (fun c_12 => ?_) (fun c_12 => ?_)
        · rw [if_neg c_12] at hf
          refine lv_iload_n hx hb dX5_accepted_49 rfl (lv_at hl 1 rfl) ?_
          refine lv_iload_n hx hb dX5_accepted_50 rfl (lv_at hl 2 rfl) ?_
          refine lv_iload_n hx hb dX5_accepted_51 rfl (lv_at hl 3 rfl) ?_
          refine lv_iload hx hb dX5_accepted_52 (lv_at hl 4 rfl) ?_
          obtain ⟨r_13, e_14, hf⟩ := bind_some hf
          refine vp_callSl (W.runS (As := [.int p1, .int p2, .int p3, .int p4]) (rest := []) ⟨hx, hb, hml, hown, hts⟩ (mX1_withAtMost l X N p1 p2 p3 p4 r_13 e_14) (va_cwS 4 hts gX5_accepted_X1_withAtMost rfl rfl rfl (by decide +kernel) ⟨Nat.le_of_ble_eq_true rfl, Nat.le_of_ble_eq_true rfl⟩) (rPreS hK hP hSt hS [] rfl) rfl rfl hl.1 rfl (lv_room (Nat.le_of_ble_eq_true rfl)) dX5_accepted_54 ⟨Nat.zero_le _, Nat.zero_le _⟩) (fun v9 e9 => ?_)
          rw [e9]
          obtain rfl := Sum.inr.inj (Option.some.inj hf)
          exact W.lret hx hb hr (fun t ht hW => ⟨_, rfl, rfl, ht⟩) (fun _ h => by cases h) dX5_accepted_57
        · rw [if_pos c_12] at hf
          exact B39  hf ls (lv_sub hl [] rfl)
def rnX5_acceptedByListing : Room := { frames := 6, cells := 0, slots := 0, locals := 100 }
set_option maxHeartbeats 4000000 in
set_option maxRecDepth 100000 in
theorem nX5_acceptedByListing (l : Launch) (X : cxT) (N : Nat) (a_office a_la a_ma a_plans a_course a_hist a_hr a_hb : Nat) (office_lotCount : Int32) (la_f : Nat → Option Nat) (ma_f : Nat → Int32) (plans_level : Int32) (plans_quality : Int32) (plans_twice : Int32) (course_steady : Int32) (course_rate : Int32) (course_state : Int32) (course_skipping : Int32) (course_changedAt : Int32) (course_acceptedInRow : Int32) (course_passedInGroup : Int32) (hist_length : Int32) (hr_f : Nat → Int32) (hb_f : Nat → Int32) (pL : List Nat) (pO : Nat → Int32) (pZ : Nat → Int32) (pF : Nat → Int64) (pV : Nat → Int32) (pT : Nat → Int32) (pI : Nat → Int32) (pB : Nat → Int32) (p1 : Int32) (p2 : Int32) (p3 : Int32) (p4 : Int32) (r : Int64) (hf0 : fX5_acceptedByListing N p1 p2 p3 p4 = some (Sum.inr r)) : Met l yX5_acceptedByListing wsX5_acceptedByListing rnX5_acceptedByListing (rPre X (HAppend.hAppend (α := va_W) (β := va_W) (γ := va_W) [(a_office, .inr (4, [.ref a_la, .ref a_ma, .ref a_plans, .ref a_course, .int office_lotCount])), (a_la, .inl (X.2 3, 200, .inr (.inr (.inr (.inr la_f))))), (a_ma, .inl (X.2 2, 200, .inl ma_f)), (a_plans, .inr (3, [.int plans_level, .int plans_quality, .int plans_twice])), (a_course, .inr (0, [.int course_steady, .int course_rate, .int course_state, .int course_skipping, .ref a_hist, .int course_changedAt, .int course_acceptedInRow, .int course_passedInGroup])), (a_hist, .inr (1, [.ref a_hr, .ref a_hb, .int hist_length])), (a_hr, .inl (X.2 2, 60, .inl hr_f)), (a_hb, .inl (X.2 0, 60, .inl hb_f))] (va_pl pL (lotE pO pZ pF pV pT pI pB))) [.ref a_office, .int p1, .int p2, .int p3, .int p4]) (vp_Sl (fun v : Int64 => v = r)) 0 0 (fun _ => False) := by
  refine Met.ofW (cc := cX5_acceptedByListing) (maxL := 5) (ret := (some .long)) (by decide) rfl ?_
  intro p e s m args below meth c s₁ B hml hv
  obtain ⟨rfl, hP, hK, hSt⟩ := hv
  have hx := B.exec
  have hb := B.bytes
  have hr := B.returns
  have hts := atoms_spec (ws := wsX5_acceptedByListing) B.pre
  have hown : s.vm.findClass RX5 = some m.cls := findClass_of_methodNamed B.named
  have hlocks := B.notSynchronized
  have hS : va_S (fun _ => False) s.heap s.heap [] := va_S.rf
  have hl := lv_entry ([.ref a_office, .int p1, .int p2, .int p3, .int p4]) (n := 5) (Nat.le_of_ble_eq_true rfl)
  rw [lg_entry_eq]
  generalize (lg_sl ([.ref a_office, .int p1, .int p2, .int p3, .int p4]) ++ List.replicate (5 - (lg_sl ([.ref a_office, .int p1, .int p2, .int p3, .int p4])).length) Slot.unset).toArray = ls at hl ⊢
  have hl : lv_has ls 5 [(0, .ref a_office), (1, .int p1), (2, .int p2), (3, .int p3), (4, .int p4)] := hl
  have B39 : (fX5_acceptedByListing_b39 N  = some (Sum.inr r) → ∀ ls : Array Slot, lv_has ls 5 [] → W p l e (headSpec wsX5_acceptedByListing rnX5_acceptedByListing).room s m (([.ref a_office, .int p1, .int p2, .int p3, .int p4] : List Value).toArray) below meth c s.heap [] 0 0 (MQ below (vp_Sl (fun v : Int64 => v = r)) ([.ref a_office, .int p1, .int p2, .int p3, .int p4] : List Value).toArray s 0 0 (fun _ => False)) (F0 m 39 ls [])) := by
    intro hf ls hl
    unfold fX5_acceptedByListing_b39 at hf
    exact absurd (Option.some.inj hf) (by simp)
  have hf := hf0
  unfold fX5_acceptedByListing at hf
  refine lv_iload_n hx hb dX5_acceptedByListing_0 rfl (lv_at hl 1 rfl) ?_
  refine lv_iconst (v := 2) hx hb dX5_acceptedByListing_1 (by decide) ?_
  refine lv_bipush (v := 14) hx hb dX5_acceptedByListing_2 (by decide) ?_
  obtain ⟨r_1, e_2, hf⟩ := bind_some hf
  refine vp_callSi (W.runS (As := [.int p1, .int 2, .int 14]) (rest := []) ⟨hx, hb, hml, hown, hts⟩ (mX5_isWithin l X N p1 2 14 r_1 e_2) (va_cwS 3 hts gX5_acceptedByListing_X5_isWithin rfl rfl rfl (by decide +kernel) ⟨Nat.le_of_ble_eq_true rfl, Nat.le_of_ble_eq_true rfl⟩) (rPreS hK hP hSt hS [] rfl) rfl rfl hl.1 rfl (lv_room (Nat.le_of_ble_eq_true rfl)) dX5_acceptedByListing_4 ⟨Nat.zero_le _, Nat.zero_le _⟩) (fun v9 e9 => ?_)
  rw [e9]
  refine lv_if_eq (tgt := 39) hx hb dX5_acceptedByListing_7 (by decide) (fun c_3 => ?_) (fun c_3 => ?_)
  · rw [if_pos c_3] at hf
    exact B39  hf ls (lv_sub hl [] rfl)
  · rw [if_neg c_3] at hf
    refine lv_iload_n hx hb dX5_acceptedByListing_10 rfl (lv_at hl 2 rfl) ?_
    refine lv_iconst (v := 0) hx hb dX5_acceptedByListing_11 (by decide) ?_
    refine lv_iload_n hx hb dX5_acceptedByListing_12 rfl (lv_at hl 1 rfl) ?_
    obtain ⟨r_4, e_5, hf⟩ := bind_some hf
    refine vp_callSi (W.runS (As := [.int p2, .int 0, .int p1]) (rest := []) ⟨hx, hb, hml, hown, hts⟩ (mX5_isWithin l X N p2 0 p1 r_4 e_5) (va_cwS 3 hts gX5_acceptedByListing_X5_isWithin rfl rfl rfl (by decide +kernel) ⟨Nat.le_of_ble_eq_true rfl, Nat.le_of_ble_eq_true rfl⟩) (rPreS hK hP hSt hS [] rfl) rfl rfl hl.1 rfl (lv_room (Nat.le_of_ble_eq_true rfl)) dX5_acceptedByListing_13 ⟨Nat.zero_le _, Nat.zero_le _⟩) (fun v9 e9 => ?_)
    rw [e9]
    refine lv_if_eq (tgt := 39) hx hb dX5_acceptedByListing_16 (by decide) (fun c_6 => ?_) (fun c_6 => ?_)
    · rw [if_pos c_6] at hf
      exact B39  hf ls (lv_sub hl [] rfl)
    · rw [if_neg c_6] at hf
      refine lv_iload_n hx hb dX5_acceptedByListing_19 rfl (lv_at hl 3 rfl) ?_
      refine lv_iconst (v := 1) hx hb dX5_acceptedByListing_20 (by decide) ?_
      refine lv_iload_n hx hb dX5_acceptedByListing_21 rfl (lv_at hl 1 rfl) ?_
      obtain ⟨r_7, e_8, hf⟩ := bind_some hf
      refine vp_callSi (W.runS (As := [.int p3, .int 1, .int p1]) (rest := []) ⟨hx, hb, hml, hown, hts⟩ (mX5_isWithin l X N p3 1 p1 r_7 e_8) (va_cwS 3 hts gX5_acceptedByListing_X5_isWithin rfl rfl rfl (by decide +kernel) ⟨Nat.le_of_ble_eq_true rfl, Nat.le_of_ble_eq_true rfl⟩) (rPreS hK hP hSt hS [] rfl) rfl rfl hl.1 rfl (lv_room (Nat.le_of_ble_eq_true rfl)) dX5_acceptedByListing_22 ⟨Nat.zero_le _, Nat.zero_le _⟩) (fun v9 e9 => ?_)
      rw [e9]
      refine lv_if_eq (tgt := 39) hx hb dX5_acceptedByListing_25 (by decide) (fun c_9 => ?_) (fun c_9 => ?_)
      · rw [if_pos c_9] at hf
        exact B39  hf ls (lv_sub hl [] rfl)
      · rw [if_neg c_9] at hf
        refine lv_iload hx hb dX5_acceptedByListing_28 (lv_at hl 4 rfl) ?_
        refine lv_iconst (v := 0) hx hb dX5_acceptedByListing_30 (by decide) ?_
        refine lv_bipush (v := 60) hx hb dX5_acceptedByListing_31 (by decide) ?_
        obtain ⟨r_10, e_11, hf⟩ := bind_some hf
        refine vp_callSi (W.runS (As := [.int p4, .int 0, .int 60]) (rest := []) ⟨hx, hb, hml, hown, hts⟩ (mX5_isWithin l X N p4 0 60 r_10 e_11) (va_cwS 3 hts gX5_acceptedByListing_X5_isWithin rfl rfl rfl (by decide +kernel) ⟨Nat.le_of_ble_eq_true rfl, Nat.le_of_ble_eq_true rfl⟩) (rPreS hK hP hSt hS [] rfl) rfl rfl hl.1 rfl (lv_room (Nat.le_of_ble_eq_true rfl)) dX5_acceptedByListing_33 ⟨Nat.zero_le _, Nat.zero_le _⟩) (fun v9 e9 => ?_)
        rw [e9]
        refine lv_if_ne (tgt := 49) hx hb dX5_acceptedByListing_36 (by decide) (fun c_12 => ?_) (fun c_12 => ?_)
        · rw [if_neg c_12] at hf
          refine lv_iload_n hx hb dX5_acceptedByListing_49 rfl (lv_at hl 1 rfl) ?_
          refine lv_iload_n hx hb dX5_acceptedByListing_50 rfl (lv_at hl 2 rfl) ?_
          refine lv_iload_n hx hb dX5_acceptedByListing_51 rfl (lv_at hl 3 rfl) ?_
          refine lv_iload hx hb dX5_acceptedByListing_52 (lv_at hl 4 rfl) ?_
          obtain ⟨r_13, e_14, hf⟩ := bind_some hf
          refine vp_callSl (W.runS (As := [.int p1, .int p2, .int p3, .int p4]) (rest := []) ⟨hx, hb, hml, hown, hts⟩ (mX1_listedWithAtMost l X N p1 p2 p3 p4 r_13 e_14) (va_cwS 4 hts gX5_acceptedByListing_X1_listedWithAtMost rfl rfl rfl (by decide +kernel) ⟨Nat.le_of_ble_eq_true rfl, Nat.le_of_ble_eq_true rfl⟩) (rPreS hK hP hSt hS [] rfl) rfl rfl hl.1 rfl (lv_room (Nat.le_of_ble_eq_true rfl)) dX5_acceptedByListing_54 ⟨Nat.zero_le _, Nat.zero_le _⟩) (fun v9 e9 => ?_)
          rw [e9]
          obtain rfl := Sum.inr.inj (Option.some.inj hf)
          exact W.lret hx hb hr (fun t ht hW => ⟨_, rfl, rfl, ht⟩) (fun _ h => by cases h) dX5_acceptedByListing_57
        · rw [if_pos c_12] at hf
          exact B39  hf ls (lv_sub hl [] rfl)
def rnX5_setPlan : Room := { frames := 6, cells := 0, slots := 0, locals := 141 }
set_option maxHeartbeats 4000000 in
set_option maxRecDepth 100000 in
theorem nX5_setPlan (l : Launch) (X : cxT) (N : Nat) (a_office a_la a_ma a_plans a_course a_hist a_hr a_hb : Nat) (sz : Nat) (office_lotCount : Int32) (la_f : Nat → Option Nat) (ma_f : Nat → Int32) (plans_level : Int32) (plans_quality : Int32) (plans_twice : Int32) (course_steady : Int32) (course_rate : Int32) (course_state : Int32) (course_skipping : Int32) (course_changedAt : Int32) (course_acceptedInRow : Int32) (course_passedInGroup : Int32) (hist_length : Int32) (hr_f : Nat → Int32) (hb_f : Nat → Int32) (pL : List Nat) (pO : Nat → Int32) (pZ : Nat → Int32) (pF : Nat → Int64) (pV : Nat → Int32) (pT : Nat → Int32) (pI : Nat → Int32) (pB : Nat → Int32) (p1 : Int32) (p2 : Int32) (r : Int32 × Int32 × Int32 × Int32 × Int32 × Int32 × Int32 × Int32 × (Nat → Int32) × (Nat → Int32) × (Nat → Int32) × (Nat → Int32) × (Nat → Int32) × (Nat → Int32)) (hf0 : fX5_setPlan N p1 p2 la_f ma_f plans_level plans_quality plans_twice course_steady course_rate course_state course_skipping course_changedAt course_acceptedInRow course_passedInGroup hist_length hr_f hb_f pL pO pZ pF pV pT pI pB = some (Sum.inr r)) : Met l yX5_setPlan wsX5_setPlan rnX5_setPlan (wPre X sz (HAppend.hAppend (α := va_W) (β := va_W) (γ := va_W) [(a_office, .inr (4, [.ref a_la, .ref a_ma, .ref a_plans, .ref a_course, .int office_lotCount])), (a_la, .inl (X.2 3, 200, .inr (.inr (.inr (.inr la_f))))), (a_ma, .inl (X.2 2, 200, .inl ma_f)), (a_plans, .inr (3, [.int plans_level, .int plans_quality, .int plans_twice])), (a_course, .inr (0, [.int course_steady, .int course_rate, .int course_state, .int course_skipping, .ref a_hist, .int course_changedAt, .int course_acceptedInRow, .int course_passedInGroup])), (a_hist, .inr (1, [.ref a_hr, .ref a_hb, .int hist_length])), (a_hr, .inl (X.2 2, 60, .inl hr_f)), (a_hb, .inl (X.2 0, 60, .inl hb_f))] (va_pl pL (lotE pO pZ pF pV pT pI pB))) [.ref a_office, .int p1, .int p2]) (va_Qv (fun _ : Unit => True) (fun _ t => wPost X (HAppend.hAppend (α := va_W) (β := va_W) (γ := va_W) [(a_office, .inr (4, [.ref a_la, .ref a_ma, .ref a_plans, .ref a_course, .int office_lotCount])), (a_la, .inl (X.2 3, 200, .inr (.inr (.inr (.inr la_f))))), (a_ma, .inl (X.2 2, 200, .inl ma_f)), (a_plans, .inr (3, [.int r.1, .int r.2.1, .int plans_twice])), (a_course, .inr (0, [.int course_steady, .int course_rate, .int r.2.2.1, .int r.2.2.2.1, .ref a_hist, .int r.2.2.2.2.1, .int r.2.2.2.2.2.1, .int r.2.2.2.2.2.2.1])), (a_hist, .inr (1, [.ref a_hr, .ref a_hb, .int r.2.2.2.2.2.2.2.1])), (a_hr, .inl (X.2 2, 60, .inl r.2.2.2.2.2.2.2.2.1)), (a_hb, .inl (X.2 0, 60, .inl r.2.2.2.2.2.2.2.2.2.1))] (va_pl pL (lotE pO pZ pF r.2.2.2.2.2.2.2.2.2.2.1 r.2.2.2.2.2.2.2.2.2.2.2.1 r.2.2.2.2.2.2.2.2.2.2.2.2.1 r.2.2.2.2.2.2.2.2.2.2.2.2.2))) t) (va_A (HAppend.hAppend (α := va_W) (β := va_W) (γ := va_W) [(a_office, .inr (4, [.ref a_la, .ref a_ma, .ref a_plans, .ref a_course, .int office_lotCount])), (a_la, .inl (X.2 3, 200, .inr (.inr (.inr (.inr la_f))))), (a_ma, .inl (X.2 2, 200, .inl ma_f)), (a_plans, .inr (3, [.int plans_level, .int plans_quality, .int plans_twice])), (a_course, .inr (0, [.int course_steady, .int course_rate, .int course_state, .int course_skipping, .ref a_hist, .int course_changedAt, .int course_acceptedInRow, .int course_passedInGroup])), (a_hist, .inr (1, [.ref a_hr, .ref a_hb, .int hist_length])), (a_hr, .inl (X.2 2, 60, .inl hr_f)), (a_hb, .inl (X.2 0, 60, .inl hb_f))] (va_pl pL (lotE pO pZ pF pV pT pI pB))) sz)) 0 0 (va_A (HAppend.hAppend (α := va_W) (β := va_W) (γ := va_W) [(a_office, .inr (4, [.ref a_la, .ref a_ma, .ref a_plans, .ref a_course, .int office_lotCount])), (a_la, .inl (X.2 3, 200, .inr (.inr (.inr (.inr la_f))))), (a_ma, .inl (X.2 2, 200, .inl ma_f)), (a_plans, .inr (3, [.int plans_level, .int plans_quality, .int plans_twice])), (a_course, .inr (0, [.int course_steady, .int course_rate, .int course_state, .int course_skipping, .ref a_hist, .int course_changedAt, .int course_acceptedInRow, .int course_passedInGroup])), (a_hist, .inr (1, [.ref a_hr, .ref a_hb, .int hist_length])), (a_hr, .inl (X.2 2, 60, .inl hr_f)), (a_hb, .inl (X.2 0, 60, .inl hb_f))] (va_pl pL (lotE pO pZ pF pV pT pI pB))) sz) := by
  refine Met.ofW (cc := cX5_setPlan) (maxL := 3) (ret := none) (by decide) rfl ?_
  intro p e s m args below meth c s₁ B hml hv
  obtain ⟨rfl, hsz, hP, hK, hD0, hSt⟩ := hv
  have hx := B.exec
  have hb := B.bytes
  have hr := B.returns
  have hts := atoms_spec (ws := wsX5_setPlan) B.pre
  have hown : s.vm.findClass RX5 = some m.cls := findClass_of_methodNamed B.named
  have hlocks := B.notSynchronized
  subst hsz
  have hD := hD0.self (sz := s.heap.size)
  generalize hAe : va_A (HAppend.hAppend (α := va_W) (β := va_W) (γ := va_W) [(a_office, .inr (4, [.ref a_la, .ref a_ma, .ref a_plans, .ref a_course, .int office_lotCount])), (a_la, .inl (X.2 3, 200, .inr (.inr (.inr (.inr la_f))))), (a_ma, .inl (X.2 2, 200, .inl ma_f)), (a_plans, .inr (3, [.int plans_level, .int plans_quality, .int plans_twice])), (a_course, .inr (0, [.int course_steady, .int course_rate, .int course_state, .int course_skipping, .ref a_hist, .int course_changedAt, .int course_acceptedInRow, .int course_passedInGroup])), (a_hist, .inr (1, [.ref a_hr, .ref a_hb, .int hist_length])), (a_hr, .inl (X.2 2, 60, .inl hr_f)), (a_hb, .inl (X.2 0, 60, .inl hb_f))] (va_pl pL (lotE pO pZ pF pV pT pI pB))) s.heap.size = A at hD hSt ⊢
  have hA : ∀ q : Nat, s.heap.size ≤ q → A q := fun q h => by rw [← hAe]; exact Or.inr h
  have hS : va_S A s.heap s.heap [] := va_S.rf
  have hP : va_P X.1 vwCl (HAppend.hAppend (α := va_W) (β := va_W) (γ := va_W) [(a_office, .inr (4, [.ref a_la, .ref a_ma, .ref a_plans, .ref a_course, .int office_lotCount])), (a_la, .inl (X.2 3, 200, .inr (.inr (.inr (.inr la_f))))), (a_ma, .inl (X.2 2, 200, .inl ma_f)), (a_plans, .inr (3, [.int plans_level, .int plans_quality, .int plans_twice])), (a_course, .inr (0, [.int course_steady, .int course_rate, .int course_state, .int course_skipping, .ref a_hist, .int course_changedAt, .int course_acceptedInRow, .int course_passedInGroup])), (a_hist, .inr (1, [.ref a_hr, .ref a_hb, .int hist_length])), (a_hr, .inl (X.2 2, 60, .inl hr_f)), (a_hb, .inl (X.2 0, 60, .inl hb_f))] (va_pl pL (lotE pO pZ pF pV pT pI pB))) s.heap := hP
  have hl := lv_entry ([.ref a_office, .int p1, .int p2]) (n := 3) (Nat.le_of_ble_eq_true rfl)
  rw [lg_entry_eq]
  generalize (lg_sl ([.ref a_office, .int p1, .int p2]) ++ List.replicate (3 - (lg_sl ([.ref a_office, .int p1, .int p2])).length) Slot.unset).toArray = ls at hl ⊢
  have hl : lv_has ls 3 [(0, .ref a_office), (1, .int p1), (2, .int p2)] := hl
  have B18 : (∀ (plans_level : Int32) (plans_quality : Int32) (course_state : Int32) (course_skipping : Int32) (course_changedAt : Int32) (course_acceptedInRow : Int32) (course_passedInGroup : Int32) (hist_length : Int32) (hr_f : Nat → Int32) (hb_f : Nat → Int32) (pV : Nat → Int32) (pT : Nat → Int32) (pI : Nat → Int32) (pB : Nat → Int32), fX5_setPlan_b18 N la_f ma_f plans_twice course_steady course_rate pL pO pZ pF plans_level plans_quality course_state course_skipping course_changedAt course_acceptedInRow course_passedInGroup hist_length hr_f hb_f pV pT pI pB = some (Sum.inr r) → ∀ (H : Heap) (locs : List Loc), va_P X.1 vwCl (HAppend.hAppend (α := va_W) (β := va_W) (γ := va_W) [(a_office, .inr (4, [.ref a_la, .ref a_ma, .ref a_plans, .ref a_course, .int office_lotCount])), (a_la, .inl (X.2 3, 200, .inr (.inr (.inr (.inr la_f))))), (a_ma, .inl (X.2 2, 200, .inl ma_f)), (a_plans, .inr (3, [.int plans_level, .int plans_quality, .int plans_twice])), (a_course, .inr (0, [.int course_steady, .int course_rate, .int course_state, .int course_skipping, .ref a_hist, .int course_changedAt, .int course_acceptedInRow, .int course_passedInGroup])), (a_hist, .inr (1, [.ref a_hr, .ref a_hb, .int hist_length])), (a_hr, .inl (X.2 2, 60, .inl hr_f)), (a_hb, .inl (X.2 0, 60, .inl hb_f))] (va_pl pL (lotE pO pZ pF pV pT pI pB))) H → va_D A (HAppend.hAppend (α := va_W) (β := va_W) (γ := va_W) [(a_office, .inr (4, [.ref a_la, .ref a_ma, .ref a_plans, .ref a_course, .int office_lotCount])), (a_la, .inl (X.2 3, 200, .inr (.inr (.inr (.inr la_f))))), (a_ma, .inl (X.2 2, 200, .inl ma_f)), (a_plans, .inr (3, [.int plans_level, .int plans_quality, .int plans_twice])), (a_course, .inr (0, [.int course_steady, .int course_rate, .int course_state, .int course_skipping, .ref a_hist, .int course_changedAt, .int course_acceptedInRow, .int course_passedInGroup])), (a_hist, .inr (1, [.ref a_hr, .ref a_hb, .int hist_length])), (a_hr, .inl (X.2 2, 60, .inl hr_f)), (a_hb, .inl (X.2 0, 60, .inl hb_f))] (va_pl pL (lotE pO pZ pF pV pT pI pB))) → va_S A s.heap H locs → ∀ ls : Array Slot, lv_has ls 3 [] → W p l e (headSpec wsX5_setPlan rnX5_setPlan).room s m (([.ref a_office, .int p1, .int p2] : List Value).toArray) below meth c H locs 0 0 (MQ below (va_Qv (fun _ : Unit => True) (fun _ t => wPost X (HAppend.hAppend (α := va_W) (β := va_W) (γ := va_W) [(a_office, .inr (4, [.ref a_la, .ref a_ma, .ref a_plans, .ref a_course, .int office_lotCount])), (a_la, .inl (X.2 3, 200, .inr (.inr (.inr (.inr la_f))))), (a_ma, .inl (X.2 2, 200, .inl ma_f)), (a_plans, .inr (3, [.int r.1, .int r.2.1, .int plans_twice])), (a_course, .inr (0, [.int course_steady, .int course_rate, .int r.2.2.1, .int r.2.2.2.1, .ref a_hist, .int r.2.2.2.2.1, .int r.2.2.2.2.2.1, .int r.2.2.2.2.2.2.1])), (a_hist, .inr (1, [.ref a_hr, .ref a_hb, .int r.2.2.2.2.2.2.2.1])), (a_hr, .inl (X.2 2, 60, .inl r.2.2.2.2.2.2.2.2.1)), (a_hb, .inl (X.2 0, 60, .inl r.2.2.2.2.2.2.2.2.2.1))] (va_pl pL (lotE pO pZ pF r.2.2.2.2.2.2.2.2.2.2.1 r.2.2.2.2.2.2.2.2.2.2.2.1 r.2.2.2.2.2.2.2.2.2.2.2.2.1 r.2.2.2.2.2.2.2.2.2.2.2.2.2))) t) A) ([.ref a_office, .int p1, .int p2] : List Value).toArray s 0 0 A) (F0 m 18 ls [])) := by
    intro plans_level plans_quality course_state course_skipping course_changedAt course_acceptedInRow course_passedInGroup hist_length hr_f hb_f pV pT pI pB hf H locs hP hD hS ls hl
    unfold fX5_setPlan_b18 at hf
    exact absurd (Option.some.inj hf) (by simp)
  have hf := hf0
  unfold fX5_setPlan at hf
  obtain ⟨H, hHe⟩ : ∃ z, z = s.heap := ⟨_, rfl⟩
  have hP : va_P X.1 vwCl (HAppend.hAppend (α := va_W) (β := va_W) (γ := va_W) [(a_office, .inr (4, [.ref a_la, .ref a_ma, .ref a_plans, .ref a_course, .int office_lotCount])), (a_la, .inl (X.2 3, 200, .inr (.inr (.inr (.inr la_f))))), (a_ma, .inl (X.2 2, 200, .inl ma_f)), (a_plans, .inr (3, [.int plans_level, .int plans_quality, .int plans_twice])), (a_course, .inr (0, [.int course_steady, .int course_rate, .int course_state, .int course_skipping, .ref a_hist, .int course_changedAt, .int course_acceptedInRow, .int course_passedInGroup])), (a_hist, .inr (1, [.ref a_hr, .ref a_hb, .int hist_length])), (a_hr, .inl (X.2 2, 60, .inl hr_f)), (a_hb, .inl (X.2 0, 60, .inl hb_f))] (va_pl pL (lotE pO pZ pF pV pT pI pB))) H := by rw [hHe]; exact hP
  have hS : va_S A s.heap H [] := by rw [hHe]; exact va_S.rf
  rw [← hHe]
  obtain ⟨locs, hLo⟩ : ∃ z : List Loc, z = [] := ⟨_, rfl⟩
  rw [← hLo] at hS ⊢
  refine lv_iload_n hx hb dX5_setPlan_0 rfl (lv_at hl 1 rfl) ?_
  refine lv_iconst (v := 0) hx hb dX5_setPlan_1 (by decide) ?_
  refine lv_iconst (v := 2) hx hb dX5_setPlan_2 (by decide) ?_
  obtain ⟨r_1, e_2, hf⟩ := bind_some hf
  refine vp_callSi (W.runS (As := [.int p1, .int 0, .int 2]) (rest := []) ⟨hx, hb, hml, hown, hts⟩ (mX5_isWithin l X N p1 0 2 r_1 e_2) (va_cwS 3 hts gX5_setPlan_X5_isWithin rfl rfl rfl (by decide +kernel) ⟨Nat.le_of_ble_eq_true rfl, Nat.le_of_ble_eq_true rfl⟩) (rPreS hK hP hSt hS [] rfl) rfl rfl hl.1 rfl (lv_room (Nat.le_of_ble_eq_true rfl)) dX5_setPlan_3 ⟨Nat.zero_le _, Nat.zero_le _⟩) (fun v9 e9 => ?_)
  rw [e9]
  refine lv_if_eq (tgt := 18) hx hb dX5_setPlan_6 (by decide) (fun c_3 => ?_) (fun c_3 => ?_)
  · rw [if_pos c_3] at hf
    exact B18 plans_level plans_quality course_state course_skipping course_changedAt course_acceptedInRow course_passedInGroup hist_length hr_f hb_f pV pT pI pB hf H locs hP hD hS ls (lv_sub hl [] rfl)
  · rw [if_neg c_3] at hf
    refine lv_iload_n hx hb dX5_setPlan_9 rfl (lv_at hl 2 rfl) ?_
    refine lv_iconst (v := 0) hx hb dX5_setPlan_10 (by decide) ?_
    refine lv_iconst (v := 3) hx hb dX5_setPlan_11 (by decide) ?_
    obtain ⟨r_4, e_5, hf⟩ := bind_some hf
    refine vp_callSi (W.runS (As := [.int p2, .int 0, .int 3]) (rest := []) ⟨hx, hb, hml, hown, hts⟩ (mX5_isWithin l X N p2 0 3 r_4 e_5) (va_cwS 3 hts gX5_setPlan_X5_isWithin rfl rfl rfl (by decide +kernel) ⟨Nat.le_of_ble_eq_true rfl, Nat.le_of_ble_eq_true rfl⟩) (rPreS hK hP hSt hS [] rfl) rfl rfl hl.1 rfl (lv_room (Nat.le_of_ble_eq_true rfl)) dX5_setPlan_12 ⟨Nat.zero_le _, Nat.zero_le _⟩) (fun v9 e9 => ?_)
    rw [e9]
    refine lv_if_ne (tgt := 28) hx hb dX5_setPlan_15 (by decide) (fun c_6 => ?_) (fun c_6 => ?_)
    · rw [if_neg c_6] at hf
      refine lv_aload_n hx hb dX5_setPlan_28 rfl (lv_at hl 0 rfl) ?_
      refine va_get (D := X.1) (ci := 4) (v := .ref a_plans) (C := RX5) (T := TX5) (N := 5) hx hb hts iwX5_setPlan_X5 hown hK hP 0 rfl rfl 2 (by decide) (hts _ lkX5_setPlan_3) (fun _ h9 => h9) rfl dX5_setPlan_29 ?_
      refine lv_iload_n hx hb dX5_setPlan_32 rfl (lv_at hl 1 rfl) ?_
      refine va_put (D := X.1) (ci := 3) (v := .int p1) (ty := .int) (C := RX4) (T := TX4) (N := 3) hx hb hts iwX5_setPlan_X4 tyX4 tyX4_ok nmX4 hown hK hP hD hS 3 rfl rfl 0 (by decide) (hts _ lkX5_setPlan_4) (fun _ h9 => h9) rfl (by decide +kernel) rfl rfl (Nat.le_of_ble_eq_true rfl) dX5_setPlan_33 (fun H locs hP hD hS => ?_)
      have hP : va_P X.1 vwCl (HAppend.hAppend (α := va_W) (β := va_W) (γ := va_W) [(a_office, .inr (4, [.ref a_la, .ref a_ma, .ref a_plans, .ref a_course, .int office_lotCount])), (a_la, .inl (X.2 3, 200, .inr (.inr (.inr (.inr la_f))))), (a_ma, .inl (X.2 2, 200, .inl ma_f)), (a_plans, .inr (3, [.int p1, .int plans_quality, .int plans_twice])), (a_course, .inr (0, [.int course_steady, .int course_rate, .int course_state, .int course_skipping, .ref a_hist, .int course_changedAt, .int course_acceptedInRow, .int course_passedInGroup])), (a_hist, .inr (1, [.ref a_hr, .ref a_hb, .int hist_length])), (a_hr, .inl (X.2 2, 60, .inl hr_f)), (a_hb, .inl (X.2 0, 60, .inl hb_f))] (va_pl pL (lotE pO pZ pF pV pT pI pB))) H := hP
      have hD : va_D A (HAppend.hAppend (α := va_W) (β := va_W) (γ := va_W) [(a_office, .inr (4, [.ref a_la, .ref a_ma, .ref a_plans, .ref a_course, .int office_lotCount])), (a_la, .inl (X.2 3, 200, .inr (.inr (.inr (.inr la_f))))), (a_ma, .inl (X.2 2, 200, .inl ma_f)), (a_plans, .inr (3, [.int p1, .int plans_quality, .int plans_twice])), (a_course, .inr (0, [.int course_steady, .int course_rate, .int course_state, .int course_skipping, .ref a_hist, .int course_changedAt, .int course_acceptedInRow, .int course_passedInGroup])), (a_hist, .inr (1, [.ref a_hr, .ref a_hb, .int hist_length])), (a_hr, .inl (X.2 2, 60, .inl hr_f)), (a_hb, .inl (X.2 0, 60, .inl hb_f))] (va_pl pL (lotE pO pZ pF pV pT pI pB))) := hD
      refine lv_aload_n hx hb dX5_setPlan_36 rfl (lv_at hl 0 rfl) ?_
      refine va_get (D := X.1) (ci := 4) (v := .ref a_plans) (C := RX5) (T := TX5) (N := 5) hx hb hts iwX5_setPlan_X5 hown hK hP 0 rfl rfl 2 (by decide) (hts _ lkX5_setPlan_3) (fun _ h9 => h9) rfl dX5_setPlan_37 ?_
      refine lv_iload_n hx hb dX5_setPlan_40 rfl (lv_at hl 2 rfl) ?_
      refine va_put (D := X.1) (ci := 3) (v := .int p2) (ty := .int) (C := RX4) (T := TX4) (N := 3) hx hb hts iwX5_setPlan_X4 tyX4 tyX4_ok nmX4 hown hK hP hD hS 3 rfl rfl 1 (by decide) (hts _ lkX5_setPlan_5) (fun _ h9 => h9) rfl (by decide +kernel) rfl rfl (Nat.le_of_ble_eq_true rfl) dX5_setPlan_41 (fun H locs hP hD hS => ?_)
      have hP : va_P X.1 vwCl (HAppend.hAppend (α := va_W) (β := va_W) (γ := va_W) [(a_office, .inr (4, [.ref a_la, .ref a_ma, .ref a_plans, .ref a_course, .int office_lotCount])), (a_la, .inl (X.2 3, 200, .inr (.inr (.inr (.inr la_f))))), (a_ma, .inl (X.2 2, 200, .inl ma_f)), (a_plans, .inr (3, [.int p1, .int p2, .int plans_twice])), (a_course, .inr (0, [.int course_steady, .int course_rate, .int course_state, .int course_skipping, .ref a_hist, .int course_changedAt, .int course_acceptedInRow, .int course_passedInGroup])), (a_hist, .inr (1, [.ref a_hr, .ref a_hb, .int hist_length])), (a_hr, .inl (X.2 2, 60, .inl hr_f)), (a_hb, .inl (X.2 0, 60, .inl hb_f))] (va_pl pL (lotE pO pZ pF pV pT pI pB))) H := hP
      have hD : va_D A (HAppend.hAppend (α := va_W) (β := va_W) (γ := va_W) [(a_office, .inr (4, [.ref a_la, .ref a_ma, .ref a_plans, .ref a_course, .int office_lotCount])), (a_la, .inl (X.2 3, 200, .inr (.inr (.inr (.inr la_f))))), (a_ma, .inl (X.2 2, 200, .inl ma_f)), (a_plans, .inr (3, [.int p1, .int p2, .int plans_twice])), (a_course, .inr (0, [.int course_steady, .int course_rate, .int course_state, .int course_skipping, .ref a_hist, .int course_changedAt, .int course_acceptedInRow, .int course_passedInGroup])), (a_hist, .inr (1, [.ref a_hr, .ref a_hb, .int hist_length])), (a_hr, .inl (X.2 2, 60, .inl hr_f)), (a_hb, .inl (X.2 0, 60, .inl hb_f))] (va_pl pL (lotE pO pZ pF pV pT pI pB))) := hD
      refine lv_aload_n hx hb dX5_setPlan_44 rfl (lv_at hl 0 rfl) ?_
      obtain ⟨r_7, e_8, hf⟩ := bind_some hf
      have hFc := va_freeA hD hS hA
      refine va_callv (va_runV (As := []) (rest := []) ⟨hx, hb, hml, hown, hts⟩ (mX5_judgeAll l X N a_office a_la a_ma a_plans a_course a_hist a_hr a_hb H.size office_lotCount la_f ma_f p1 p2 plans_twice course_steady course_rate course_state course_skipping course_changedAt course_acceptedInRow course_passedInGroup hist_length hr_f hb_f pL pO pZ pF pV pT pI pB r_7 e_8) (cwV 0 hts gX5_setPlan_X5_judgeAll rfl rfl rfl (by decide +kernel) ⟨Nat.le_of_ble_eq_true rfl, Nat.le_of_ble_eq_true rfl⟩) (gPreV hK hP hD hSt hS hFc 0 rfl rfl) rfl rfl hl.1 rfl (lv_room (Nat.le_of_ble_eq_true rfl)) dX5_setPlan_45 ⟨Nat.le_of_ble_eq_true rfl, Nat.le_of_ble_eq_true rfl⟩) hS (fun q _ h => hFc q h) hFc (fun u t H1 locs ht hvm hw hB hz1 hk1 hS => ?_)
      have hP : va_P X.1 vwCl (HAppend.hAppend (α := va_W) (β := va_W) (γ := va_W) [(a_office, .inr (4, [.ref a_la, .ref a_ma, .ref a_plans, .ref a_course, .int office_lotCount])), (a_la, .inl (X.2 3, 200, .inr (.inr (.inr (.inr la_f))))), (a_ma, .inl (X.2 2, 200, .inl ma_f)), (a_plans, .inr (3, [.int p1, .int p2, .int plans_twice])), (a_course, .inr (0, [.int course_steady, .int course_rate, .int r_7.1, .int r_7.2.1, .ref a_hist, .int r_7.2.2.1, .int r_7.2.2.2.1, .int r_7.2.2.2.2.1])), (a_hist, .inr (1, [.ref a_hr, .ref a_hb, .int r_7.2.2.2.2.2.1])), (a_hr, .inl (X.2 2, 60, .inl r_7.2.2.2.2.2.2.1)), (a_hb, .inl (X.2 0, 60, .inl r_7.2.2.2.2.2.2.2.1))] (va_pl pL (lotE pO pZ pF r_7.2.2.2.2.2.2.2.2.1 r_7.2.2.2.2.2.2.2.2.2.1 r_7.2.2.2.2.2.2.2.2.2.2.1 r_7.2.2.2.2.2.2.2.2.2.2.2))) H1 := by have h9 := hB.1; rw [ht] at h9; exact h9
      have hD : va_D A (HAppend.hAppend (α := va_W) (β := va_W) (γ := va_W) [(a_office, .inr (4, [.ref a_la, .ref a_ma, .ref a_plans, .ref a_course, .int office_lotCount])), (a_la, .inl (X.2 3, 200, .inr (.inr (.inr (.inr la_f))))), (a_ma, .inl (X.2 2, 200, .inl ma_f)), (a_plans, .inr (3, [.int p1, .int p2, .int plans_twice])), (a_course, .inr (0, [.int course_steady, .int course_rate, .int r_7.1, .int r_7.2.1, .ref a_hist, .int r_7.2.2.1, .int r_7.2.2.2.1, .int r_7.2.2.2.2.1])), (a_hist, .inr (1, [.ref a_hr, .ref a_hb, .int r_7.2.2.2.2.2.1])), (a_hr, .inl (X.2 2, 60, .inl r_7.2.2.2.2.2.2.1)), (a_hb, .inl (X.2 0, 60, .inl r_7.2.2.2.2.2.2.2.1))] (va_pl pL (lotE pO pZ pF r_7.2.2.2.2.2.2.2.2.1 r_7.2.2.2.2.2.2.2.2.2.1 r_7.2.2.2.2.2.2.2.2.2.2.1 r_7.2.2.2.2.2.2.2.2.2.2.2))) := hD.addr (addrP rfl)
      generalize H1 = H at hP hS ⊢
      obtain rfl := Sum.inr.inj (Option.some.inj hf)
      exact W.vret hx hb hr (fun t ht hW => ⟨⟨(), rfl, trivial, by rw [ht]; exact hP, va_K.moved hW.alike hK⟩, hS.F ht⟩) hS.2.2 dX5_setPlan_48
    · rw [if_pos c_6] at hf
      exact B18 plans_level plans_quality course_state course_skipping course_changedAt course_acceptedInRow course_passedInGroup hist_length hr_f hb_f pV pT pI pB hf H locs hP hD hS ls (lv_sub hl [] rfl)
def rnX5_setWays : Room := { frames := 6, cells := 0, slots := 0, locals := 141 }
set_option maxHeartbeats 4000000 in
set_option maxRecDepth 100000 in
theorem nX5_setWays (l : Launch) (X : cxT) (N : Nat) (a_office a_la a_ma a_plans a_course a_hist a_hr a_hb : Nat) (sz : Nat) (office_lotCount : Int32) (la_f : Nat → Option Nat) (ma_f : Nat → Int32) (plans_level : Int32) (plans_quality : Int32) (plans_twice : Int32) (course_steady : Int32) (course_rate : Int32) (course_state : Int32) (course_skipping : Int32) (course_changedAt : Int32) (course_acceptedInRow : Int32) (course_passedInGroup : Int32) (hist_length : Int32) (hr_f : Nat → Int32) (hb_f : Nat → Int32) (pL : List Nat) (pO : Nat → Int32) (pZ : Nat → Int32) (pF : Nat → Int64) (pV : Nat → Int32) (pT : Nat → Int32) (pI : Nat → Int32) (pB : Nat → Int32) (p1 : Int32) (p2 : Int32) (p3 : Int32) (r : Int32 × Int32 × Int32 × Int32 × Int32 × Int32 × Int32 × Int32 × Int32 × (Nat → Int32) × (Nat → Int32) × (Nat → Int32) × (Nat → Int32) × (Nat → Int32) × (Nat → Int32)) (hf0 : fX5_setWays N p1 p2 p3 la_f ma_f plans_level plans_quality plans_twice course_steady course_rate course_state course_skipping course_changedAt course_acceptedInRow course_passedInGroup hist_length hr_f hb_f pL pO pZ pF pV pT pI pB = some (Sum.inr r)) : Met l yX5_setWays wsX5_setWays rnX5_setWays (wPre X sz (HAppend.hAppend (α := va_W) (β := va_W) (γ := va_W) [(a_office, .inr (4, [.ref a_la, .ref a_ma, .ref a_plans, .ref a_course, .int office_lotCount])), (a_la, .inl (X.2 3, 200, .inr (.inr (.inr (.inr la_f))))), (a_ma, .inl (X.2 2, 200, .inl ma_f)), (a_plans, .inr (3, [.int plans_level, .int plans_quality, .int plans_twice])), (a_course, .inr (0, [.int course_steady, .int course_rate, .int course_state, .int course_skipping, .ref a_hist, .int course_changedAt, .int course_acceptedInRow, .int course_passedInGroup])), (a_hist, .inr (1, [.ref a_hr, .ref a_hb, .int hist_length])), (a_hr, .inl (X.2 2, 60, .inl hr_f)), (a_hb, .inl (X.2 0, 60, .inl hb_f))] (va_pl pL (lotE pO pZ pF pV pT pI pB))) [.ref a_office, .int p1, .int p2, .int p3]) (va_Qv (fun _ : Unit => True) (fun _ t => wPost X (HAppend.hAppend (α := va_W) (β := va_W) (γ := va_W) [(a_office, .inr (4, [.ref a_la, .ref a_ma, .ref a_plans, .ref a_course, .int office_lotCount])), (a_la, .inl (X.2 3, 200, .inr (.inr (.inr (.inr la_f))))), (a_ma, .inl (X.2 2, 200, .inl ma_f)), (a_plans, .inr (3, [.int plans_level, .int plans_quality, .int r.1])), (a_course, .inr (0, [.int r.2.1, .int r.2.2.1, .int r.2.2.2.1, .int r.2.2.2.2.1, .ref a_hist, .int r.2.2.2.2.2.1, .int r.2.2.2.2.2.2.1, .int r.2.2.2.2.2.2.2.1])), (a_hist, .inr (1, [.ref a_hr, .ref a_hb, .int r.2.2.2.2.2.2.2.2.1])), (a_hr, .inl (X.2 2, 60, .inl r.2.2.2.2.2.2.2.2.2.1)), (a_hb, .inl (X.2 0, 60, .inl r.2.2.2.2.2.2.2.2.2.2.1))] (va_pl pL (lotE pO pZ pF r.2.2.2.2.2.2.2.2.2.2.2.1 r.2.2.2.2.2.2.2.2.2.2.2.2.1 r.2.2.2.2.2.2.2.2.2.2.2.2.2.1 r.2.2.2.2.2.2.2.2.2.2.2.2.2.2))) t) (va_A (HAppend.hAppend (α := va_W) (β := va_W) (γ := va_W) [(a_office, .inr (4, [.ref a_la, .ref a_ma, .ref a_plans, .ref a_course, .int office_lotCount])), (a_la, .inl (X.2 3, 200, .inr (.inr (.inr (.inr la_f))))), (a_ma, .inl (X.2 2, 200, .inl ma_f)), (a_plans, .inr (3, [.int plans_level, .int plans_quality, .int plans_twice])), (a_course, .inr (0, [.int course_steady, .int course_rate, .int course_state, .int course_skipping, .ref a_hist, .int course_changedAt, .int course_acceptedInRow, .int course_passedInGroup])), (a_hist, .inr (1, [.ref a_hr, .ref a_hb, .int hist_length])), (a_hr, .inl (X.2 2, 60, .inl hr_f)), (a_hb, .inl (X.2 0, 60, .inl hb_f))] (va_pl pL (lotE pO pZ pF pV pT pI pB))) sz)) 0 0 (va_A (HAppend.hAppend (α := va_W) (β := va_W) (γ := va_W) [(a_office, .inr (4, [.ref a_la, .ref a_ma, .ref a_plans, .ref a_course, .int office_lotCount])), (a_la, .inl (X.2 3, 200, .inr (.inr (.inr (.inr la_f))))), (a_ma, .inl (X.2 2, 200, .inl ma_f)), (a_plans, .inr (3, [.int plans_level, .int plans_quality, .int plans_twice])), (a_course, .inr (0, [.int course_steady, .int course_rate, .int course_state, .int course_skipping, .ref a_hist, .int course_changedAt, .int course_acceptedInRow, .int course_passedInGroup])), (a_hist, .inr (1, [.ref a_hr, .ref a_hb, .int hist_length])), (a_hr, .inl (X.2 2, 60, .inl hr_f)), (a_hb, .inl (X.2 0, 60, .inl hb_f))] (va_pl pL (lotE pO pZ pF pV pT pI pB))) sz) := by
  refine Met.ofW (cc := cX5_setWays) (maxL := 4) (ret := none) (by decide) rfl ?_
  intro p e s m args below meth c s₁ B hml hv
  obtain ⟨rfl, hsz, hP, hK, hD0, hSt⟩ := hv
  have hx := B.exec
  have hb := B.bytes
  have hr := B.returns
  have hts := atoms_spec (ws := wsX5_setWays) B.pre
  have hown : s.vm.findClass RX5 = some m.cls := findClass_of_methodNamed B.named
  have hlocks := B.notSynchronized
  subst hsz
  have hD := hD0.self (sz := s.heap.size)
  generalize hAe : va_A (HAppend.hAppend (α := va_W) (β := va_W) (γ := va_W) [(a_office, .inr (4, [.ref a_la, .ref a_ma, .ref a_plans, .ref a_course, .int office_lotCount])), (a_la, .inl (X.2 3, 200, .inr (.inr (.inr (.inr la_f))))), (a_ma, .inl (X.2 2, 200, .inl ma_f)), (a_plans, .inr (3, [.int plans_level, .int plans_quality, .int plans_twice])), (a_course, .inr (0, [.int course_steady, .int course_rate, .int course_state, .int course_skipping, .ref a_hist, .int course_changedAt, .int course_acceptedInRow, .int course_passedInGroup])), (a_hist, .inr (1, [.ref a_hr, .ref a_hb, .int hist_length])), (a_hr, .inl (X.2 2, 60, .inl hr_f)), (a_hb, .inl (X.2 0, 60, .inl hb_f))] (va_pl pL (lotE pO pZ pF pV pT pI pB))) s.heap.size = A at hD hSt ⊢
  have hA : ∀ q : Nat, s.heap.size ≤ q → A q := fun q h => by rw [← hAe]; exact Or.inr h
  have hS : va_S A s.heap s.heap [] := va_S.rf
  have hP : va_P X.1 vwCl (HAppend.hAppend (α := va_W) (β := va_W) (γ := va_W) [(a_office, .inr (4, [.ref a_la, .ref a_ma, .ref a_plans, .ref a_course, .int office_lotCount])), (a_la, .inl (X.2 3, 200, .inr (.inr (.inr (.inr la_f))))), (a_ma, .inl (X.2 2, 200, .inl ma_f)), (a_plans, .inr (3, [.int plans_level, .int plans_quality, .int plans_twice])), (a_course, .inr (0, [.int course_steady, .int course_rate, .int course_state, .int course_skipping, .ref a_hist, .int course_changedAt, .int course_acceptedInRow, .int course_passedInGroup])), (a_hist, .inr (1, [.ref a_hr, .ref a_hb, .int hist_length])), (a_hr, .inl (X.2 2, 60, .inl hr_f)), (a_hb, .inl (X.2 0, 60, .inl hb_f))] (va_pl pL (lotE pO pZ pF pV pT pI pB))) s.heap := hP
  have hl := lv_entry ([.ref a_office, .int p1, .int p2, .int p3]) (n := 4) (Nat.le_of_ble_eq_true rfl)
  rw [lg_entry_eq]
  generalize (lg_sl ([.ref a_office, .int p1, .int p2, .int p3]) ++ List.replicate (4 - (lg_sl ([.ref a_office, .int p1, .int p2, .int p3])).length) Slot.unset).toArray = ls at hl ⊢
  have hl : lv_has ls 4 [(0, .ref a_office), (1, .int p1), (2, .int p2), (3, .int p3)] := hl
  have B23 : (∀ (x1 : Int32) (x2 : Int32) (x3 : Int32) (plans_twice : Int32) (course_steady : Int32) (course_rate : Int32) (course_state : Int32) (course_skipping : Int32) (course_changedAt : Int32) (course_acceptedInRow : Int32) (course_passedInGroup : Int32) (hist_length : Int32) (hr_f : Nat → Int32) (hb_f : Nat → Int32) (pV : Nat → Int32) (pT : Nat → Int32) (pI : Nat → Int32) (pB : Nat → Int32), fX5_setWays_b23 N la_f ma_f plans_level plans_quality pL pO pZ pF x1 x2 x3 plans_twice course_steady course_rate course_state course_skipping course_changedAt course_acceptedInRow course_passedInGroup hist_length hr_f hb_f pV pT pI pB = some (Sum.inr r) → ∀ (H : Heap) (locs : List Loc), va_P X.1 vwCl (HAppend.hAppend (α := va_W) (β := va_W) (γ := va_W) [(a_office, .inr (4, [.ref a_la, .ref a_ma, .ref a_plans, .ref a_course, .int office_lotCount])), (a_la, .inl (X.2 3, 200, .inr (.inr (.inr (.inr la_f))))), (a_ma, .inl (X.2 2, 200, .inl ma_f)), (a_plans, .inr (3, [.int plans_level, .int plans_quality, .int plans_twice])), (a_course, .inr (0, [.int course_steady, .int course_rate, .int course_state, .int course_skipping, .ref a_hist, .int course_changedAt, .int course_acceptedInRow, .int course_passedInGroup])), (a_hist, .inr (1, [.ref a_hr, .ref a_hb, .int hist_length])), (a_hr, .inl (X.2 2, 60, .inl hr_f)), (a_hb, .inl (X.2 0, 60, .inl hb_f))] (va_pl pL (lotE pO pZ pF pV pT pI pB))) H → va_D A (HAppend.hAppend (α := va_W) (β := va_W) (γ := va_W) [(a_office, .inr (4, [.ref a_la, .ref a_ma, .ref a_plans, .ref a_course, .int office_lotCount])), (a_la, .inl (X.2 3, 200, .inr (.inr (.inr (.inr la_f))))), (a_ma, .inl (X.2 2, 200, .inl ma_f)), (a_plans, .inr (3, [.int plans_level, .int plans_quality, .int plans_twice])), (a_course, .inr (0, [.int course_steady, .int course_rate, .int course_state, .int course_skipping, .ref a_hist, .int course_changedAt, .int course_acceptedInRow, .int course_passedInGroup])), (a_hist, .inr (1, [.ref a_hr, .ref a_hb, .int hist_length])), (a_hr, .inl (X.2 2, 60, .inl hr_f)), (a_hb, .inl (X.2 0, 60, .inl hb_f))] (va_pl pL (lotE pO pZ pF pV pT pI pB))) → va_S A s.heap H locs → ∀ ls : Array Slot, lv_has ls 4 [(0, .ref a_office), (1, .int x1), (2, .int x2), (3, .int x3)] → W p l e (headSpec wsX5_setWays rnX5_setWays).room s m (([.ref a_office, .int p1, .int p2, .int p3] : List Value).toArray) below meth c H locs 0 0 (MQ below (va_Qv (fun _ : Unit => True) (fun _ t => wPost X (HAppend.hAppend (α := va_W) (β := va_W) (γ := va_W) [(a_office, .inr (4, [.ref a_la, .ref a_ma, .ref a_plans, .ref a_course, .int office_lotCount])), (a_la, .inl (X.2 3, 200, .inr (.inr (.inr (.inr la_f))))), (a_ma, .inl (X.2 2, 200, .inl ma_f)), (a_plans, .inr (3, [.int plans_level, .int plans_quality, .int r.1])), (a_course, .inr (0, [.int r.2.1, .int r.2.2.1, .int r.2.2.2.1, .int r.2.2.2.2.1, .ref a_hist, .int r.2.2.2.2.2.1, .int r.2.2.2.2.2.2.1, .int r.2.2.2.2.2.2.2.1])), (a_hist, .inr (1, [.ref a_hr, .ref a_hb, .int r.2.2.2.2.2.2.2.2.1])), (a_hr, .inl (X.2 2, 60, .inl r.2.2.2.2.2.2.2.2.2.1)), (a_hb, .inl (X.2 0, 60, .inl r.2.2.2.2.2.2.2.2.2.2.1))] (va_pl pL (lotE pO pZ pF r.2.2.2.2.2.2.2.2.2.2.2.1 r.2.2.2.2.2.2.2.2.2.2.2.2.1 r.2.2.2.2.2.2.2.2.2.2.2.2.2.1 r.2.2.2.2.2.2.2.2.2.2.2.2.2.2))) t) A) ([.ref a_office, .int p1, .int p2, .int p3] : List Value).toArray s 0 0 A) (F0 m 23 ls [])) := by
    intro x1 x2 x3 plans_twice course_steady course_rate course_state course_skipping course_changedAt course_acceptedInRow course_passedInGroup hist_length hr_f hb_f pV pT pI pB hf H locs hP hD hS ls hl
    unfold fX5_setWays_b23 at hf
    refine lv_aload_n hx hb dX5_setWays_23 rfl (lv_at hl 0 rfl) ?_
    refine va_get (D := X.1) (ci := 4) (v := .ref a_plans) (C := RX5) (T := TX5) (N := 5) hx hb hts iwX5_setWays_X5 hown hK hP 0 rfl rfl 2 (by decide) (hts _ lkX5_setWays_3) (fun _ h9 => h9) rfl dX5_setWays_24 ?_
    refine lv_iload_n hx hb dX5_setWays_27 rfl (lv_at hl 1 rfl) ?_
    obtain ⟨g_1, hf⟩ := ite_some hf
    refine va_put (D := X.1) (ci := 3) (v := .int x1) (ty := .boolean) (C := RX4) (T := TX4) (N := 3) hx hb hts iwX5_setWays_X4 tyX4 tyX4_ok nmX4 hown hK hP hD hS 3 rfl rfl 2 (by decide) (hts _ lkX5_setWays_4) (fun _ h9 => h9) rfl (by decide +kernel) (zb_n g_1) (zb_f g_1) (Nat.le_of_ble_eq_true rfl) dX5_setWays_28 (fun H locs hP hD hS => ?_)
    have hP : va_P X.1 vwCl (HAppend.hAppend (α := va_W) (β := va_W) (γ := va_W) [(a_office, .inr (4, [.ref a_la, .ref a_ma, .ref a_plans, .ref a_course, .int office_lotCount])), (a_la, .inl (X.2 3, 200, .inr (.inr (.inr (.inr la_f))))), (a_ma, .inl (X.2 2, 200, .inl ma_f)), (a_plans, .inr (3, [.int plans_level, .int plans_quality, .int x1])), (a_course, .inr (0, [.int course_steady, .int course_rate, .int course_state, .int course_skipping, .ref a_hist, .int course_changedAt, .int course_acceptedInRow, .int course_passedInGroup])), (a_hist, .inr (1, [.ref a_hr, .ref a_hb, .int hist_length])), (a_hr, .inl (X.2 2, 60, .inl hr_f)), (a_hb, .inl (X.2 0, 60, .inl hb_f))] (va_pl pL (lotE pO pZ pF pV pT pI pB))) H := hP
    have hD : va_D A (HAppend.hAppend (α := va_W) (β := va_W) (γ := va_W) [(a_office, .inr (4, [.ref a_la, .ref a_ma, .ref a_plans, .ref a_course, .int office_lotCount])), (a_la, .inl (X.2 3, 200, .inr (.inr (.inr (.inr la_f))))), (a_ma, .inl (X.2 2, 200, .inl ma_f)), (a_plans, .inr (3, [.int plans_level, .int plans_quality, .int x1])), (a_course, .inr (0, [.int course_steady, .int course_rate, .int course_state, .int course_skipping, .ref a_hist, .int course_changedAt, .int course_acceptedInRow, .int course_passedInGroup])), (a_hist, .inr (1, [.ref a_hr, .ref a_hb, .int hist_length])), (a_hr, .inl (X.2 2, 60, .inl hr_f)), (a_hb, .inl (X.2 0, 60, .inl hb_f))] (va_pl pL (lotE pO pZ pF pV pT pI pB))) := hD
    refine lv_aload_n hx hb dX5_setWays_31 rfl (lv_at hl 0 rfl) ?_
    refine va_get (D := X.1) (ci := 4) (v := .ref a_course) (C := RX5) (T := TX5) (N := 5) hx hb hts iwX5_setWays_X5 hown hK hP 0 rfl rfl 3 (by decide) (hts _ lkX5_setWays_5) (fun _ h9 => h9) rfl dX5_setWays_32 ?_
    refine lv_iload_n hx hb dX5_setWays_35 rfl (lv_at hl 2 rfl) ?_
    obtain ⟨g_2, hf⟩ := ite_some hf
    refine va_put (D := X.1) (ci := 0) (v := .int x2) (ty := .boolean) (C := RX0) (T := TX0) (N := 8) hx hb hts iwX5_setWays_X0 tyX0 tyX0_ok nmX0 hown hK hP hD hS 4 rfl rfl 0 (by decide) (hts _ lkX5_setWays_6) (fun _ h9 => h9) rfl (by decide +kernel) (zb_n g_2) (zb_f g_2) (Nat.le_of_ble_eq_true rfl) dX5_setWays_36 (fun H locs hP hD hS => ?_)
    have hP : va_P X.1 vwCl (HAppend.hAppend (α := va_W) (β := va_W) (γ := va_W) [(a_office, .inr (4, [.ref a_la, .ref a_ma, .ref a_plans, .ref a_course, .int office_lotCount])), (a_la, .inl (X.2 3, 200, .inr (.inr (.inr (.inr la_f))))), (a_ma, .inl (X.2 2, 200, .inl ma_f)), (a_plans, .inr (3, [.int plans_level, .int plans_quality, .int x1])), (a_course, .inr (0, [.int x2, .int course_rate, .int course_state, .int course_skipping, .ref a_hist, .int course_changedAt, .int course_acceptedInRow, .int course_passedInGroup])), (a_hist, .inr (1, [.ref a_hr, .ref a_hb, .int hist_length])), (a_hr, .inl (X.2 2, 60, .inl hr_f)), (a_hb, .inl (X.2 0, 60, .inl hb_f))] (va_pl pL (lotE pO pZ pF pV pT pI pB))) H := hP
    have hD : va_D A (HAppend.hAppend (α := va_W) (β := va_W) (γ := va_W) [(a_office, .inr (4, [.ref a_la, .ref a_ma, .ref a_plans, .ref a_course, .int office_lotCount])), (a_la, .inl (X.2 3, 200, .inr (.inr (.inr (.inr la_f))))), (a_ma, .inl (X.2 2, 200, .inl ma_f)), (a_plans, .inr (3, [.int plans_level, .int plans_quality, .int x1])), (a_course, .inr (0, [.int x2, .int course_rate, .int course_state, .int course_skipping, .ref a_hist, .int course_changedAt, .int course_acceptedInRow, .int course_passedInGroup])), (a_hist, .inr (1, [.ref a_hr, .ref a_hb, .int hist_length])), (a_hr, .inl (X.2 2, 60, .inl hr_f)), (a_hb, .inl (X.2 0, 60, .inl hb_f))] (va_pl pL (lotE pO pZ pF pV pT pI pB))) := hD
    refine lv_aload_n hx hb dX5_setWays_39 rfl (lv_at hl 0 rfl) ?_
    refine va_get (D := X.1) (ci := 4) (v := .ref a_course) (C := RX5) (T := TX5) (N := 5) hx hb hts iwX5_setWays_X5 hown hK hP 0 rfl rfl 3 (by decide) (hts _ lkX5_setWays_5) (fun _ h9 => h9) rfl dX5_setWays_40 ?_
    refine lv_iload_n hx hb dX5_setWays_43 rfl (lv_at hl 3 rfl) ?_
    refine va_put (D := X.1) (ci := 0) (v := .int x3) (ty := .int) (C := RX0) (T := TX0) (N := 8) hx hb hts iwX5_setWays_X0 tyX0 tyX0_ok nmX0 hown hK hP hD hS 4 rfl rfl 1 (by decide) (hts _ lkX5_setWays_7) (fun _ h9 => h9) rfl (by decide +kernel) rfl rfl (Nat.le_of_ble_eq_true rfl) dX5_setWays_44 (fun H locs hP hD hS => ?_)
    have hP : va_P X.1 vwCl (HAppend.hAppend (α := va_W) (β := va_W) (γ := va_W) [(a_office, .inr (4, [.ref a_la, .ref a_ma, .ref a_plans, .ref a_course, .int office_lotCount])), (a_la, .inl (X.2 3, 200, .inr (.inr (.inr (.inr la_f))))), (a_ma, .inl (X.2 2, 200, .inl ma_f)), (a_plans, .inr (3, [.int plans_level, .int plans_quality, .int x1])), (a_course, .inr (0, [.int x2, .int x3, .int course_state, .int course_skipping, .ref a_hist, .int course_changedAt, .int course_acceptedInRow, .int course_passedInGroup])), (a_hist, .inr (1, [.ref a_hr, .ref a_hb, .int hist_length])), (a_hr, .inl (X.2 2, 60, .inl hr_f)), (a_hb, .inl (X.2 0, 60, .inl hb_f))] (va_pl pL (lotE pO pZ pF pV pT pI pB))) H := hP
    have hD : va_D A (HAppend.hAppend (α := va_W) (β := va_W) (γ := va_W) [(a_office, .inr (4, [.ref a_la, .ref a_ma, .ref a_plans, .ref a_course, .int office_lotCount])), (a_la, .inl (X.2 3, 200, .inr (.inr (.inr (.inr la_f))))), (a_ma, .inl (X.2 2, 200, .inl ma_f)), (a_plans, .inr (3, [.int plans_level, .int plans_quality, .int x1])), (a_course, .inr (0, [.int x2, .int x3, .int course_state, .int course_skipping, .ref a_hist, .int course_changedAt, .int course_acceptedInRow, .int course_passedInGroup])), (a_hist, .inr (1, [.ref a_hr, .ref a_hb, .int hist_length])), (a_hr, .inl (X.2 2, 60, .inl hr_f)), (a_hb, .inl (X.2 0, 60, .inl hb_f))] (va_pl pL (lotE pO pZ pF pV pT pI pB))) := hD
    refine lv_aload_n hx hb dX5_setWays_47 rfl (lv_at hl 0 rfl) ?_
    obtain ⟨r_3, e_4, hf⟩ := bind_some hf
    have hFc := va_freeA hD hS hA
    refine va_callv (va_runV (As := []) (rest := []) ⟨hx, hb, hml, hown, hts⟩ (mX5_judgeAll l X N a_office a_la a_ma a_plans a_course a_hist a_hr a_hb H.size office_lotCount la_f ma_f plans_level plans_quality x1 x2 x3 course_state course_skipping course_changedAt course_acceptedInRow course_passedInGroup hist_length hr_f hb_f pL pO pZ pF pV pT pI pB r_3 e_4) (cwV 0 hts gX5_setWays_X5_judgeAll rfl rfl rfl (by decide +kernel) ⟨Nat.le_of_ble_eq_true rfl, Nat.le_of_ble_eq_true rfl⟩) (gPreV hK hP hD hSt hS hFc 0 rfl rfl) rfl rfl hl.1 rfl (lv_room (Nat.le_of_ble_eq_true rfl)) dX5_setWays_48 ⟨Nat.le_of_ble_eq_true rfl, Nat.le_of_ble_eq_true rfl⟩) hS (fun q _ h => hFc q h) hFc (fun u t H1 locs ht hvm hw hB hz1 hk1 hS => ?_)
    have hP : va_P X.1 vwCl (HAppend.hAppend (α := va_W) (β := va_W) (γ := va_W) [(a_office, .inr (4, [.ref a_la, .ref a_ma, .ref a_plans, .ref a_course, .int office_lotCount])), (a_la, .inl (X.2 3, 200, .inr (.inr (.inr (.inr la_f))))), (a_ma, .inl (X.2 2, 200, .inl ma_f)), (a_plans, .inr (3, [.int plans_level, .int plans_quality, .int x1])), (a_course, .inr (0, [.int x2, .int x3, .int r_3.1, .int r_3.2.1, .ref a_hist, .int r_3.2.2.1, .int r_3.2.2.2.1, .int r_3.2.2.2.2.1])), (a_hist, .inr (1, [.ref a_hr, .ref a_hb, .int r_3.2.2.2.2.2.1])), (a_hr, .inl (X.2 2, 60, .inl r_3.2.2.2.2.2.2.1)), (a_hb, .inl (X.2 0, 60, .inl r_3.2.2.2.2.2.2.2.1))] (va_pl pL (lotE pO pZ pF r_3.2.2.2.2.2.2.2.2.1 r_3.2.2.2.2.2.2.2.2.2.1 r_3.2.2.2.2.2.2.2.2.2.2.1 r_3.2.2.2.2.2.2.2.2.2.2.2))) H1 := by have h9 := hB.1; rw [ht] at h9; exact h9
    have hD : va_D A (HAppend.hAppend (α := va_W) (β := va_W) (γ := va_W) [(a_office, .inr (4, [.ref a_la, .ref a_ma, .ref a_plans, .ref a_course, .int office_lotCount])), (a_la, .inl (X.2 3, 200, .inr (.inr (.inr (.inr la_f))))), (a_ma, .inl (X.2 2, 200, .inl ma_f)), (a_plans, .inr (3, [.int plans_level, .int plans_quality, .int x1])), (a_course, .inr (0, [.int x2, .int x3, .int r_3.1, .int r_3.2.1, .ref a_hist, .int r_3.2.2.1, .int r_3.2.2.2.1, .int r_3.2.2.2.2.1])), (a_hist, .inr (1, [.ref a_hr, .ref a_hb, .int r_3.2.2.2.2.2.1])), (a_hr, .inl (X.2 2, 60, .inl r_3.2.2.2.2.2.2.1)), (a_hb, .inl (X.2 0, 60, .inl r_3.2.2.2.2.2.2.2.1))] (va_pl pL (lotE pO pZ pF r_3.2.2.2.2.2.2.2.2.1 r_3.2.2.2.2.2.2.2.2.2.1 r_3.2.2.2.2.2.2.2.2.2.2.1 r_3.2.2.2.2.2.2.2.2.2.2.2))) := hD.addr (addrP rfl)
    generalize H1 = H at hP hS ⊢
    obtain rfl := Sum.inr.inj (Option.some.inj hf)
    exact W.vret hx hb hr (fun t ht hW => ⟨⟨(), rfl, trivial, by rw [ht]; exact hP, va_K.moved hW.alike hK⟩, hS.F ht⟩) hS.2.2 dX5_setWays_51
  have hf := hf0
  unfold fX5_setWays at hf
  obtain ⟨H, hHe⟩ : ∃ z, z = s.heap := ⟨_, rfl⟩
  have hP : va_P X.1 vwCl (HAppend.hAppend (α := va_W) (β := va_W) (γ := va_W) [(a_office, .inr (4, [.ref a_la, .ref a_ma, .ref a_plans, .ref a_course, .int office_lotCount])), (a_la, .inl (X.2 3, 200, .inr (.inr (.inr (.inr la_f))))), (a_ma, .inl (X.2 2, 200, .inl ma_f)), (a_plans, .inr (3, [.int plans_level, .int plans_quality, .int plans_twice])), (a_course, .inr (0, [.int course_steady, .int course_rate, .int course_state, .int course_skipping, .ref a_hist, .int course_changedAt, .int course_acceptedInRow, .int course_passedInGroup])), (a_hist, .inr (1, [.ref a_hr, .ref a_hb, .int hist_length])), (a_hr, .inl (X.2 2, 60, .inl hr_f)), (a_hb, .inl (X.2 0, 60, .inl hb_f))] (va_pl pL (lotE pO pZ pF pV pT pI pB))) H := by rw [hHe]; exact hP
  have hS : va_S A s.heap H [] := by rw [hHe]; exact va_S.rf
  rw [← hHe]
  obtain ⟨locs, hLo⟩ : ∃ z : List Loc, z = [] := ⟨_, rfl⟩
  rw [← hLo] at hS ⊢
  refine lv_iload_n hx hb dX5_setWays_0 rfl (lv_at hl 3 rfl) ?_
  refine lv_if_eq (tgt := 23) hx hb dX5_setWays_1 (by decide) (fun c_5 => ?_) (fun c_5 => ?_)
  · rw [if_pos c_5] at hf
    exact B23 p1 p2 p3 plans_twice course_steady course_rate course_state course_skipping course_changedAt course_acceptedInRow course_passedInGroup hist_length hr_f hb_f pV pT pI pB hf H locs hP hD hS ls (lv_sub hl [0, 1, 2, 3] rfl)
  · rw [if_neg c_5] at hf
    refine lv_iload_n hx hb dX5_setWays_4 rfl (lv_at hl 3 rfl) ?_
    refine lv_iconst (v := 2) hx hb dX5_setWays_5 (by decide) ?_
    refine lv_iconst (v := 5) hx hb dX5_setWays_6 (by decide) ?_
    obtain ⟨r_6, e_7, hf⟩ := bind_some hf
    refine vp_callSi (W.runS (As := [.int p3, .int 2, .int 5]) (rest := []) ⟨hx, hb, hml, hown, hts⟩ (mX5_isWithin l X N p3 2 5 r_6 e_7) (va_cwS 3 hts gX5_setWays_X5_isWithin rfl rfl rfl (by decide +kernel) ⟨Nat.le_of_ble_eq_true rfl, Nat.le_of_ble_eq_true rfl⟩) (rPreS hK hP hSt hS [] rfl) rfl rfl hl.1 rfl (lv_room (Nat.le_of_ble_eq_true rfl)) dX5_setWays_7 ⟨Nat.zero_le _, Nat.zero_le _⟩) (fun v9 e9 => ?_)
    rw [e9]
    refine lv_if_ne (tgt := 23) hx hb dX5_setWays_10 (by decide) (fun c_8 => ?_) (fun c_8 => ?_)
    · rw [if_neg c_8] at hf
      exact B23 p1 p2 p3 plans_twice course_steady course_rate course_state course_skipping course_changedAt course_acceptedInRow course_passedInGroup hist_length hr_f hb_f pV pT pI pB hf H locs hP hD hS ls (lv_sub hl [0, 1, 2, 3] rfl)
    · rw [if_pos c_8] at hf
      exact absurd (Option.some.inj hf) (by simp)
def rnX5_toggleMark : Room := { frames := 6, cells := 0, slots := 0, locals := 141 }
set_option maxHeartbeats 4000000 in
set_option maxRecDepth 100000 in
theorem nX5_toggleMark (l : Launch) (X : cxT) (N : Nat) (a_office a_la a_ma a_plans a_course a_hist a_hr a_hb : Nat) (sz : Nat) (office_lotCount : Int32) (la_f : Nat → Option Nat) (ma_f : Nat → Int32) (plans_level : Int32) (plans_quality : Int32) (plans_twice : Int32) (course_steady : Int32) (course_rate : Int32) (course_state : Int32) (course_skipping : Int32) (course_changedAt : Int32) (course_acceptedInRow : Int32) (course_passedInGroup : Int32) (hist_length : Int32) (hr_f : Nat → Int32) (hb_f : Nat → Int32) (pL : List Nat) (pO : Nat → Int32) (pZ : Nat → Int32) (pF : Nat → Int64) (pV : Nat → Int32) (pT : Nat → Int32) (pI : Nat → Int32) (pB : Nat → Int32) (p1 : Int32) (r : Int32 × (Nat → Int32) × Int32 × Int32 × Int32 × Int32 × Int32 × Int32 × (Nat → Int32) × (Nat → Int32) × (Nat → Int32) × (Nat → Int32) × (Nat → Int32) × (Nat → Int32)) (hf0 : fX5_toggleMark N p1 la_f ma_f plans_level plans_quality plans_twice course_steady course_rate course_state course_skipping course_changedAt course_acceptedInRow course_passedInGroup hist_length hr_f hb_f pL pO pZ pF pV pT pI pB = some (Sum.inr r)) : Met l yX5_toggleMark wsX5_toggleMark rnX5_toggleMark (wPre X sz (HAppend.hAppend (α := va_W) (β := va_W) (γ := va_W) [(a_office, .inr (4, [.ref a_la, .ref a_ma, .ref a_plans, .ref a_course, .int office_lotCount])), (a_la, .inl (X.2 3, 200, .inr (.inr (.inr (.inr la_f))))), (a_ma, .inl (X.2 2, 200, .inl ma_f)), (a_plans, .inr (3, [.int plans_level, .int plans_quality, .int plans_twice])), (a_course, .inr (0, [.int course_steady, .int course_rate, .int course_state, .int course_skipping, .ref a_hist, .int course_changedAt, .int course_acceptedInRow, .int course_passedInGroup])), (a_hist, .inr (1, [.ref a_hr, .ref a_hb, .int hist_length])), (a_hr, .inl (X.2 2, 60, .inl hr_f)), (a_hb, .inl (X.2 0, 60, .inl hb_f))] (va_pl pL (lotE pO pZ pF pV pT pI pB))) [.ref a_office, .int p1]) (va_Qi (fun (v : Int32) (_ : Unit) => v = r.1) (fun _ t => wPost X (HAppend.hAppend (α := va_W) (β := va_W) (γ := va_W) [(a_office, .inr (4, [.ref a_la, .ref a_ma, .ref a_plans, .ref a_course, .int office_lotCount])), (a_la, .inl (X.2 3, 200, .inr (.inr (.inr (.inr la_f))))), (a_ma, .inl (X.2 2, 200, .inl r.2.1)), (a_plans, .inr (3, [.int plans_level, .int plans_quality, .int plans_twice])), (a_course, .inr (0, [.int course_steady, .int course_rate, .int r.2.2.1, .int r.2.2.2.1, .ref a_hist, .int r.2.2.2.2.1, .int r.2.2.2.2.2.1, .int r.2.2.2.2.2.2.1])), (a_hist, .inr (1, [.ref a_hr, .ref a_hb, .int r.2.2.2.2.2.2.2.1])), (a_hr, .inl (X.2 2, 60, .inl r.2.2.2.2.2.2.2.2.1)), (a_hb, .inl (X.2 0, 60, .inl r.2.2.2.2.2.2.2.2.2.1))] (va_pl pL (lotE pO pZ pF r.2.2.2.2.2.2.2.2.2.2.1 r.2.2.2.2.2.2.2.2.2.2.2.1 r.2.2.2.2.2.2.2.2.2.2.2.2.1 r.2.2.2.2.2.2.2.2.2.2.2.2.2))) t) (va_A (HAppend.hAppend (α := va_W) (β := va_W) (γ := va_W) [(a_office, .inr (4, [.ref a_la, .ref a_ma, .ref a_plans, .ref a_course, .int office_lotCount])), (a_la, .inl (X.2 3, 200, .inr (.inr (.inr (.inr la_f))))), (a_ma, .inl (X.2 2, 200, .inl ma_f)), (a_plans, .inr (3, [.int plans_level, .int plans_quality, .int plans_twice])), (a_course, .inr (0, [.int course_steady, .int course_rate, .int course_state, .int course_skipping, .ref a_hist, .int course_changedAt, .int course_acceptedInRow, .int course_passedInGroup])), (a_hist, .inr (1, [.ref a_hr, .ref a_hb, .int hist_length])), (a_hr, .inl (X.2 2, 60, .inl hr_f)), (a_hb, .inl (X.2 0, 60, .inl hb_f))] (va_pl pL (lotE pO pZ pF pV pT pI pB))) sz)) 0 0 (va_A (HAppend.hAppend (α := va_W) (β := va_W) (γ := va_W) [(a_office, .inr (4, [.ref a_la, .ref a_ma, .ref a_plans, .ref a_course, .int office_lotCount])), (a_la, .inl (X.2 3, 200, .inr (.inr (.inr (.inr la_f))))), (a_ma, .inl (X.2 2, 200, .inl ma_f)), (a_plans, .inr (3, [.int plans_level, .int plans_quality, .int plans_twice])), (a_course, .inr (0, [.int course_steady, .int course_rate, .int course_state, .int course_skipping, .ref a_hist, .int course_changedAt, .int course_acceptedInRow, .int course_passedInGroup])), (a_hist, .inr (1, [.ref a_hr, .ref a_hb, .int hist_length])), (a_hr, .inl (X.2 2, 60, .inl hr_f)), (a_hb, .inl (X.2 0, 60, .inl hb_f))] (va_pl pL (lotE pO pZ pF pV pT pI pB))) sz) := by
  refine Met.ofW (cc := cX5_toggleMark) (maxL := 2) (ret := (some .boolean)) (by decide) rfl ?_
  intro p e s m args below meth c s₁ B hml hv
  obtain ⟨rfl, hsz, hP, hK, hD0, hSt⟩ := hv
  have hx := B.exec
  have hb := B.bytes
  have hr := B.returns
  have hts := atoms_spec (ws := wsX5_toggleMark) B.pre
  have hown : s.vm.findClass RX5 = some m.cls := findClass_of_methodNamed B.named
  have hlocks := B.notSynchronized
  subst hsz
  have hD := hD0.self (sz := s.heap.size)
  generalize hAe : va_A (HAppend.hAppend (α := va_W) (β := va_W) (γ := va_W) [(a_office, .inr (4, [.ref a_la, .ref a_ma, .ref a_plans, .ref a_course, .int office_lotCount])), (a_la, .inl (X.2 3, 200, .inr (.inr (.inr (.inr la_f))))), (a_ma, .inl (X.2 2, 200, .inl ma_f)), (a_plans, .inr (3, [.int plans_level, .int plans_quality, .int plans_twice])), (a_course, .inr (0, [.int course_steady, .int course_rate, .int course_state, .int course_skipping, .ref a_hist, .int course_changedAt, .int course_acceptedInRow, .int course_passedInGroup])), (a_hist, .inr (1, [.ref a_hr, .ref a_hb, .int hist_length])), (a_hr, .inl (X.2 2, 60, .inl hr_f)), (a_hb, .inl (X.2 0, 60, .inl hb_f))] (va_pl pL (lotE pO pZ pF pV pT pI pB))) s.heap.size = A at hD hSt ⊢
  have hA : ∀ q : Nat, s.heap.size ≤ q → A q := fun q h => by rw [← hAe]; exact Or.inr h
  have hS : va_S A s.heap s.heap [] := va_S.rf
  have hP : va_P X.1 vwCl (HAppend.hAppend (α := va_W) (β := va_W) (γ := va_W) [(a_office, .inr (4, [.ref a_la, .ref a_ma, .ref a_plans, .ref a_course, .int office_lotCount])), (a_la, .inl (X.2 3, 200, .inr (.inr (.inr (.inr la_f))))), (a_ma, .inl (X.2 2, 200, .inl ma_f)), (a_plans, .inr (3, [.int plans_level, .int plans_quality, .int plans_twice])), (a_course, .inr (0, [.int course_steady, .int course_rate, .int course_state, .int course_skipping, .ref a_hist, .int course_changedAt, .int course_acceptedInRow, .int course_passedInGroup])), (a_hist, .inr (1, [.ref a_hr, .ref a_hb, .int hist_length])), (a_hr, .inl (X.2 2, 60, .inl hr_f)), (a_hb, .inl (X.2 0, 60, .inl hb_f))] (va_pl pL (lotE pO pZ pF pV pT pI pB))) s.heap := hP
  have hl := lv_entry ([.ref a_office, .int p1]) (n := 2) (Nat.le_of_ble_eq_true rfl)
  rw [lg_entry_eq]
  generalize (lg_sl ([.ref a_office, .int p1]) ++ List.replicate (2 - (lg_sl ([.ref a_office, .int p1])).length) Slot.unset).toArray = ls at hl ⊢
  have hl : lv_has ls 2 [(0, .ref a_office), (1, .int p1)] := hl
  have B36 : (∀ (x1 : Int32) (y1 : Int32) (y2 : Int32) (ma_f : Nat → Int32) (course_state : Int32) (course_skipping : Int32) (course_changedAt : Int32) (course_acceptedInRow : Int32) (course_passedInGroup : Int32) (hist_length : Int32) (hr_f : Nat → Int32) (hb_f : Nat → Int32) (pV : Nat → Int32) (pT : Nat → Int32) (pI : Nat → Int32) (pB : Nat → Int32), fX5_toggleMark_b36 N la_f plans_level plans_quality plans_twice course_steady course_rate pL pO pZ pF x1 y1 y2 ma_f course_state course_skipping course_changedAt course_acceptedInRow course_passedInGroup hist_length hr_f hb_f pV pT pI pB = some (Sum.inr r) → ∀ (H : Heap) (locs : List Loc), va_P X.1 vwCl (HAppend.hAppend (α := va_W) (β := va_W) (γ := va_W) [(a_office, .inr (4, [.ref a_la, .ref a_ma, .ref a_plans, .ref a_course, .int office_lotCount])), (a_la, .inl (X.2 3, 200, .inr (.inr (.inr (.inr la_f))))), (a_ma, .inl (X.2 2, 200, .inl ma_f)), (a_plans, .inr (3, [.int plans_level, .int plans_quality, .int plans_twice])), (a_course, .inr (0, [.int course_steady, .int course_rate, .int course_state, .int course_skipping, .ref a_hist, .int course_changedAt, .int course_acceptedInRow, .int course_passedInGroup])), (a_hist, .inr (1, [.ref a_hr, .ref a_hb, .int hist_length])), (a_hr, .inl (X.2 2, 60, .inl hr_f)), (a_hb, .inl (X.2 0, 60, .inl hb_f))] (va_pl pL (lotE pO pZ pF pV pT pI pB))) H → va_D A (HAppend.hAppend (α := va_W) (β := va_W) (γ := va_W) [(a_office, .inr (4, [.ref a_la, .ref a_ma, .ref a_plans, .ref a_course, .int office_lotCount])), (a_la, .inl (X.2 3, 200, .inr (.inr (.inr (.inr la_f))))), (a_ma, .inl (X.2 2, 200, .inl ma_f)), (a_plans, .inr (3, [.int plans_level, .int plans_quality, .int plans_twice])), (a_course, .inr (0, [.int course_steady, .int course_rate, .int course_state, .int course_skipping, .ref a_hist, .int course_changedAt, .int course_acceptedInRow, .int course_passedInGroup])), (a_hist, .inr (1, [.ref a_hr, .ref a_hb, .int hist_length])), (a_hr, .inl (X.2 2, 60, .inl hr_f)), (a_hb, .inl (X.2 0, 60, .inl hb_f))] (va_pl pL (lotE pO pZ pF pV pT pI pB))) → va_S A s.heap H locs → ∀ ls : Array Slot, lv_has ls 2 [(0, .ref a_office), (1, .int x1)] → W p l e (headSpec wsX5_toggleMark rnX5_toggleMark).room s m (([.ref a_office, .int p1] : List Value).toArray) below meth c H locs 0 0 (MQ below (va_Qi (fun (v : Int32) (_ : Unit) => v = r.1) (fun _ t => wPost X (HAppend.hAppend (α := va_W) (β := va_W) (γ := va_W) [(a_office, .inr (4, [.ref a_la, .ref a_ma, .ref a_plans, .ref a_course, .int office_lotCount])), (a_la, .inl (X.2 3, 200, .inr (.inr (.inr (.inr la_f))))), (a_ma, .inl (X.2 2, 200, .inl r.2.1)), (a_plans, .inr (3, [.int plans_level, .int plans_quality, .int plans_twice])), (a_course, .inr (0, [.int course_steady, .int course_rate, .int r.2.2.1, .int r.2.2.2.1, .ref a_hist, .int r.2.2.2.2.1, .int r.2.2.2.2.2.1, .int r.2.2.2.2.2.2.1])), (a_hist, .inr (1, [.ref a_hr, .ref a_hb, .int r.2.2.2.2.2.2.2.1])), (a_hr, .inl (X.2 2, 60, .inl r.2.2.2.2.2.2.2.2.1)), (a_hb, .inl (X.2 0, 60, .inl r.2.2.2.2.2.2.2.2.2.1))] (va_pl pL (lotE pO pZ pF r.2.2.2.2.2.2.2.2.2.2.1 r.2.2.2.2.2.2.2.2.2.2.2.1 r.2.2.2.2.2.2.2.2.2.2.2.2.1 r.2.2.2.2.2.2.2.2.2.2.2.2.2))) t) A) ([.ref a_office, .int p1] : List Value).toArray s 0 0 A) (F0 m 36 ls [.int y2, .int y1, .ref a_ma])) := by
    intro x1 y1 y2 ma_f course_state course_skipping course_changedAt course_acceptedInRow course_passedInGroup hist_length hr_f hb_f pV pT pI pB hf H locs hP hD hS ls hl
    unfold fX5_toggleMark_b36 at hf
    obtain ⟨g_1, hf⟩ := ite_some hf
    refine va_zast hx hb hK hP hD hS 2 2 rfl rfl (i := y1) g_1 dX5_toggleMark_36 (fun H locs hP hD hS => ?_)
    have hP : va_P X.1 vwCl (HAppend.hAppend (α := va_W) (β := va_W) (γ := va_W) [(a_office, .inr (4, [.ref a_la, .ref a_ma, .ref a_plans, .ref a_course, .int office_lotCount])), (a_la, .inl (X.2 3, 200, .inr (.inr (.inr (.inr la_f))))), (a_ma, .inl (X.2 2, 200, .inl (upd ma_f y1.toNatClampNeg (vp_nar .boolean y2)))), (a_plans, .inr (3, [.int plans_level, .int plans_quality, .int plans_twice])), (a_course, .inr (0, [.int course_steady, .int course_rate, .int course_state, .int course_skipping, .ref a_hist, .int course_changedAt, .int course_acceptedInRow, .int course_passedInGroup])), (a_hist, .inr (1, [.ref a_hr, .ref a_hb, .int hist_length])), (a_hr, .inl (X.2 2, 60, .inl hr_f)), (a_hb, .inl (X.2 0, 60, .inl hb_f))] (va_pl pL (lotE pO pZ pF pV pT pI pB))) H := hP
    have hD : va_D A (HAppend.hAppend (α := va_W) (β := va_W) (γ := va_W) [(a_office, .inr (4, [.ref a_la, .ref a_ma, .ref a_plans, .ref a_course, .int office_lotCount])), (a_la, .inl (X.2 3, 200, .inr (.inr (.inr (.inr la_f))))), (a_ma, .inl (X.2 2, 200, .inl (upd ma_f y1.toNatClampNeg (vp_nar .boolean y2)))), (a_plans, .inr (3, [.int plans_level, .int plans_quality, .int plans_twice])), (a_course, .inr (0, [.int course_steady, .int course_rate, .int course_state, .int course_skipping, .ref a_hist, .int course_changedAt, .int course_acceptedInRow, .int course_passedInGroup])), (a_hist, .inr (1, [.ref a_hr, .ref a_hb, .int hist_length])), (a_hr, .inl (X.2 2, 60, .inl hr_f)), (a_hb, .inl (X.2 0, 60, .inl hb_f))] (va_pl pL (lotE pO pZ pF pV pT pI pB))) := hD
    refine lv_aload_n hx hb dX5_toggleMark_37 rfl (lv_at hl 0 rfl) ?_
    obtain ⟨r_2, e_3, hf⟩ := bind_some hf
    have hFc := va_freeA hD hS hA
    refine va_callv (va_runV (As := []) (rest := []) ⟨hx, hb, hml, hown, hts⟩ (mX5_judgeAll l X N a_office a_la a_ma a_plans a_course a_hist a_hr a_hb H.size office_lotCount la_f (upd ma_f y1.toNatClampNeg (vp_nar .boolean y2)) plans_level plans_quality plans_twice course_steady course_rate course_state course_skipping course_changedAt course_acceptedInRow course_passedInGroup hist_length hr_f hb_f pL pO pZ pF pV pT pI pB r_2 e_3) (cwV 0 hts gX5_toggleMark_X5_judgeAll rfl rfl rfl (by decide +kernel) ⟨Nat.le_of_ble_eq_true rfl, Nat.le_of_ble_eq_true rfl⟩) (gPreV hK hP hD hSt hS hFc 0 rfl rfl) rfl rfl hl.1 rfl (lv_room (Nat.le_of_ble_eq_true rfl)) dX5_toggleMark_38 ⟨Nat.le_of_ble_eq_true rfl, Nat.le_of_ble_eq_true rfl⟩) hS (fun q _ h => hFc q h) hFc (fun u t H1 locs ht hvm hw hB hz1 hk1 hS => ?_)
    have hP : va_P X.1 vwCl (HAppend.hAppend (α := va_W) (β := va_W) (γ := va_W) [(a_office, .inr (4, [.ref a_la, .ref a_ma, .ref a_plans, .ref a_course, .int office_lotCount])), (a_la, .inl (X.2 3, 200, .inr (.inr (.inr (.inr la_f))))), (a_ma, .inl (X.2 2, 200, .inl (upd ma_f y1.toNatClampNeg (vp_nar .boolean y2)))), (a_plans, .inr (3, [.int plans_level, .int plans_quality, .int plans_twice])), (a_course, .inr (0, [.int course_steady, .int course_rate, .int r_2.1, .int r_2.2.1, .ref a_hist, .int r_2.2.2.1, .int r_2.2.2.2.1, .int r_2.2.2.2.2.1])), (a_hist, .inr (1, [.ref a_hr, .ref a_hb, .int r_2.2.2.2.2.2.1])), (a_hr, .inl (X.2 2, 60, .inl r_2.2.2.2.2.2.2.1)), (a_hb, .inl (X.2 0, 60, .inl r_2.2.2.2.2.2.2.2.1))] (va_pl pL (lotE pO pZ pF r_2.2.2.2.2.2.2.2.2.1 r_2.2.2.2.2.2.2.2.2.2.1 r_2.2.2.2.2.2.2.2.2.2.2.1 r_2.2.2.2.2.2.2.2.2.2.2.2))) H1 := by have h9 := hB.1; rw [ht] at h9; exact h9
    have hD : va_D A (HAppend.hAppend (α := va_W) (β := va_W) (γ := va_W) [(a_office, .inr (4, [.ref a_la, .ref a_ma, .ref a_plans, .ref a_course, .int office_lotCount])), (a_la, .inl (X.2 3, 200, .inr (.inr (.inr (.inr la_f))))), (a_ma, .inl (X.2 2, 200, .inl (upd ma_f y1.toNatClampNeg (vp_nar .boolean y2)))), (a_plans, .inr (3, [.int plans_level, .int plans_quality, .int plans_twice])), (a_course, .inr (0, [.int course_steady, .int course_rate, .int r_2.1, .int r_2.2.1, .ref a_hist, .int r_2.2.2.1, .int r_2.2.2.2.1, .int r_2.2.2.2.2.1])), (a_hist, .inr (1, [.ref a_hr, .ref a_hb, .int r_2.2.2.2.2.2.1])), (a_hr, .inl (X.2 2, 60, .inl r_2.2.2.2.2.2.2.1)), (a_hb, .inl (X.2 0, 60, .inl r_2.2.2.2.2.2.2.2.1))] (va_pl pL (lotE pO pZ pF r_2.2.2.2.2.2.2.2.2.1 r_2.2.2.2.2.2.2.2.2.2.1 r_2.2.2.2.2.2.2.2.2.2.2.1 r_2.2.2.2.2.2.2.2.2.2.2.2))) := hD.addr (addrP rfl)
    generalize H1 = H at hP hS ⊢
    refine lv_aload_n hx hb dX5_toggleMark_41 rfl (lv_at hl 0 rfl) ?_
    refine va_get (D := X.1) (ci := 4) (v := .ref a_ma) (C := RX5) (T := TX5) (N := 5) hx hb hts iwX5_toggleMark_X5 hown hK hP 0 rfl rfl 1 (by decide) (hts _ lkX5_toggleMark_3) (fun _ h9 => h9) rfl dX5_toggleMark_42 ?_
    refine lv_iload_n hx hb dX5_toggleMark_45 rfl (lv_at hl 1 rfl) ?_
    obtain ⟨g_4, hf⟩ := ite_some hf
    refine va_zald hx hb hK hP 2 2 rfl rfl (i := x1) g_4 dX5_toggleMark_46 ?_
    obtain ⟨g_5, hf⟩ := ite_some hf
    obtain rfl := Sum.inr.inj (Option.some.inj hf)
    exact W.zret hx hb hr (zb_n g_5) (fun t ht hW => ⟨⟨_, (), rfl, rfl, by rw [ht]; exact hP, va_K.moved hW.alike hK⟩, hS.F ht⟩) hS.2.2 dX5_toggleMark_47
  have hf := hf0
  unfold fX5_toggleMark at hf
  obtain ⟨H, hHe⟩ : ∃ z, z = s.heap := ⟨_, rfl⟩
  have hP : va_P X.1 vwCl (HAppend.hAppend (α := va_W) (β := va_W) (γ := va_W) [(a_office, .inr (4, [.ref a_la, .ref a_ma, .ref a_plans, .ref a_course, .int office_lotCount])), (a_la, .inl (X.2 3, 200, .inr (.inr (.inr (.inr la_f))))), (a_ma, .inl (X.2 2, 200, .inl ma_f)), (a_plans, .inr (3, [.int plans_level, .int plans_quality, .int plans_twice])), (a_course, .inr (0, [.int course_steady, .int course_rate, .int course_state, .int course_skipping, .ref a_hist, .int course_changedAt, .int course_acceptedInRow, .int course_passedInGroup])), (a_hist, .inr (1, [.ref a_hr, .ref a_hb, .int hist_length])), (a_hr, .inl (X.2 2, 60, .inl hr_f)), (a_hb, .inl (X.2 0, 60, .inl hb_f))] (va_pl pL (lotE pO pZ pF pV pT pI pB))) H := by rw [hHe]; exact hP
  have hS : va_S A s.heap H [] := by rw [hHe]; exact va_S.rf
  rw [← hHe]
  obtain ⟨locs, hLo⟩ : ∃ z : List Loc, z = [] := ⟨_, rfl⟩
  rw [← hLo] at hS ⊢
  refine lv_iload_n hx hb dX5_toggleMark_0 rfl (lv_at hl 1 rfl) ?_
  obtain ⟨r_6, e_7, hf⟩ := bind_some hf
  refine vp_callSi (W.runS (As := [.int p1]) (rest := []) ⟨hx, hb, hml, hown, hts⟩ (mX5_isOrder l X N p1 r_6 e_7) (va_cwS 1 hts gX5_toggleMark_X5_isOrder rfl rfl rfl (by decide +kernel) ⟨Nat.le_of_ble_eq_true rfl, Nat.le_of_ble_eq_true rfl⟩) (rPreS hK hP hSt hS [] rfl) rfl rfl hl.1 rfl (lv_room (Nat.le_of_ble_eq_true rfl)) dX5_toggleMark_1 ⟨Nat.zero_le _, Nat.zero_le _⟩) (fun v9 e9 => ?_)
  rw [e9]
  refine lv_if_ne (tgt := 17) hx hb dX5_toggleMark_4 (by decide) (fun c_8 => ?_) (fun c_8 => ?_)
  · rw [if_neg c_8] at hf
    refine lv_aload_n hx hb dX5_toggleMark_17 rfl (lv_at hl 0 rfl) ?_
    refine va_get (D := X.1) (ci := 4) (v := .ref a_ma) (C := RX5) (T := TX5) (N := 5) hx hb hts iwX5_toggleMark_X5 hown hK hP 0 rfl rfl 1 (by decide) (hts _ lkX5_toggleMark_3) (fun _ h9 => h9) rfl dX5_toggleMark_18 ?_
    refine lv_iload_n hx hb dX5_toggleMark_21 rfl (lv_at hl 1 rfl) ?_
    refine lv_aload_n hx hb dX5_toggleMark_22 rfl (lv_at hl 0 rfl) ?_
    refine va_get (D := X.1) (ci := 4) (v := .ref a_ma) (C := RX5) (T := TX5) (N := 5) hx hb hts iwX5_toggleMark_X5 hown hK hP 0 rfl rfl 1 (by decide) (hts _ lkX5_toggleMark_3) (fun _ h9 => h9) rfl dX5_toggleMark_23 ?_
    refine lv_iload_n hx hb dX5_toggleMark_26 rfl (lv_at hl 1 rfl) ?_
    obtain ⟨g_9, hf⟩ := ite_some hf
    refine va_zald hx hb hK hP 2 2 rfl rfl (i := p1) g_9 dX5_toggleMark_27 ?_
    refine lv_if_ne (tgt := 35) hx hb dX5_toggleMark_28 (by decide) (fun c_10 => ?_) (fun c_10 => ?_)
    · rw [if_neg c_10] at hf
      refine lv_iconst (v := 0) hx hb dX5_toggleMark_35 (by decide) ?_
      exact B36 p1 p1 0 ma_f course_state course_skipping course_changedAt course_acceptedInRow course_passedInGroup hist_length hr_f hb_f pV pT pI pB hf H locs hP hD hS ls (lv_sub hl [0, 1] rfl)
    · rw [if_pos c_10] at hf
      refine lv_iconst (v := 1) hx hb dX5_toggleMark_31 (by decide) ?_
      refine lv_goto (tgt := 36) hx hb dX5_toggleMark_32 (by decide) ?_
      exact B36 p1 p1 1 ma_f course_state course_skipping course_changedAt course_acceptedInRow course_passedInGroup hist_length hr_f hb_f pV pT pI pB hf H locs hP hD hS ls (lv_sub hl [0, 1] rfl)
  · rw [if_pos c_8] at hf
    exact absurd (Option.some.inj hf) (by simp)
def rnX5_correct : Room := { frames := 6, cells := 0, slots := 0, locals := 141 }
set_option maxHeartbeats 4000000 in
set_option maxRecDepth 100000 in
theorem nX5_correct (l : Launch) (X : cxT) (N : Nat) (a_office a_la a_ma a_plans a_course a_hist a_hr a_hb : Nat) (sz : Nat) (office_lotCount : Int32) (la_f : Nat → Option Nat) (ma_f : Nat → Int32) (plans_level : Int32) (plans_quality : Int32) (plans_twice : Int32) (course_steady : Int32) (course_rate : Int32) (course_state : Int32) (course_skipping : Int32) (course_changedAt : Int32) (course_acceptedInRow : Int32) (course_passedInGroup : Int32) (hist_length : Int32) (hr_f : Nat → Int32) (hb_f : Nat → Int32) (pL : List Nat) (pO : Nat → Int32) (pZ : Nat → Int32) (pF : Nat → Int64) (pV : Nat → Int32) (pT : Nat → Int32) (pI : Nat → Int32) (pB : Nat → Int32) (p1 : Int32) (p2 : Int64) (r : Int64 × Int32 × Int32 × Int32 × Int32 × Int32 × Int32 × (Nat → Int32) × (Nat → Int32) × (Nat → Int64) × (Nat → Int32) × (Nat → Int32) × (Nat → Int32) × (Nat → Int32)) (hf0 : fX5_correct N p1 p2 la_f ma_f plans_level plans_quality plans_twice course_steady course_rate course_state course_skipping course_changedAt course_acceptedInRow course_passedInGroup hist_length hr_f hb_f pL pO pZ pF pV pT pI pB = some (Sum.inr r)) : Met l yX5_correct wsX5_correct rnX5_correct (wPre X sz (HAppend.hAppend (α := va_W) (β := va_W) (γ := va_W) [(a_office, .inr (4, [.ref a_la, .ref a_ma, .ref a_plans, .ref a_course, .int office_lotCount])), (a_la, .inl (X.2 3, 200, .inr (.inr (.inr (.inr la_f))))), (a_ma, .inl (X.2 2, 200, .inl ma_f)), (a_plans, .inr (3, [.int plans_level, .int plans_quality, .int plans_twice])), (a_course, .inr (0, [.int course_steady, .int course_rate, .int course_state, .int course_skipping, .ref a_hist, .int course_changedAt, .int course_acceptedInRow, .int course_passedInGroup])), (a_hist, .inr (1, [.ref a_hr, .ref a_hb, .int hist_length])), (a_hr, .inl (X.2 2, 60, .inl hr_f)), (a_hb, .inl (X.2 0, 60, .inl hb_f))] (va_pl pL (lotE pO pZ pF pV pT pI pB))) [.ref a_office, .int p1, .long p2]) (va_Ql (fun (v : Int64) (_ : Unit) => v = r.1) (fun _ t => wPost X (HAppend.hAppend (α := va_W) (β := va_W) (γ := va_W) [(a_office, .inr (4, [.ref a_la, .ref a_ma, .ref a_plans, .ref a_course, .int office_lotCount])), (a_la, .inl (X.2 3, 200, .inr (.inr (.inr (.inr la_f))))), (a_ma, .inl (X.2 2, 200, .inl ma_f)), (a_plans, .inr (3, [.int plans_level, .int plans_quality, .int plans_twice])), (a_course, .inr (0, [.int course_steady, .int course_rate, .int r.2.1, .int r.2.2.1, .ref a_hist, .int r.2.2.2.1, .int r.2.2.2.2.1, .int r.2.2.2.2.2.1])), (a_hist, .inr (1, [.ref a_hr, .ref a_hb, .int r.2.2.2.2.2.2.1])), (a_hr, .inl (X.2 2, 60, .inl r.2.2.2.2.2.2.2.1)), (a_hb, .inl (X.2 0, 60, .inl r.2.2.2.2.2.2.2.2.1))] (va_pl pL (lotE pO pZ r.2.2.2.2.2.2.2.2.2.1 r.2.2.2.2.2.2.2.2.2.2.1 r.2.2.2.2.2.2.2.2.2.2.2.1 r.2.2.2.2.2.2.2.2.2.2.2.2.1 r.2.2.2.2.2.2.2.2.2.2.2.2.2))) t) (va_A (HAppend.hAppend (α := va_W) (β := va_W) (γ := va_W) [(a_office, .inr (4, [.ref a_la, .ref a_ma, .ref a_plans, .ref a_course, .int office_lotCount])), (a_la, .inl (X.2 3, 200, .inr (.inr (.inr (.inr la_f))))), (a_ma, .inl (X.2 2, 200, .inl ma_f)), (a_plans, .inr (3, [.int plans_level, .int plans_quality, .int plans_twice])), (a_course, .inr (0, [.int course_steady, .int course_rate, .int course_state, .int course_skipping, .ref a_hist, .int course_changedAt, .int course_acceptedInRow, .int course_passedInGroup])), (a_hist, .inr (1, [.ref a_hr, .ref a_hb, .int hist_length])), (a_hr, .inl (X.2 2, 60, .inl hr_f)), (a_hb, .inl (X.2 0, 60, .inl hb_f))] (va_pl pL (lotE pO pZ pF pV pT pI pB))) sz)) 0 0 (va_A (HAppend.hAppend (α := va_W) (β := va_W) (γ := va_W) [(a_office, .inr (4, [.ref a_la, .ref a_ma, .ref a_plans, .ref a_course, .int office_lotCount])), (a_la, .inl (X.2 3, 200, .inr (.inr (.inr (.inr la_f))))), (a_ma, .inl (X.2 2, 200, .inl ma_f)), (a_plans, .inr (3, [.int plans_level, .int plans_quality, .int plans_twice])), (a_course, .inr (0, [.int course_steady, .int course_rate, .int course_state, .int course_skipping, .ref a_hist, .int course_changedAt, .int course_acceptedInRow, .int course_passedInGroup])), (a_hist, .inr (1, [.ref a_hr, .ref a_hb, .int hist_length])), (a_hr, .inl (X.2 2, 60, .inl hr_f)), (a_hb, .inl (X.2 0, 60, .inl hb_f))] (va_pl pL (lotE pO pZ pF pV pT pI pB))) sz) := by
  refine Met.ofW (cc := cX5_correct) (maxL := 7) (ret := (some .long)) (by decide) rfl ?_
  intro p e s m args below meth c s₁ B hml hv
  obtain ⟨rfl, hsz, hP, hK, hD0, hSt⟩ := hv
  have hx := B.exec
  have hb := B.bytes
  have hr := B.returns
  have hts := atoms_spec (ws := wsX5_correct) B.pre
  have hown : s.vm.findClass RX5 = some m.cls := findClass_of_methodNamed B.named
  have hlocks := B.notSynchronized
  subst hsz
  have hD := hD0.self (sz := s.heap.size)
  generalize hAe : va_A (HAppend.hAppend (α := va_W) (β := va_W) (γ := va_W) [(a_office, .inr (4, [.ref a_la, .ref a_ma, .ref a_plans, .ref a_course, .int office_lotCount])), (a_la, .inl (X.2 3, 200, .inr (.inr (.inr (.inr la_f))))), (a_ma, .inl (X.2 2, 200, .inl ma_f)), (a_plans, .inr (3, [.int plans_level, .int plans_quality, .int plans_twice])), (a_course, .inr (0, [.int course_steady, .int course_rate, .int course_state, .int course_skipping, .ref a_hist, .int course_changedAt, .int course_acceptedInRow, .int course_passedInGroup])), (a_hist, .inr (1, [.ref a_hr, .ref a_hb, .int hist_length])), (a_hr, .inl (X.2 2, 60, .inl hr_f)), (a_hb, .inl (X.2 0, 60, .inl hb_f))] (va_pl pL (lotE pO pZ pF pV pT pI pB))) s.heap.size = A at hD hSt ⊢
  have hA : ∀ q : Nat, s.heap.size ≤ q → A q := fun q h => by rw [← hAe]; exact Or.inr h
  have hS : va_S A s.heap s.heap [] := va_S.rf
  have hP : va_P X.1 vwCl (HAppend.hAppend (α := va_W) (β := va_W) (γ := va_W) [(a_office, .inr (4, [.ref a_la, .ref a_ma, .ref a_plans, .ref a_course, .int office_lotCount])), (a_la, .inl (X.2 3, 200, .inr (.inr (.inr (.inr la_f))))), (a_ma, .inl (X.2 2, 200, .inl ma_f)), (a_plans, .inr (3, [.int plans_level, .int plans_quality, .int plans_twice])), (a_course, .inr (0, [.int course_steady, .int course_rate, .int course_state, .int course_skipping, .ref a_hist, .int course_changedAt, .int course_acceptedInRow, .int course_passedInGroup])), (a_hist, .inr (1, [.ref a_hr, .ref a_hb, .int hist_length])), (a_hr, .inl (X.2 2, 60, .inl hr_f)), (a_hb, .inl (X.2 0, 60, .inl hb_f))] (va_pl pL (lotE pO pZ pF pV pT pI pB))) s.heap := hP
  have hl := lv_entry ([.ref a_office, .int p1, .long p2]) (n := 7) (Nat.le_of_ble_eq_true rfl)
  rw [lg_entry_eq]
  generalize (lg_sl ([.ref a_office, .int p1, .long p2]) ++ List.replicate (7 - (lg_sl ([.ref a_office, .int p1, .long p2])).length) Slot.unset).toArray = ls at hl ⊢
  have hl : lv_has ls 7 [(0, .ref a_office), (1, .int p1), (2, .long p2)] := hl
  have hf := hf0
  unfold fX5_correct at hf
  obtain ⟨H, hHe⟩ : ∃ z, z = s.heap := ⟨_, rfl⟩
  have hP : va_P X.1 vwCl (HAppend.hAppend (α := va_W) (β := va_W) (γ := va_W) [(a_office, .inr (4, [.ref a_la, .ref a_ma, .ref a_plans, .ref a_course, .int office_lotCount])), (a_la, .inl (X.2 3, 200, .inr (.inr (.inr (.inr la_f))))), (a_ma, .inl (X.2 2, 200, .inl ma_f)), (a_plans, .inr (3, [.int plans_level, .int plans_quality, .int plans_twice])), (a_course, .inr (0, [.int course_steady, .int course_rate, .int course_state, .int course_skipping, .ref a_hist, .int course_changedAt, .int course_acceptedInRow, .int course_passedInGroup])), (a_hist, .inr (1, [.ref a_hr, .ref a_hb, .int hist_length])), (a_hr, .inl (X.2 2, 60, .inl hr_f)), (a_hb, .inl (X.2 0, 60, .inl hb_f))] (va_pl pL (lotE pO pZ pF pV pT pI pB))) H := by rw [hHe]; exact hP
  have hS : va_S A s.heap H [] := by rw [hHe]; exact va_S.rf
  rw [← hHe]
  obtain ⟨locs, hLo⟩ : ∃ z : List Loc, z = [] := ⟨_, rfl⟩
  rw [← hLo] at hS ⊢
  refine lv_lload_n hx hb dX5_correct_0 rfl (lv_at hl 2 rfl) ?_
  obtain ⟨r_1, e_2, hf⟩ := bind_some hf
  refine vp_callSi (W.runS (As := [.long p2]) (rest := []) ⟨hx, hb, hml, hown, hts⟩ (mX5_isFindings l X N p2 r_1 e_2) (va_cwS 1 hts gX5_correct_X5_isFindings rfl rfl rfl (by decide +kernel) ⟨Nat.le_of_ble_eq_true rfl, Nat.le_of_ble_eq_true rfl⟩) (rPreS hK hP hSt hS [] rfl) rfl rfl hl.1 rfl (lv_room (Nat.le_of_ble_eq_true rfl)) dX5_correct_1 ⟨Nat.zero_le _, Nat.zero_le _⟩) (fun v9 e9 => ?_)
  rw [e9]
  refine lv_if_ne (tgt := 17) hx hb dX5_correct_4 (by decide) (fun c_3 => ?_) (fun c_3 => ?_)
  · rw [if_neg c_3] at hf
    refine lv_aload_n hx hb dX5_correct_17 rfl (lv_at hl 0 rfl) ?_
    refine lv_iload_n hx hb dX5_correct_18 rfl (lv_at hl 1 rfl) ?_
    obtain ⟨r_4, e_5, hf⟩ := bind_some hf
    refine va_csq (W.runV (As := [.int p1]) (rest := []) ⟨hx, hb, hml, hown, hts⟩ (mX5_findLot l X N a_office a_la a_ma a_plans a_course a_hist a_hr a_hb office_lotCount la_f ma_f plans_level plans_quality plans_twice course_steady course_rate course_state course_skipping course_changedAt course_acceptedInRow course_passedInGroup hist_length hr_f hb_f pL pO pZ pF pV pT pI pB p1 r_4 e_5) (cwV 1 hts gX5_correct_X5_findLot rfl rfl rfl (by decide +kernel) ⟨Nat.le_of_ble_eq_true rfl, Nat.le_of_ble_eq_true rfl⟩) (oPreV hK hP hSt hS 0 rfl rfl) rfl rfl hl.1 rfl (lv_room (Nat.le_of_ble_eq_true rfl)) dX5_correct_19 ⟨Nat.zero_le _, Nat.zero_le _⟩) (fun v9 e9 => ?_)
    rw [e9]
    rcases r_4 with _ | a_6
    · try dsimp only at hf
      show W _ _ _ _ _ _ _ _ _ _ _ _ _ _ _ (F0 m 22 ls (.null :: _))
      refine lv_astoreN (lv' := [(4, .null), (0, .ref a_office), (1, .int p1), (2, .long p2)]) hx hb dX5_correct_22 hl (by decide) rfl (fun ls hl => ?_)
      refine lv_aloadN hx hb dX5_correct_24 (lv_at hl 0 rfl) ?_
      refine lv_ifnonnullN hx hb dX5_correct_26 ?_
      exact absurd (Option.some.inj hf) (by simp)
    · try dsimp only at hf
      show W _ _ _ _ _ _ _ _ _ _ _ _ _ _ _ (F0 m 22 ls (.ref a_6 :: _))
      refine lv_astore (lv' := [(4, .ref a_6), (0, .ref a_office), (1, .int p1), (2, .long p2)]) hx hb dX5_correct_22 hl (by decide) rfl (fun ls hl => ?_)
      refine lv_aload hx hb dX5_correct_24 (lv_at hl 0 rfl) ?_
      refine lv_ifnonnull (tgt := 39) hx hb dX5_correct_26 (by decide) ?_
      refine lv_aload hx hb dX5_correct_39 (lv_at hl 0 rfl) ?_
      obtain ⟨g_7, hf⟩ := ite_some hf
      obtain ⟨k_8, hk_8⟩ := va_pl_get (X := [(a_office, .inr (4, [.ref a_la, .ref a_ma, .ref a_plans, .ref a_course, .int office_lotCount])), (a_la, .inl (X.2 3, 200, .inr (.inr (.inr (.inr la_f))))), (a_ma, .inl (X.2 2, 200, .inl ma_f)), (a_plans, .inr (3, [.int plans_level, .int plans_quality, .int plans_twice])), (a_course, .inr (0, [.int course_steady, .int course_rate, .int course_state, .int course_skipping, .ref a_hist, .int course_changedAt, .int course_acceptedInRow, .int course_passedInGroup])), (a_hist, .inr (1, [.ref a_hr, .ref a_hb, .int hist_length])), (a_hr, .inl (X.2 2, 60, .inl hr_f)), (a_hb, .inl (X.2 0, 60, .inl hb_f))]) (f := (lotE pO pZ pF pV pT pI pB)) g_7
      refine va_get (D := X.1) (ci := 2) (v := .long (pF a_6)) (C := RX3) (T := TX3) (N := 7) hx hb hts iwX5_correct_X3 hown hK hP k_8 hk_8 rfl 2 (by decide) (hts _ lkX5_correct_5) (fun _ h9 => h9) rfl dX5_correct_41 ?_
      refine lv_lstore (lv' := [(5, .long (pF a_6)), (4, .ref a_6), (0, .ref a_office), (1, .int p1), (2, .long p2)]) hx hb dX5_correct_44 hl (by decide) rfl (fun ls hl => ?_)
      refine lv_aload hx hb dX5_correct_46 (lv_at hl 1 rfl) ?_
      refine lv_lload_n hx hb dX5_correct_48 rfl (lv_at hl 4 rfl) ?_
      obtain ⟨g_9, hf⟩ := ite_some hf
      obtain ⟨k_10, hk_10⟩ := va_pl_get (X := [(a_office, .inr (4, [.ref a_la, .ref a_ma, .ref a_plans, .ref a_course, .int office_lotCount])), (a_la, .inl (X.2 3, 200, .inr (.inr (.inr (.inr la_f))))), (a_ma, .inl (X.2 2, 200, .inl ma_f)), (a_plans, .inr (3, [.int plans_level, .int plans_quality, .int plans_twice])), (a_course, .inr (0, [.int course_steady, .int course_rate, .int course_state, .int course_skipping, .ref a_hist, .int course_changedAt, .int course_acceptedInRow, .int course_passedInGroup])), (a_hist, .inr (1, [.ref a_hr, .ref a_hb, .int hist_length])), (a_hr, .inl (X.2 2, 60, .inl hr_f)), (a_hb, .inl (X.2 0, 60, .inl hb_f))]) (f := (lotE pO pZ pF pV pT pI pB)) g_9
      have hEk_10 := lotPutF p2 hD g_9 hk_10
      refine va_put (D := X.1) (ci := 2) (v := .long p2) (ty := .long) (C := RX3) (T := TX3) (N := 7) hx hb hts iwX5_correct_X3 tyX3 tyX3_ok nmX3 hown hK hP hD hS k_10 hk_10 rfl 2 (by decide) (hts _ lkX5_correct_5) (fun _ h9 => h9) rfl (by decide +kernel) rfl rfl (Nat.le_of_ble_eq_true rfl) dX5_correct_49 (fun H locs hP hD hS => ?_)
      have hP : va_P X.1 vwCl (HAppend.hAppend (α := va_W) (β := va_W) (γ := va_W) [(a_office, .inr (4, [.ref a_la, .ref a_ma, .ref a_plans, .ref a_course, .int office_lotCount])), (a_la, .inl (X.2 3, 200, .inr (.inr (.inr (.inr la_f))))), (a_ma, .inl (X.2 2, 200, .inl ma_f)), (a_plans, .inr (3, [.int plans_level, .int plans_quality, .int plans_twice])), (a_course, .inr (0, [.int course_steady, .int course_rate, .int course_state, .int course_skipping, .ref a_hist, .int course_changedAt, .int course_acceptedInRow, .int course_passedInGroup])), (a_hist, .inr (1, [.ref a_hr, .ref a_hb, .int hist_length])), (a_hr, .inl (X.2 2, 60, .inl hr_f)), (a_hb, .inl (X.2 0, 60, .inl hb_f))] (va_pl pL (lotE pO pZ (va_up pF a_6 p2) pV pT pI pB))) H := by rw [← hEk_10]; exact hP
      have hD : va_D A (HAppend.hAppend (α := va_W) (β := va_W) (γ := va_W) [(a_office, .inr (4, [.ref a_la, .ref a_ma, .ref a_plans, .ref a_course, .int office_lotCount])), (a_la, .inl (X.2 3, 200, .inr (.inr (.inr (.inr la_f))))), (a_ma, .inl (X.2 2, 200, .inl ma_f)), (a_plans, .inr (3, [.int plans_level, .int plans_quality, .int plans_twice])), (a_course, .inr (0, [.int course_steady, .int course_rate, .int course_state, .int course_skipping, .ref a_hist, .int course_changedAt, .int course_acceptedInRow, .int course_passedInGroup])), (a_hist, .inr (1, [.ref a_hr, .ref a_hb, .int hist_length])), (a_hr, .inl (X.2 2, 60, .inl hr_f)), (a_hb, .inl (X.2 0, 60, .inl hb_f))] (va_pl pL (lotE pO pZ (va_up pF a_6 p2) pV pT pI pB))) := by rw [← hEk_10]; exact hD
      refine lv_aload_n hx hb dX5_correct_52 rfl (lv_at hl 2 rfl) ?_
      obtain ⟨r_11, e_12, hf⟩ := bind_some hf
      have hFc := va_freeA hD hS hA
      refine va_callv (va_runV (As := []) (rest := []) ⟨hx, hb, hml, hown, hts⟩ (mX5_judgeAll l X N a_office a_la a_ma a_plans a_course a_hist a_hr a_hb H.size office_lotCount la_f ma_f plans_level plans_quality plans_twice course_steady course_rate course_state course_skipping course_changedAt course_acceptedInRow course_passedInGroup hist_length hr_f hb_f pL pO pZ (va_up pF a_6 p2) pV pT pI pB r_11 e_12) (cwV 0 hts gX5_correct_X5_judgeAll rfl rfl rfl (by decide +kernel) ⟨Nat.le_of_ble_eq_true rfl, Nat.le_of_ble_eq_true rfl⟩) (gPreV hK hP hD hSt hS hFc 0 rfl rfl) rfl rfl hl.1 rfl (lv_room (Nat.le_of_ble_eq_true rfl)) dX5_correct_53 ⟨Nat.le_of_ble_eq_true rfl, Nat.le_of_ble_eq_true rfl⟩) hS (fun q _ h => hFc q h) hFc (fun u t H1 locs ht hvm hw hB hz1 hk1 hS => ?_)
      have hP : va_P X.1 vwCl (HAppend.hAppend (α := va_W) (β := va_W) (γ := va_W) [(a_office, .inr (4, [.ref a_la, .ref a_ma, .ref a_plans, .ref a_course, .int office_lotCount])), (a_la, .inl (X.2 3, 200, .inr (.inr (.inr (.inr la_f))))), (a_ma, .inl (X.2 2, 200, .inl ma_f)), (a_plans, .inr (3, [.int plans_level, .int plans_quality, .int plans_twice])), (a_course, .inr (0, [.int course_steady, .int course_rate, .int r_11.1, .int r_11.2.1, .ref a_hist, .int r_11.2.2.1, .int r_11.2.2.2.1, .int r_11.2.2.2.2.1])), (a_hist, .inr (1, [.ref a_hr, .ref a_hb, .int r_11.2.2.2.2.2.1])), (a_hr, .inl (X.2 2, 60, .inl r_11.2.2.2.2.2.2.1)), (a_hb, .inl (X.2 0, 60, .inl r_11.2.2.2.2.2.2.2.1))] (va_pl pL (lotE pO pZ (va_up pF a_6 p2) r_11.2.2.2.2.2.2.2.2.1 r_11.2.2.2.2.2.2.2.2.2.1 r_11.2.2.2.2.2.2.2.2.2.2.1 r_11.2.2.2.2.2.2.2.2.2.2.2))) H1 := by have h9 := hB.1; rw [ht] at h9; exact h9
      have hD : va_D A (HAppend.hAppend (α := va_W) (β := va_W) (γ := va_W) [(a_office, .inr (4, [.ref a_la, .ref a_ma, .ref a_plans, .ref a_course, .int office_lotCount])), (a_la, .inl (X.2 3, 200, .inr (.inr (.inr (.inr la_f))))), (a_ma, .inl (X.2 2, 200, .inl ma_f)), (a_plans, .inr (3, [.int plans_level, .int plans_quality, .int plans_twice])), (a_course, .inr (0, [.int course_steady, .int course_rate, .int r_11.1, .int r_11.2.1, .ref a_hist, .int r_11.2.2.1, .int r_11.2.2.2.1, .int r_11.2.2.2.2.1])), (a_hist, .inr (1, [.ref a_hr, .ref a_hb, .int r_11.2.2.2.2.2.1])), (a_hr, .inl (X.2 2, 60, .inl r_11.2.2.2.2.2.2.1)), (a_hb, .inl (X.2 0, 60, .inl r_11.2.2.2.2.2.2.2.1))] (va_pl pL (lotE pO pZ (va_up pF a_6 p2) r_11.2.2.2.2.2.2.2.2.1 r_11.2.2.2.2.2.2.2.2.2.1 r_11.2.2.2.2.2.2.2.2.2.2.1 r_11.2.2.2.2.2.2.2.2.2.2.2))) := hD.addr (addrP rfl)
      generalize H1 = H at hP hS ⊢
      refine lv_lload hx hb dX5_correct_56 (lv_at hl 0 rfl) ?_
      obtain rfl := Sum.inr.inj (Option.some.inj hf)
      exact W.lret hx hb hr (fun t ht hW => ⟨⟨_, (), rfl, rfl, by rw [ht]; exact hP, va_K.moved hW.alike hK⟩, hS.F ht⟩) hS.2.2 dX5_correct_58
  · rw [if_pos c_3] at hf
    exact absurd (Option.some.inj hf) (by simp)
def rnX5_strike : Room := { frames := 6, cells := 0, slots := 0, locals := 141 }
set_option maxHeartbeats 4000000 in
set_option maxRecDepth 100000 in
theorem nX5_strike (l : Launch) (X : cxT) (N : Nat) (a_office a_la a_ma a_plans a_course a_hist a_hr a_hb : Nat) (sz : Nat) (office_lotCount : Int32) (la_f : Nat → Option Nat) (ma_f : Nat → Int32) (plans_level : Int32) (plans_quality : Int32) (plans_twice : Int32) (course_steady : Int32) (course_rate : Int32) (course_state : Int32) (course_skipping : Int32) (course_changedAt : Int32) (course_acceptedInRow : Int32) (course_passedInGroup : Int32) (hist_length : Int32) (hr_f : Nat → Int32) (hb_f : Nat → Int32) (pL : List Nat) (pO : Nat → Int32) (pZ : Nat → Int32) (pF : Nat → Int64) (pV : Nat → Int32) (pT : Nat → Int32) (pI : Nat → Int32) (pB : Nat → Int32) (p1 : Int32) (r : Int32 × Int32 × (Nat → Option Nat) × Int32 × Int32 × Int32 × Int32 × Int32 × Int32 × (Nat → Int32) × (Nat → Int32) × (Nat → Int32) × (Nat → Int32) × (Nat → Int32) × (Nat → Int32)) (hf0 : fX5_strike N p1 office_lotCount la_f ma_f plans_level plans_quality plans_twice course_steady course_rate course_state course_skipping course_changedAt course_acceptedInRow course_passedInGroup hist_length hr_f hb_f pL pO pZ pF pV pT pI pB = some (Sum.inr r)) : Met l yX5_strike wsX5_strike rnX5_strike (wPre X sz (HAppend.hAppend (α := va_W) (β := va_W) (γ := va_W) [(a_office, .inr (4, [.ref a_la, .ref a_ma, .ref a_plans, .ref a_course, .int office_lotCount])), (a_la, .inl (X.2 3, 200, .inr (.inr (.inr (.inr la_f))))), (a_ma, .inl (X.2 2, 200, .inl ma_f)), (a_plans, .inr (3, [.int plans_level, .int plans_quality, .int plans_twice])), (a_course, .inr (0, [.int course_steady, .int course_rate, .int course_state, .int course_skipping, .ref a_hist, .int course_changedAt, .int course_acceptedInRow, .int course_passedInGroup])), (a_hist, .inr (1, [.ref a_hr, .ref a_hb, .int hist_length])), (a_hr, .inl (X.2 2, 60, .inl hr_f)), (a_hb, .inl (X.2 0, 60, .inl hb_f))] (va_pl pL (lotE pO pZ pF pV pT pI pB))) [.ref a_office, .int p1]) (va_Qi (fun (v : Int32) (_ : Unit) => v = r.1) (fun _ t => wPost X (HAppend.hAppend (α := va_W) (β := va_W) (γ := va_W) [(a_office, .inr (4, [.ref a_la, .ref a_ma, .ref a_plans, .ref a_course, .int r.2.1])), (a_la, .inl (X.2 3, 200, .inr (.inr (.inr (.inr r.2.2.1))))), (a_ma, .inl (X.2 2, 200, .inl ma_f)), (a_plans, .inr (3, [.int plans_level, .int plans_quality, .int plans_twice])), (a_course, .inr (0, [.int course_steady, .int course_rate, .int r.2.2.2.1, .int r.2.2.2.2.1, .ref a_hist, .int r.2.2.2.2.2.1, .int r.2.2.2.2.2.2.1, .int r.2.2.2.2.2.2.2.1])), (a_hist, .inr (1, [.ref a_hr, .ref a_hb, .int r.2.2.2.2.2.2.2.2.1])), (a_hr, .inl (X.2 2, 60, .inl r.2.2.2.2.2.2.2.2.2.1)), (a_hb, .inl (X.2 0, 60, .inl r.2.2.2.2.2.2.2.2.2.2.1))] (va_pl pL (lotE pO pZ pF r.2.2.2.2.2.2.2.2.2.2.2.1 r.2.2.2.2.2.2.2.2.2.2.2.2.1 r.2.2.2.2.2.2.2.2.2.2.2.2.2.1 r.2.2.2.2.2.2.2.2.2.2.2.2.2.2))) t) (va_A (HAppend.hAppend (α := va_W) (β := va_W) (γ := va_W) [(a_office, .inr (4, [.ref a_la, .ref a_ma, .ref a_plans, .ref a_course, .int office_lotCount])), (a_la, .inl (X.2 3, 200, .inr (.inr (.inr (.inr la_f))))), (a_ma, .inl (X.2 2, 200, .inl ma_f)), (a_plans, .inr (3, [.int plans_level, .int plans_quality, .int plans_twice])), (a_course, .inr (0, [.int course_steady, .int course_rate, .int course_state, .int course_skipping, .ref a_hist, .int course_changedAt, .int course_acceptedInRow, .int course_passedInGroup])), (a_hist, .inr (1, [.ref a_hr, .ref a_hb, .int hist_length])), (a_hr, .inl (X.2 2, 60, .inl hr_f)), (a_hb, .inl (X.2 0, 60, .inl hb_f))] (va_pl pL (lotE pO pZ pF pV pT pI pB))) sz)) 0 0 (va_A (HAppend.hAppend (α := va_W) (β := va_W) (γ := va_W) [(a_office, .inr (4, [.ref a_la, .ref a_ma, .ref a_plans, .ref a_course, .int office_lotCount])), (a_la, .inl (X.2 3, 200, .inr (.inr (.inr (.inr la_f))))), (a_ma, .inl (X.2 2, 200, .inl ma_f)), (a_plans, .inr (3, [.int plans_level, .int plans_quality, .int plans_twice])), (a_course, .inr (0, [.int course_steady, .int course_rate, .int course_state, .int course_skipping, .ref a_hist, .int course_changedAt, .int course_acceptedInRow, .int course_passedInGroup])), (a_hist, .inr (1, [.ref a_hr, .ref a_hb, .int hist_length])), (a_hr, .inl (X.2 2, 60, .inl hr_f)), (a_hb, .inl (X.2 0, 60, .inl hb_f))] (va_pl pL (lotE pO pZ pF pV pT pI pB))) sz) := by
  refine Met.ofW (cc := cX5_strike) (maxL := 2) (ret := (some .int)) (by decide) rfl ?_
  intro p e s m args below meth c s₁ B hml hv
  obtain ⟨rfl, hsz, hP, hK, hD0, hSt⟩ := hv
  have hx := B.exec
  have hb := B.bytes
  have hr := B.returns
  have hts := atoms_spec (ws := wsX5_strike) B.pre
  have hown : s.vm.findClass RX5 = some m.cls := findClass_of_methodNamed B.named
  have hlocks := B.notSynchronized
  subst hsz
  have hD := hD0.self (sz := s.heap.size)
  generalize hAe : va_A (HAppend.hAppend (α := va_W) (β := va_W) (γ := va_W) [(a_office, .inr (4, [.ref a_la, .ref a_ma, .ref a_plans, .ref a_course, .int office_lotCount])), (a_la, .inl (X.2 3, 200, .inr (.inr (.inr (.inr la_f))))), (a_ma, .inl (X.2 2, 200, .inl ma_f)), (a_plans, .inr (3, [.int plans_level, .int plans_quality, .int plans_twice])), (a_course, .inr (0, [.int course_steady, .int course_rate, .int course_state, .int course_skipping, .ref a_hist, .int course_changedAt, .int course_acceptedInRow, .int course_passedInGroup])), (a_hist, .inr (1, [.ref a_hr, .ref a_hb, .int hist_length])), (a_hr, .inl (X.2 2, 60, .inl hr_f)), (a_hb, .inl (X.2 0, 60, .inl hb_f))] (va_pl pL (lotE pO pZ pF pV pT pI pB))) s.heap.size = A at hD hSt ⊢
  have hA : ∀ q : Nat, s.heap.size ≤ q → A q := fun q h => by rw [← hAe]; exact Or.inr h
  have hS : va_S A s.heap s.heap [] := va_S.rf
  have hP : va_P X.1 vwCl (HAppend.hAppend (α := va_W) (β := va_W) (γ := va_W) [(a_office, .inr (4, [.ref a_la, .ref a_ma, .ref a_plans, .ref a_course, .int office_lotCount])), (a_la, .inl (X.2 3, 200, .inr (.inr (.inr (.inr la_f))))), (a_ma, .inl (X.2 2, 200, .inl ma_f)), (a_plans, .inr (3, [.int plans_level, .int plans_quality, .int plans_twice])), (a_course, .inr (0, [.int course_steady, .int course_rate, .int course_state, .int course_skipping, .ref a_hist, .int course_changedAt, .int course_acceptedInRow, .int course_passedInGroup])), (a_hist, .inr (1, [.ref a_hr, .ref a_hb, .int hist_length])), (a_hr, .inl (X.2 2, 60, .inl hr_f)), (a_hb, .inl (X.2 0, 60, .inl hb_f))] (va_pl pL (lotE pO pZ pF pV pT pI pB))) s.heap := hP
  have hl := lv_entry ([.ref a_office, .int p1]) (n := 2) (Nat.le_of_ble_eq_true rfl)
  rw [lg_entry_eq]
  generalize (lg_sl ([.ref a_office, .int p1]) ++ List.replicate (2 - (lg_sl ([.ref a_office, .int p1])).length) Slot.unset).toArray = ls at hl ⊢
  have hl : lv_has ls 2 [(0, .ref a_office), (1, .int p1)] := hl
  have B16 : (∀ (office_lotCount : Int32) (la_f : Nat → Option Nat) (course_state : Int32) (course_skipping : Int32) (course_changedAt : Int32) (course_acceptedInRow : Int32) (course_passedInGroup : Int32) (hist_length : Int32) (hr_f : Nat → Int32) (hb_f : Nat → Int32) (pV : Nat → Int32) (pT : Nat → Int32) (pI : Nat → Int32) (pB : Nat → Int32), fX5_strike_b16 N ma_f plans_level plans_quality plans_twice course_steady course_rate pL pO pZ pF office_lotCount la_f course_state course_skipping course_changedAt course_acceptedInRow course_passedInGroup hist_length hr_f hb_f pV pT pI pB = some (Sum.inr r) → ∀ (H : Heap) (locs : List Loc), va_P X.1 vwCl (HAppend.hAppend (α := va_W) (β := va_W) (γ := va_W) [(a_office, .inr (4, [.ref a_la, .ref a_ma, .ref a_plans, .ref a_course, .int office_lotCount])), (a_la, .inl (X.2 3, 200, .inr (.inr (.inr (.inr la_f))))), (a_ma, .inl (X.2 2, 200, .inl ma_f)), (a_plans, .inr (3, [.int plans_level, .int plans_quality, .int plans_twice])), (a_course, .inr (0, [.int course_steady, .int course_rate, .int course_state, .int course_skipping, .ref a_hist, .int course_changedAt, .int course_acceptedInRow, .int course_passedInGroup])), (a_hist, .inr (1, [.ref a_hr, .ref a_hb, .int hist_length])), (a_hr, .inl (X.2 2, 60, .inl hr_f)), (a_hb, .inl (X.2 0, 60, .inl hb_f))] (va_pl pL (lotE pO pZ pF pV pT pI pB))) H → va_D A (HAppend.hAppend (α := va_W) (β := va_W) (γ := va_W) [(a_office, .inr (4, [.ref a_la, .ref a_ma, .ref a_plans, .ref a_course, .int office_lotCount])), (a_la, .inl (X.2 3, 200, .inr (.inr (.inr (.inr la_f))))), (a_ma, .inl (X.2 2, 200, .inl ma_f)), (a_plans, .inr (3, [.int plans_level, .int plans_quality, .int plans_twice])), (a_course, .inr (0, [.int course_steady, .int course_rate, .int course_state, .int course_skipping, .ref a_hist, .int course_changedAt, .int course_acceptedInRow, .int course_passedInGroup])), (a_hist, .inr (1, [.ref a_hr, .ref a_hb, .int hist_length])), (a_hr, .inl (X.2 2, 60, .inl hr_f)), (a_hb, .inl (X.2 0, 60, .inl hb_f))] (va_pl pL (lotE pO pZ pF pV pT pI pB))) → va_S A s.heap H locs → ∀ ls : Array Slot, lv_has ls 2 [] → W p l e (headSpec wsX5_strike rnX5_strike).room s m (([.ref a_office, .int p1] : List Value).toArray) below meth c H locs 0 0 (MQ below (va_Qi (fun (v : Int32) (_ : Unit) => v = r.1) (fun _ t => wPost X (HAppend.hAppend (α := va_W) (β := va_W) (γ := va_W) [(a_office, .inr (4, [.ref a_la, .ref a_ma, .ref a_plans, .ref a_course, .int r.2.1])), (a_la, .inl (X.2 3, 200, .inr (.inr (.inr (.inr r.2.2.1))))), (a_ma, .inl (X.2 2, 200, .inl ma_f)), (a_plans, .inr (3, [.int plans_level, .int plans_quality, .int plans_twice])), (a_course, .inr (0, [.int course_steady, .int course_rate, .int r.2.2.2.1, .int r.2.2.2.2.1, .ref a_hist, .int r.2.2.2.2.2.1, .int r.2.2.2.2.2.2.1, .int r.2.2.2.2.2.2.2.1])), (a_hist, .inr (1, [.ref a_hr, .ref a_hb, .int r.2.2.2.2.2.2.2.2.1])), (a_hr, .inl (X.2 2, 60, .inl r.2.2.2.2.2.2.2.2.2.1)), (a_hb, .inl (X.2 0, 60, .inl r.2.2.2.2.2.2.2.2.2.2.1))] (va_pl pL (lotE pO pZ pF r.2.2.2.2.2.2.2.2.2.2.2.1 r.2.2.2.2.2.2.2.2.2.2.2.2.1 r.2.2.2.2.2.2.2.2.2.2.2.2.2.1 r.2.2.2.2.2.2.2.2.2.2.2.2.2.2))) t) A) ([.ref a_office, .int p1] : List Value).toArray s 0 0 A) (F0 m 16 ls [])) := by
    intro office_lotCount la_f course_state course_skipping course_changedAt course_acceptedInRow course_passedInGroup hist_length hr_f hb_f pV pT pI pB hf H locs hP hD hS ls hl
    unfold fX5_strike_b16 at hf
    exact absurd (Option.some.inj hf) (by simp)
  have hf := hf0
  unfold fX5_strike at hf
  obtain ⟨H, hHe⟩ : ∃ z, z = s.heap := ⟨_, rfl⟩
  have hP : va_P X.1 vwCl (HAppend.hAppend (α := va_W) (β := va_W) (γ := va_W) [(a_office, .inr (4, [.ref a_la, .ref a_ma, .ref a_plans, .ref a_course, .int office_lotCount])), (a_la, .inl (X.2 3, 200, .inr (.inr (.inr (.inr la_f))))), (a_ma, .inl (X.2 2, 200, .inl ma_f)), (a_plans, .inr (3, [.int plans_level, .int plans_quality, .int plans_twice])), (a_course, .inr (0, [.int course_steady, .int course_rate, .int course_state, .int course_skipping, .ref a_hist, .int course_changedAt, .int course_acceptedInRow, .int course_passedInGroup])), (a_hist, .inr (1, [.ref a_hr, .ref a_hb, .int hist_length])), (a_hr, .inl (X.2 2, 60, .inl hr_f)), (a_hb, .inl (X.2 0, 60, .inl hb_f))] (va_pl pL (lotE pO pZ pF pV pT pI pB))) H := by rw [hHe]; exact hP
  have hS : va_S A s.heap H [] := by rw [hHe]; exact va_S.rf
  rw [← hHe]
  obtain ⟨locs, hLo⟩ : ∃ z : List Loc, z = [] := ⟨_, rfl⟩
  rw [← hLo] at hS ⊢
  refine lv_iload_n hx hb dX5_strike_0 rfl (lv_at hl 1 rfl) ?_
  obtain ⟨r_1, e_2, hf⟩ := bind_some hf
  refine vp_callSi (W.runS (As := [.int p1]) (rest := []) ⟨hx, hb, hml, hown, hts⟩ (mX5_isOrder l X N p1 r_1 e_2) (va_cwS 1 hts gX5_strike_X5_isOrder rfl rfl rfl (by decide +kernel) ⟨Nat.le_of_ble_eq_true rfl, Nat.le_of_ble_eq_true rfl⟩) (rPreS hK hP hSt hS [] rfl) rfl rfl hl.1 rfl (lv_room (Nat.le_of_ble_eq_true rfl)) dX5_strike_1 ⟨Nat.zero_le _, Nat.zero_le _⟩) (fun v9 e9 => ?_)
  rw [e9]
  refine lv_if_eq (tgt := 16) hx hb dX5_strike_4 (by decide) (fun c_3 => ?_) (fun c_3 => ?_)
  · rw [if_pos c_3] at hf
    exact B16 office_lotCount la_f course_state course_skipping course_changedAt course_acceptedInRow course_passedInGroup hist_length hr_f hb_f pV pT pI pB hf H locs hP hD hS ls (lv_sub hl [] rfl)
  · rw [if_neg c_3] at hf
    refine lv_aload_n hx hb dX5_strike_7 rfl (lv_at hl 0 rfl) ?_
    refine va_get (D := X.1) (ci := 4) (v := .ref a_la) (C := RX5) (T := TX5) (N := 5) hx hb hts iwX5_strike_X5 hown hK hP 0 rfl rfl 0 (by decide) (hts _ lkX5_strike_3) (fun _ h9 => h9) rfl dX5_strike_8 ?_
    refine lv_iload_n hx hb dX5_strike_11 rfl (lv_at hl 1 rfl) ?_
    obtain ⟨g_4, hf⟩ := ite_some hf
    refine va_aldq hx hb hK hP 1 3 rfl rfl (i := p1) g_4 dX5_strike_12 ?_
    obtain ⟨o_6, e_7, hf⟩ := bind_some hf
    refine lv_eqq (Option.some.inj e_7) ?_
    rcases o_6 with _ | a_5
    · try dsimp only at hf
      show W _ _ _ _ _ _ _ _ _ _ _ _ _ _ _ (F0 m 13 ls (.null :: _))
      refine lv_ifnonnullN hx hb dX5_strike_13 ?_
      exact B16 office_lotCount la_f course_state course_skipping course_changedAt course_acceptedInRow course_passedInGroup hist_length hr_f hb_f pV pT pI pB hf H locs hP hD hS ls (lv_sub hl [] rfl)
    · try dsimp only at hf
      show W _ _ _ _ _ _ _ _ _ _ _ _ _ _ _ (F0 m 13 ls (.ref a_5 :: _))
      refine lv_ifnonnull (tgt := 26) hx hb dX5_strike_13 (by decide) ?_
      refine lv_aload_n hx hb dX5_strike_26 rfl (lv_at hl 0 rfl) ?_
      refine va_get (D := X.1) (ci := 4) (v := .ref a_la) (C := RX5) (T := TX5) (N := 5) hx hb hts iwX5_strike_X5 hown hK hP 0 rfl rfl 0 (by decide) (hts _ lkX5_strike_3) (fun _ h9 => h9) rfl dX5_strike_27 ?_
      refine lv_iload_n hx hb dX5_strike_30 rfl (lv_at hl 1 rfl) ?_
      refine lv_null hx hb dX5_strike_31 ?_
      obtain ⟨g_8, hf⟩ := ite_some hf
      refine va_astqN hx hb hK hP hD hS 1 3 rfl rfl (i := p1) g_8 dX5_strike_32 (fun H locs hP hD hS => ?_)
      have hP : va_P X.1 vwCl (HAppend.hAppend (α := va_W) (β := va_W) (γ := va_W) [(a_office, .inr (4, [.ref a_la, .ref a_ma, .ref a_plans, .ref a_course, .int office_lotCount])), (a_la, .inl (X.2 3, 200, .inr (.inr (.inr (.inr (va_up la_f p1.toNatClampNeg none)))))), (a_ma, .inl (X.2 2, 200, .inl ma_f)), (a_plans, .inr (3, [.int plans_level, .int plans_quality, .int plans_twice])), (a_course, .inr (0, [.int course_steady, .int course_rate, .int course_state, .int course_skipping, .ref a_hist, .int course_changedAt, .int course_acceptedInRow, .int course_passedInGroup])), (a_hist, .inr (1, [.ref a_hr, .ref a_hb, .int hist_length])), (a_hr, .inl (X.2 2, 60, .inl hr_f)), (a_hb, .inl (X.2 0, 60, .inl hb_f))] (va_pl pL (lotE pO pZ pF pV pT pI pB))) H := hP
      have hD : va_D A (HAppend.hAppend (α := va_W) (β := va_W) (γ := va_W) [(a_office, .inr (4, [.ref a_la, .ref a_ma, .ref a_plans, .ref a_course, .int office_lotCount])), (a_la, .inl (X.2 3, 200, .inr (.inr (.inr (.inr (va_up la_f p1.toNatClampNeg none)))))), (a_ma, .inl (X.2 2, 200, .inl ma_f)), (a_plans, .inr (3, [.int plans_level, .int plans_quality, .int plans_twice])), (a_course, .inr (0, [.int course_steady, .int course_rate, .int course_state, .int course_skipping, .ref a_hist, .int course_changedAt, .int course_acceptedInRow, .int course_passedInGroup])), (a_hist, .inr (1, [.ref a_hr, .ref a_hb, .int hist_length])), (a_hr, .inl (X.2 2, 60, .inl hr_f)), (a_hb, .inl (X.2 0, 60, .inl hb_f))] (va_pl pL (lotE pO pZ pF pV pT pI pB))) := hD
      refine lv_aload_n hx hb dX5_strike_33 rfl (lv_at hl 0 rfl) ?_
      refine lv_dup hx hb dX5_strike_34 rfl ?_
      refine va_get (D := X.1) (ci := 4) (v := .int office_lotCount) (C := RX5) (T := TX5) (N := 5) hx hb hts iwX5_strike_X5 hown hK hP 0 rfl rfl 4 (by decide) (hts _ lkX5_strike_4) (fun _ h9 => h9) rfl dX5_strike_35 ?_
      refine lv_iconst (v := 1) hx hb dX5_strike_38 (by decide) ?_
      refine lv_isub hx hb dX5_strike_39 ?_
      refine va_put (D := X.1) (ci := 4) (v := .int (office_lotCount - 1)) (ty := .int) (C := RX5) (T := TX5) (N := 5) hx hb hts iwX5_strike_X5 tyX5 tyX5_ok nmX5 hown hK hP hD hS 0 rfl rfl 4 (by decide) (hts _ lkX5_strike_4) (fun _ h9 => h9) rfl (by decide +kernel) rfl rfl (Nat.le_of_ble_eq_true rfl) dX5_strike_40 (fun H locs hP hD hS => ?_)
      have hP : va_P X.1 vwCl (HAppend.hAppend (α := va_W) (β := va_W) (γ := va_W) [(a_office, .inr (4, [.ref a_la, .ref a_ma, .ref a_plans, .ref a_course, .int (office_lotCount - 1)])), (a_la, .inl (X.2 3, 200, .inr (.inr (.inr (.inr (va_up la_f p1.toNatClampNeg none)))))), (a_ma, .inl (X.2 2, 200, .inl ma_f)), (a_plans, .inr (3, [.int plans_level, .int plans_quality, .int plans_twice])), (a_course, .inr (0, [.int course_steady, .int course_rate, .int course_state, .int course_skipping, .ref a_hist, .int course_changedAt, .int course_acceptedInRow, .int course_passedInGroup])), (a_hist, .inr (1, [.ref a_hr, .ref a_hb, .int hist_length])), (a_hr, .inl (X.2 2, 60, .inl hr_f)), (a_hb, .inl (X.2 0, 60, .inl hb_f))] (va_pl pL (lotE pO pZ pF pV pT pI pB))) H := hP
      have hD : va_D A (HAppend.hAppend (α := va_W) (β := va_W) (γ := va_W) [(a_office, .inr (4, [.ref a_la, .ref a_ma, .ref a_plans, .ref a_course, .int (office_lotCount - 1)])), (a_la, .inl (X.2 3, 200, .inr (.inr (.inr (.inr (va_up la_f p1.toNatClampNeg none)))))), (a_ma, .inl (X.2 2, 200, .inl ma_f)), (a_plans, .inr (3, [.int plans_level, .int plans_quality, .int plans_twice])), (a_course, .inr (0, [.int course_steady, .int course_rate, .int course_state, .int course_skipping, .ref a_hist, .int course_changedAt, .int course_acceptedInRow, .int course_passedInGroup])), (a_hist, .inr (1, [.ref a_hr, .ref a_hb, .int hist_length])), (a_hr, .inl (X.2 2, 60, .inl hr_f)), (a_hb, .inl (X.2 0, 60, .inl hb_f))] (va_pl pL (lotE pO pZ pF pV pT pI pB))) := hD
      refine lv_aload_n hx hb dX5_strike_43 rfl (lv_at hl 0 rfl) ?_
      obtain ⟨r_9, e_10, hf⟩ := bind_some hf
      have hFc := va_freeA hD hS hA
      refine va_callv (va_runV (As := []) (rest := []) ⟨hx, hb, hml, hown, hts⟩ (mX5_judgeAll l X N a_office a_la a_ma a_plans a_course a_hist a_hr a_hb H.size (office_lotCount - 1) (va_up la_f p1.toNatClampNeg none) ma_f plans_level plans_quality plans_twice course_steady course_rate course_state course_skipping course_changedAt course_acceptedInRow course_passedInGroup hist_length hr_f hb_f pL pO pZ pF pV pT pI pB r_9 e_10) (cwV 0 hts gX5_strike_X5_judgeAll rfl rfl rfl (by decide +kernel) ⟨Nat.le_of_ble_eq_true rfl, Nat.le_of_ble_eq_true rfl⟩) (gPreV hK hP hD hSt hS hFc 0 rfl rfl) rfl rfl hl.1 rfl (lv_room (Nat.le_of_ble_eq_true rfl)) dX5_strike_44 ⟨Nat.le_of_ble_eq_true rfl, Nat.le_of_ble_eq_true rfl⟩) hS (fun q _ h => hFc q h) hFc (fun u t H1 locs ht hvm hw hB hz1 hk1 hS => ?_)
      have hP : va_P X.1 vwCl (HAppend.hAppend (α := va_W) (β := va_W) (γ := va_W) [(a_office, .inr (4, [.ref a_la, .ref a_ma, .ref a_plans, .ref a_course, .int (office_lotCount - 1)])), (a_la, .inl (X.2 3, 200, .inr (.inr (.inr (.inr (va_up la_f p1.toNatClampNeg none)))))), (a_ma, .inl (X.2 2, 200, .inl ma_f)), (a_plans, .inr (3, [.int plans_level, .int plans_quality, .int plans_twice])), (a_course, .inr (0, [.int course_steady, .int course_rate, .int r_9.1, .int r_9.2.1, .ref a_hist, .int r_9.2.2.1, .int r_9.2.2.2.1, .int r_9.2.2.2.2.1])), (a_hist, .inr (1, [.ref a_hr, .ref a_hb, .int r_9.2.2.2.2.2.1])), (a_hr, .inl (X.2 2, 60, .inl r_9.2.2.2.2.2.2.1)), (a_hb, .inl (X.2 0, 60, .inl r_9.2.2.2.2.2.2.2.1))] (va_pl pL (lotE pO pZ pF r_9.2.2.2.2.2.2.2.2.1 r_9.2.2.2.2.2.2.2.2.2.1 r_9.2.2.2.2.2.2.2.2.2.2.1 r_9.2.2.2.2.2.2.2.2.2.2.2))) H1 := by have h9 := hB.1; rw [ht] at h9; exact h9
      have hD : va_D A (HAppend.hAppend (α := va_W) (β := va_W) (γ := va_W) [(a_office, .inr (4, [.ref a_la, .ref a_ma, .ref a_plans, .ref a_course, .int (office_lotCount - 1)])), (a_la, .inl (X.2 3, 200, .inr (.inr (.inr (.inr (va_up la_f p1.toNatClampNeg none)))))), (a_ma, .inl (X.2 2, 200, .inl ma_f)), (a_plans, .inr (3, [.int plans_level, .int plans_quality, .int plans_twice])), (a_course, .inr (0, [.int course_steady, .int course_rate, .int r_9.1, .int r_9.2.1, .ref a_hist, .int r_9.2.2.1, .int r_9.2.2.2.1, .int r_9.2.2.2.2.1])), (a_hist, .inr (1, [.ref a_hr, .ref a_hb, .int r_9.2.2.2.2.2.1])), (a_hr, .inl (X.2 2, 60, .inl r_9.2.2.2.2.2.2.1)), (a_hb, .inl (X.2 0, 60, .inl r_9.2.2.2.2.2.2.2.1))] (va_pl pL (lotE pO pZ pF r_9.2.2.2.2.2.2.2.2.1 r_9.2.2.2.2.2.2.2.2.2.1 r_9.2.2.2.2.2.2.2.2.2.2.1 r_9.2.2.2.2.2.2.2.2.2.2.2))) := hD.addr (addrP rfl)
      generalize H1 = H at hP hS ⊢
      refine lv_aload_n hx hb dX5_strike_47 rfl (lv_at hl 0 rfl) ?_
      refine va_get (D := X.1) (ci := 4) (v := .int (office_lotCount - 1)) (C := RX5) (T := TX5) (N := 5) hx hb hts iwX5_strike_X5 hown hK hP 0 rfl rfl 4 (by decide) (hts _ lkX5_strike_4) (fun _ h9 => h9) rfl dX5_strike_48 ?_
      obtain rfl := Sum.inr.inj (Option.some.inj hf)
      exact W.iret hx hb hr (fun t ht hW => ⟨⟨_, (), rfl, rfl, by rw [ht]; exact hP, va_K.moved hW.alike hK⟩, hS.F ht⟩) hS.2.2 dX5_strike_51
