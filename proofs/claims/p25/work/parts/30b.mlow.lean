def rmL_low : Room := { frames := 0, cells := 0, slots := 0, locals := 0 }
theorem lkL_low_1 : Cond.constant RL 7 (2147483647) ∈ wsL_low := List.mem_of_getElem? (i := 1) rfl
set_option maxHeartbeats 4000000 in
set_option maxRecDepth 100000 in
theorem mL_low (l : Launch) (X : cxT) (N : Nat) (p0 : Int32) (p1 : Int32) (r : Int32) (hf0 : fL_low N p0 p1 = some r) : Met l yL_low wsL_low rmL_low (rPre X [] [.int p0, .int p1]) (vp_Si (fun v : Int32 => v = r)) 0 0 (fun _ => False) := by
  refine Met.ofW (cc := cL_low) (maxL := 2) (ret := (some .int)) (by decide) rfl ?_
  intro p e s m args below meth c s₁ B hml hv
  obtain ⟨rfl, hP, hK, hSt⟩ := hv
  have hx := B.exec
  have hb := B.bytes
  have hr := B.returns
  have hts := atoms_spec (ws := wsL_low) B.pre
  have hown : s.vm.findClass RL = some m.cls := findClass_of_methodNamed B.named
  have hlocks := B.notSynchronized
  have hS : va_S (fun _ => False) s.heap s.heap [] := va_S.rf
  have hl := lv_entry ([.int p0, .int p1]) (n := 2) (Nat.le_of_ble_eq_true rfl)
  rw [lg_entry_eq]
  generalize (lg_sl ([.int p0, .int p1]) ++ List.replicate (2 - (lg_sl ([.int p0, .int p1])).length) Slot.unset).toArray = ls at hl ⊢
  have hl : lv_has ls 2 [(0, .int p0), (1, .int p1)] := hl
  have hf := hf0
  unfold fL_low at hf
  refine lv_iload_n hx hb dL_low_0 rfl (lv_at hl 0 rfl) ?_
  refine lv_ldc (v := 2147483647) hx hb hown (hts _ lkL_low_1) dL_low_1 ?_
  refine lv_iand hx hb dL_low_3 ?_
  refine lv_iload_n hx hb dL_low_4 rfl (lv_at hl 1 rfl) ?_
  obtain ⟨g_1, hf⟩ := ite_some hf
  refine lv_irem hx hb dL_low_5 g_1 ?_
  obtain rfl := Option.some.inj hf
  exact W.iret hx hb hr (fun t ht hW => ⟨_, rfl, rfl, ht⟩) (fun _ h => by cases h) dL_low_6
def rmL_findings : Room := { frames := 1, cells := 0, slots := 0, locals := 21 }
set_option maxHeartbeats 4000000 in
set_option maxRecDepth 100000 in
theorem mL_findings (l : Launch) (X : cxT) (N : Nat) (p0 : Int32) (p1 : Int32) (r : Int64) (hf0 : fL_findings N p0 p1 = some r) : Met l yL_findings wsL_findings rmL_findings (rPre X [] [.int p0, .int p1]) (vp_Sl (fun v : Int64 => v = r)) 0 0 (fun _ => False) := by
  refine Met.ofW (cc := cL_findings) (maxL := 2) (ret := (some .long)) (by decide) rfl ?_
  intro p e s m args below meth c s₁ B hml hv
  obtain ⟨rfl, hP, hK, hSt⟩ := hv
  have hx := B.exec
  have hb := B.bytes
  have hr := B.returns
  have hts := atoms_spec (ws := wsL_findings) B.pre
  have hown : s.vm.findClass RL = some m.cls := findClass_of_methodNamed B.named
  have hlocks := B.notSynchronized
  have hS : va_S (fun _ => False) s.heap s.heap [] := va_S.rf
  have hl := lv_entry ([.int p0, .int p1]) (n := 2) (Nat.le_of_ble_eq_true rfl)
  rw [lg_entry_eq]
  generalize (lg_sl ([.int p0, .int p1]) ++ List.replicate (2 - (lg_sl ([.int p0, .int p1])).length) Slot.unset).toArray = ls at hl ⊢
  have hl : lv_has ls 2 [(0, .int p0), (1, .int p1)] := hl
  have hf := hf0
  unfold fL_findings at hf
  refine lv_lconst (v := 1) hx hb dL_findings_0 (by decide) ?_
  refine lv_iload_n hx hb dL_findings_1 rfl (lv_at hl 0 rfl) ?_
  refine lv_bipush (v := 50) hx hb dL_findings_2 (by decide) ?_
  obtain ⟨r_1, e_2, hf⟩ := bind_some hf
  refine vp_callSi (W.runS (As := [.int p0, .int 50]) (rest := [.long 1]) ⟨hx, hb, hml, hown, hts⟩ (mL_low l X N p0 50 r_1 e_2) (va_cwS 2 hts gL_findings_L_low rfl rfl rfl (by decide +kernel) ⟨Nat.le_of_ble_eq_true rfl, Nat.le_of_ble_eq_true rfl⟩) (rPreS hK hP hSt hS [] rfl) rfl rfl hl.1 rfl (lv_room (Nat.le_of_ble_eq_true rfl)) dL_findings_4 ⟨Nat.zero_le _, Nat.zero_le _⟩) (fun v9 e9 => ?_)
  rw [e9]
  refine lv_lshl hx hb dL_findings_7 rfl ?_
  refine lv_lconst (v := 1) hx hb dL_findings_8 (by decide) ?_
  refine lv_iload_n hx hb dL_findings_9 rfl (lv_at hl 0 rfl) ?_
  refine lv_bipush (v := 6) hx hb dL_findings_10 (by decide) ?_
  refine lv_ishr hx hb dL_findings_12 ?_
  refine lv_bipush (v := 30) hx hb dL_findings_13 (by decide) ?_
  obtain ⟨r_3, e_4, hf⟩ := bind_some hf
  refine vp_callSi (W.runS (As := [.int (p0 >>> (6 &&& 31)), .int 30]) (rest := [.long 1, .long (1 <<< (r_1.toInt64 &&& 63))]) ⟨hx, hb, hml, hown, hts⟩ (mL_low l X N (p0 >>> (6 &&& 31)) 30 r_3 e_4) (va_cwS 2 hts gL_findings_L_low rfl rfl rfl (by decide +kernel) ⟨Nat.le_of_ble_eq_true rfl, Nat.le_of_ble_eq_true rfl⟩) (rPreS hK hP hSt hS [] rfl) rfl rfl hl.1 rfl (lv_room (Nat.le_of_ble_eq_true rfl)) dL_findings_15 ⟨Nat.zero_le _, Nat.zero_le _⟩) (fun v9 e9 => ?_)
  rw [e9]
  refine lv_lshl hx hb dL_findings_18 rfl ?_
  refine lv_lor hx hb dL_findings_19 ?_
  refine lv_iload_n hx hb dL_findings_20 rfl (lv_at hl 1 rfl) ?_
  refine lv_iconst (v := 3) hx hb dL_findings_21 (by decide) ?_
  obtain ⟨r_5, e_6, hf⟩ := bind_some hf
  refine vp_callSi (W.runS (As := [.int p1, .int 3]) (rest := [.long ((1 <<< (r_1.toInt64 &&& 63)) ||| (1 <<< (r_3.toInt64 &&& 63)))]) ⟨hx, hb, hml, hown, hts⟩ (mL_low l X N p1 3 r_5 e_6) (va_cwS 2 hts gL_findings_L_low rfl rfl rfl (by decide +kernel) ⟨Nat.le_of_ble_eq_true rfl, Nat.le_of_ble_eq_true rfl⟩) (rPreS hK hP hSt hS [] rfl) rfl rfl hl.1 rfl (lv_room (Nat.le_of_ble_eq_true rfl)) dL_findings_22 ⟨Nat.zero_le _, Nat.zero_le _⟩) (fun v9 e9 => ?_)
  rw [e9]
  refine lv_if_ne (tgt := 50) hx hb dL_findings_25 (by decide) (fun c_7 => ?_) (fun c_7 => ?_)
  · rw [if_neg c_7] at hf
    refine lv_lconst (v := 0) hx hb dL_findings_50 (by decide) ?_
    refine lv_lor hx hb dL_findings_51 ?_
    obtain rfl := Option.some.inj hf
    exact W.lret hx hb hr (fun t ht hW => ⟨_, rfl, rfl, ht⟩) (fun _ h => by cases h) dL_findings_52
  · rw [if_pos c_7] at hf
    refine lv_iload_n hx hb dL_findings_28 rfl (lv_at hl 1 rfl) ?_
    refine lv_iconst (v := 2) hx hb dL_findings_29 (by decide) ?_
    refine lv_ishr hx hb dL_findings_30 ?_
    refine lv_bipush (v := 64) hx hb dL_findings_31 (by decide) ?_
    obtain ⟨r_8, e_9, hf⟩ := bind_some hf
    refine vp_callSi (W.runS (As := [.int (p1 >>> (2 &&& 31)), .int 64]) (rest := [.long ((1 <<< (r_1.toInt64 &&& 63)) ||| (1 <<< (r_3.toInt64 &&& 63)))]) ⟨hx, hb, hml, hown, hts⟩ (mL_low l X N (p1 >>> (2 &&& 31)) 64 r_8 e_9) (va_cwS 2 hts gL_findings_L_low rfl rfl rfl (by decide +kernel) ⟨Nat.le_of_ble_eq_true rfl, Nat.le_of_ble_eq_true rfl⟩) (rPreS hK hP hSt hS [] rfl) rfl rfl hl.1 rfl (lv_room (Nat.le_of_ble_eq_true rfl)) dL_findings_33 ⟨Nat.zero_le _, Nat.zero_le _⟩) (fun v9 e9 => ?_)
    rw [e9]
    refine lv_i2l hx hb dL_findings_36 rfl ?_
    refine lv_iload_n hx hb dL_findings_37 rfl (lv_at hl 0 rfl) ?_
    refine lv_bipush (v := 12) hx hb dL_findings_38 (by decide) ?_
    refine lv_ishr hx hb dL_findings_40 ?_
    refine lv_bipush (v := 20) hx hb dL_findings_41 (by decide) ?_
    obtain ⟨r_10, e_11, hf⟩ := bind_some hf
    refine vp_callSi (W.runS (As := [.int (p0 >>> (12 &&& 31)), .int 20]) (rest := [.long r_8.toInt64, .long ((1 <<< (r_1.toInt64 &&& 63)) ||| (1 <<< (r_3.toInt64 &&& 63)))]) ⟨hx, hb, hml, hown, hts⟩ (mL_low l X N (p0 >>> (12 &&& 31)) 20 r_10 e_11) (va_cwS 2 hts gL_findings_L_low rfl rfl rfl (by decide +kernel) ⟨Nat.le_of_ble_eq_true rfl, Nat.le_of_ble_eq_true rfl⟩) (rPreS hK hP hSt hS [] rfl) rfl rfl hl.1 rfl (lv_room (Nat.le_of_ble_eq_true rfl)) dL_findings_43 ⟨Nat.zero_le _, Nat.zero_le _⟩) (fun v9 e9 => ?_)
    rw [e9]
    refine lv_lshl hx hb dL_findings_46 rfl ?_
    refine lv_goto (tgt := 51) hx hb dL_findings_47 (by decide) ?_
    refine lv_lor hx hb dL_findings_51 ?_
    obtain rfl := Option.some.inj hf
    exact W.lret hx hb hr (fun t ht hW => ⟨_, rfl, rfl, ht⟩) (fun _ h => by cases h) dL_findings_52
