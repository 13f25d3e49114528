set_option maxHeartbeats 4000000 in
set_option maxRecDepth 100000 in
theorem law_loop {p : Program} {l : Launch} {e : Env} {s : State} {m : MethodId} {below : List Frame} {meth : Method} {c : Code} {b L : Nat} {xs : Nat → Int32} (hl9 : l.stackTraces = false) (X : cxT) (N : Nat) (hN : 20000 ≤ N) (hL : L ≤ 260) (C0 : lw_At p s m meth c b L xs) (hK : va_K X.1 vwCl (tyA X) s) (hSt : stA (fun q : Nat => s.heap.size ≤ q) s s.heap) (a_office a_la a_ma a_plans a_course a_hist a_hr a_hb : Nat) (hT : va_T .int b L (fun j => .int (xs j)) (fun q : Nat => s.heap.size ≤ q) s s.heap) (T : Nat) (hT9 : T ≤ 47) : ∀ (n i : Nat), T = i + n → ∀ (office_lotCount : Int32) (la_f : Nat → Option Nat) (ma_f : Nat → Int32) (plans_level : Int32) (plans_quality : Int32) (plans_twice : Int32) (course_steady : Int32) (course_rate : Int32) (course_state : Int32) (course_skipping : Int32) (course_changedAt : Int32) (course_acceptedInRow : Int32) (course_passedInGroup : Int32) (hist_length : Int32) (hr_f : Nat → Int32) (hb_f : Nat → Int32) (pL : List Nat) (pO : Nat → Int32) (pZ : Nat → Int32) (pF : Nat → Int64) (pV : Nat → Int32) (pT : Nat → Int32) (pI : Nat → Int32) (pB : Nat → Int32), REL office_lotCount la_f ma_f plans_level plans_quality plans_twice course_steady course_rate course_state course_skipping course_changedAt course_acceptedInRow course_passedInGroup hist_length hr_f hb_f pL pO pZ pF pV pT pI pB → ∀ (H : Heap) (locs : List Loc) (kc ks : Nat), kc ≤ 100 + 3 * i → ks ≤ 4000 + 21 * i → va_P X.1 vwCl (HAppend.hAppend (α := va_W) (β := va_W) (γ := va_W) [(a_office, .inr (4, [.ref a_la, .ref a_ma, .ref a_plans, .ref a_course, .int office_lotCount])), (a_la, .inl (X.2 3, 200, .inr (.inr (.inr (.inr la_f))))), (a_ma, .inl (X.2 2, 200, .inl ma_f)), (a_plans, .inr (3, [.int plans_level, .int plans_quality, .int plans_twice])), (a_course, .inr (0, [.int course_steady, .int course_rate, .int course_state, .int course_skipping, .ref a_hist, .int course_changedAt, .int course_acceptedInRow, .int course_passedInGroup])), (a_hist, .inr (1, [.ref a_hr, .ref a_hb, .int hist_length])), (a_hr, .inl (X.2 2, 60, .inl hr_f)), (a_hb, .inl (X.2 0, 60, .inl hb_f))] (va_pl pL (lotE pO pZ pF pV pT pI pB))) H → va_D (fun q : Nat => s.heap.size ≤ q) (HAppend.hAppend (α := va_W) (β := va_W) (γ := va_W) [(a_office, .inr (4, [.ref a_la, .ref a_ma, .ref a_plans, .ref a_course, .int office_lotCount])), (a_la, .inl (X.2 3, 200, .inr (.inr (.inr (.inr la_f))))), (a_ma, .inl (X.2 2, 200, .inl ma_f)), (a_plans, .inr (3, [.int plans_level, .int plans_quality, .int plans_twice])), (a_course, .inr (0, [.int course_steady, .int course_rate, .int course_state, .int course_skipping, .ref a_hist, .int course_changedAt, .int course_acceptedInRow, .int course_passedInGroup])), (a_hist, .inr (1, [.ref a_hr, .ref a_hb, .int hist_length])), (a_hr, .inl (X.2 2, 60, .inl hr_f)), (a_hb, .inl (X.2 0, 60, .inl hb_f))] (va_pl pL (lotE pO pZ pF pV pT pI pB))) → va_S (fun q : Nat => s.heap.size ≤ q) s.heap H locs → ∀ ls : Array Slot, lv_has ls 14 [(0, .ref b), (1, .ref a_office), (2, .int 1), (3, .int (nI T)), (4, .int (nI i))] → W p l e room_1 s m #[Value.ref b] below meth c H locs kc ks (lw_Z below #[Value.ref b] s) (F0 m 29 ls []) := by
  obtain ⟨hx, hb, hr, hml, hown, hts0, hX, hbl, hlocks, hgv⟩ := id C0
  have hts := fun w h => hts0 w (wsL_law_in w h)
  have hA : ∀ q : Nat, s.heap.size ≤ q → (fun q : Nat => s.heap.size ≤ q) q := fun _ h => h
  have hbA : ¬ (fun q : Nat => s.heap.size ≤ q) b := Nat.not_le.mpr hbl
  intro n
  induction n with
  | zero =>
    intro i hin office_lotCount la_f ma_f plans_level plans_quality plans_twice course_steady course_rate course_state course_skipping course_changedAt course_acceptedInRow course_passedInGroup hist_length hr_f hb_f pL pO pZ pF pV pT pI pB hR H locs kc ks hkc hks hP hD hS ls hl
    have hiT : i = T := by omega
    refine lv_iload hx hb dL_law_29 (lv_at hl 4 rfl) ?_
    refine lv_iload_n hx hb dL_law_31 rfl (lv_at hl 3 rfl) ?_
    refine lv_icmp_ge (tgt := 452) hx hb dL_law_32 (by decide) (fun _ => ?_) (fun c_10 => absurd (nI_le (Nat.le_of_eq hiT.symm) (by omega)) c_10)
    refine lv_iload_n hx hb dL_law_452 rfl (lv_at hl 2 rfl) ?_
    refine lv_if_eq (tgt := 467) hx hb dL_law_453 (by decide) (fun c_9 => absurd c_9 (by decide)) (fun _ => ?_)
    refine lv_aload_n hx hb dL_law_456 rfl (lv_at hl 1 rfl) ?_
    refine vp_callSi (W.runS (As := [.ref a_office]) (rest := []) ⟨hx, hb, hml, hown, hts⟩ (mL_holds l X N a_office a_la a_ma a_plans a_course a_hist a_hr a_hb office_lotCount la_f ma_f plans_level plans_quality plans_twice course_steady course_rate course_state course_skipping course_changedAt course_acceptedInRow course_passedInGroup hist_length hr_f hb_f pL pO pZ pF pV pT pI pB  1 (P_hold hN hR)) (va_cwS 1 hts gL_law_L_holds rfl rfl rfl (by decide +kernel) ⟨Nat.le_of_ble_eq_true rfl, Nat.le_of_ble_eq_true rfl⟩) (oPreS hK hP hSt hS) rfl rfl hl.1 rfl (lv_room (Nat.le_of_ble_eq_true rfl)) dL_law_457 ⟨by show kc + 0 ≤ 600104; omega, by show ks + 0 ≤ 7301314; omega⟩) (fun v9 e9 => ?_)
    rw [e9]
    refine lv_if_eq (tgt := 467) hx hb dL_law_460 (by decide) (fun c_9 => absurd c_9 (by decide)) (fun _ => ?_)
    refine lv_iconst (v := 1) hx hb dL_law_463 (by decide) ?_
    refine lv_goto (tgt := 468) hx hb dL_law_464 (by decide) ?_
    refine va_forget (fun q hq => hS.2.2 q hq) ?_
    refine W.widen (k := 600104) (n := 7301314) (by omega) (by omega) ?_
    exact lw_ret hx hb hr hlocks dL_law_468
  | succ n ih =>
    intro i hin office_lotCount la_f ma_f plans_level plans_quality plans_twice course_steady course_rate course_state course_skipping course_changedAt course_acceptedInRow course_passedInGroup hist_length hr_f hb_f pL pO pZ pF pV pT pI pB hR H locs kc ks hkc hks hP hD hS ls hl
    have ih := fun j (hj : T = j + n) => ih j hj
    have KX : ∀ (office_lotCount : Int32) (la_f : Nat → Option Nat) (ma_f : Nat → Int32) (plans_level : Int32) (plans_quality : Int32) (plans_twice : Int32) (course_steady : Int32) (course_rate : Int32) (course_state : Int32) (course_skipping : Int32) (course_changedAt : Int32) (course_acceptedInRow : Int32) (course_passedInGroup : Int32) (hist_length : Int32) (hr_f : Nat → Int32) (hb_f : Nat → Int32) (pL : List Nat) (pO : Nat → Int32) (pZ : Nat → Int32) (pF : Nat → Int64) (pV : Nat → Int32) (pT : Nat → Int32) (pI : Nat → Int32) (pB : Nat → Int32), REL office_lotCount la_f ma_f plans_level plans_quality plans_twice course_steady course_rate course_state course_skipping course_changedAt course_acceptedInRow course_passedInGroup hist_length hr_f hb_f pL pO pZ pF pV pT pI pB → ∀ (H : Heap) (locs : List Loc) (kc ks : Nat), kc ≤ 100 + 3 * i + 3 → ks ≤ 4000 + 21 * i + 21 → va_P X.1 vwCl (HAppend.hAppend (α := va_W) (β := va_W) (γ := va_W) [(a_office, .inr (4, [.ref a_la, .ref a_ma, .ref a_plans, .ref a_course, .int office_lotCount])), (a_la, .inl (X.2 3, 200, .inr (.inr (.inr (.inr la_f))))), (a_ma, .inl (X.2 2, 200, .inl ma_f)), (a_plans, .inr (3, [.int plans_level, .int plans_quality, .int plans_twice])), (a_course, .inr (0, [.int course_steady, .int course_rate, .int course_state, .int course_skipping, .ref a_hist, .int course_changedAt, .int course_acceptedInRow, .int course_passedInGroup])), (a_hist, .inr (1, [.ref a_hr, .ref a_hb, .int hist_length])), (a_hr, .inl (X.2 2, 60, .inl hr_f)), (a_hb, .inl (X.2 0, 60, .inl hb_f))] (va_pl pL (lotE pO pZ pF pV pT pI pB))) H → va_D (fun q : Nat => s.heap.size ≤ q) (HAppend.hAppend (α := va_W) (β := va_W) (γ := va_W) [(a_office, .inr (4, [.ref a_la, .ref a_ma, .ref a_plans, .ref a_course, .int office_lotCount])), (a_la, .inl (X.2 3, 200, .inr (.inr (.inr (.inr la_f))))), (a_ma, .inl (X.2 2, 200, .inl ma_f)), (a_plans, .inr (3, [.int plans_level, .int plans_quality, .int plans_twice])), (a_course, .inr (0, [.int course_steady, .int course_rate, .int course_state, .int course_skipping, .ref a_hist, .int course_changedAt, .int course_acceptedInRow, .int course_passedInGroup])), (a_hist, .inr (1, [.ref a_hr, .ref a_hb, .int hist_length])), (a_hr, .inl (X.2 2, 60, .inl hr_f)), (a_hb, .inl (X.2 0, 60, .inl hb_f))] (va_pl pL (lotE pO pZ pF pV pT pI pB))) → va_S (fun q : Nat => s.heap.size ≤ q) s.heap H locs → ∀ ls : Array Slot, lv_has ls 14 [(0, .ref b), (1, .ref a_office), (2, .int 1), (3, .int (nI T)), (4, .int (nI i))] → W p l e room_1 s m #[Value.ref b] below meth c H locs kc ks (lw_Z below #[Value.ref b] s) (F0 m 422 ls []) := by
      intro office_lotCount la_f ma_f plans_level plans_quality plans_twice course_steady course_rate course_state course_skipping course_changedAt course_acceptedInRow course_passedInGroup hist_length hr_f hb_f pL pO pZ pF pV pT pI pB hR H locs kc ks hkc hks hP hD hS ls hl
      refine lv_iload_n hx hb dL_law_422 rfl (lv_at hl 2 rfl) ?_
      refine lv_if_eq (tgt := 444) hx hb dL_law_423 (by decide) (fun c_9 => absurd c_9 (by decide)) (fun _ => ?_)
      refine lv_iload hx hb dL_law_426 (lv_at hl 4 rfl) ?_
      refine lv_iconst (v := 3) hx hb dL_law_428 (by decide) ?_
      refine lv_irem hx hb dL_law_429 (by decide) ?_
      suffices hJ : W p l e room_1 s m #[Value.ref b] below meth c H locs kc ks (lw_Z below #[Value.ref b] s) (F0 m 440 ls []) by
        refine lv_if_gt (tgt := 440) hx hb dL_law_430 (by decide) (fun c_9 => ?_) (fun c_9 => ?_)
        · exact hJ
        · refine lv_aload_n hx hb dL_law_433 rfl (lv_at hl 1 rfl) ?_
          refine vp_callSi (W.runS (As := [.ref a_office]) (rest := []) ⟨hx, hb, hml, hown, hts⟩ (mL_holds l X N a_office a_la a_ma a_plans a_course a_hist a_hr a_hb office_lotCount la_f ma_f plans_level plans_quality plans_twice course_steady course_rate course_state course_skipping course_changedAt course_acceptedInRow course_passedInGroup hist_length hr_f hb_f pL pO pZ pF pV pT pI pB  1 (P_hold hN hR)) (va_cwS 1 hts gL_law_L_holds rfl rfl rfl (by decide +kernel) ⟨Nat.le_of_ble_eq_true rfl, Nat.le_of_ble_eq_true rfl⟩) (oPreS hK hP hSt hS) rfl rfl hl.1 rfl (lv_room (Nat.le_of_ble_eq_true rfl)) dL_law_434 ⟨by show kc + 0 ≤ 600104; omega, by show ks + 0 ≤ 7301314; omega⟩) (fun v9 e9 => ?_)
          rw [e9]
          refine lv_if_eq (tgt := 444) hx hb dL_law_437 (by decide) (fun c_9 => absurd c_9 (by decide)) (fun _ => ?_)
          exact hJ
      refine lv_iconst (v := 1) hx hb dL_law_440 (by decide) ?_
      refine lv_goto (tgt := 445) hx hb dL_law_441 (by decide) ?_
      refine lv_istore_n (lv' := [(2, .int 1), (0, .ref b), (1, .ref a_office), (3, .int (nI T)), (4, .int (nI i))]) hx hb dL_law_445 rfl hl (by decide) rfl (fun ls hl => ?_)
      refine lv_iinc (v := nI (i + 1)) (lv' := [(4, .int (nI (i + 1))), (2, .int 1), (0, .ref b), (1, .ref a_office), (3, .int (nI T))]) hx hb dL_law_446 hl (k := 4) rfl (by rw [← nI_1]; rfl) (by decide) rfl (fun ls hl => ?_)
      refine lv_goto (tgt := 29) hx hb dL_law_449 (by decide) ?_
      exact ih (i + 1) (by omega) office_lotCount la_f ma_f plans_level plans_quality plans_twice course_steady course_rate course_state course_skipping course_changedAt course_acceptedInRow course_passedInGroup hist_length hr_f hb_f pL pO pZ pF pV pT pI pB hR H locs kc ks (by omega) (by omega) hP hD hS ls (lv_sub hl [2, 3, 1, 4, 0] rfl)
    refine lv_iload hx hb dL_law_29 (lv_at hl 4 rfl) ?_
    refine lv_iload_n hx hb dL_law_31 rfl (lv_at hl 3 rfl) ?_
    refine lv_icmp_ge (tgt := 452) hx hb dL_law_32 (by decide) (fun c_10 => absurd ((nI_leI (a := T) (b := i) (by omega) (by omega)).mp c_10) (by omega)) (fun _ => ?_)
    refine lv_iload_n hx hb dL_law_35 rfl (lv_at hl 2 rfl) ?_
    refine lv_if_eq (tgt := 452) hx hb dL_law_36 (by decide) (fun c_9 => absurd c_9 (by decide)) (fun _ => ?_)
    refine lv_aload_n hx hb dL_law_39 rfl (lv_at hl 0 rfl) ?_
    refine lv_iconst (v := 1) hx hb dL_law_40 (by decide) ?_
    refine lv_iload hx hb dL_law_41 (lv_at hl 4 rfl) ?_
    refine lv_iadd hx hb dL_law_43 ?_
    refine lv_eqi (show _ = nI (1 + i) from by rw [show (1 : Int32) = nI 1 from rfl, nI_add]) ?_
    refine vp_callSi (W.runS (As := [.ref b, .int (nI (1 + i))]) (rest := []) ⟨hx, hb, hml, hown, hts⟩ (mL_cell l b L xs (1 + i) (by omega) (by omega)) (va_cwS 2 hts gL_law_L_cell rfl rfl rfl (by decide +kernel) ⟨Nat.le_of_ble_eq_true rfl, Nat.le_of_ble_eq_true rfl⟩) (cPreS hT hS) rfl rfl hl.1 rfl (lv_room (Nat.le_of_ble_eq_true rfl)) dL_law_44 ⟨by show kc + 0 ≤ 600104; omega, by show ks + 0 ≤ 7301314; omega⟩) (fun v9 e9 => ?_)
    clear e9
    generalize v9 = x_1
    refine lv_istore (lv' := [(5, .int x_1), (0, .ref b), (1, .ref a_office), (2, .int 1), (3, .int (nI T)), (4, .int (nI i))]) hx hb dL_law_47 hl (by decide) rfl (fun ls hl => ?_)
    refine lv_aload_n hx hb dL_law_49 rfl (lv_at hl 1 rfl) ?_
    refine lv_iconst (v := 2) hx hb dL_law_50 (by decide) ?_
    refine lv_iload hx hb dL_law_51 (lv_at hl 5 rfl) ?_
    refine lv_iadd hx hb dL_law_53 ?_
    refine lv_eqi (show _ = nI (2 + i) from by rw [show (2 : Int32) = nI 2 from rfl, nI_add]) ?_
    refine vp_callSi (W.runS (As := [.ref b, .int (nI (2 + i))]) (rest := []) ⟨hx, hb, hml, hown, hts⟩ (mL_cell l b L xs (2 + i) (by omega) (by omega)) (va_cwS 2 hts gL_law_L_cell rfl rfl rfl (by decide +kernel) ⟨Nat.le_of_ble_eq_true rfl, Nat.le_of_ble_eq_true rfl⟩) (cPreS hT hS) rfl rfl hl.1 rfl (lv_room (Nat.le_of_ble_eq_true rfl)) dL_law_54 ⟨by show kc + 0 ≤ 600104; omega, by show ks + 0 ≤ 7301314; omega⟩) (fun v9 e9 => ?_)
    clear e9
    generalize v9 = x_2
    refine lv_istore (lv' := [(6, .int x_2), (5, .int x_1), (0, .ref b), (1, .ref a_office), (2, .int 1), (3, .int (nI T)), (4, .int (nI i))]) hx hb dL_law_57 hl (by decide) rfl (fun ls hl => ?_)
    refine lv_iload hx hb dL_law_59 (lv_at hl 1 rfl) ?_
    refine lv_bipush (v := 20) hx hb dL_law_61 (by decide) ?_
    refine lv_ishr hx hb dL_law_63 ?_
    refine lv_bipush (v := 12) hx hb dL_law_64 (by decide) ?_
    obtain ⟨k_3, hk_4, ek_5⟩ := low_eq N (x_1 >>> (20 &&& 31)) (n := 12) (by omega) (by omega)
    refine vp_callSi (W.runS (As := [.int (x_1 >>> (20 &&& 31)), .int 12]) (rest := []) ⟨hx, hb, hml, hown, hts⟩ (mL_low l X N (x_1 >>> (20 &&& 31)) 12 (nI k_3) (show fL_low N (x_1 >>> (20 &&& 31)) 12 = some (nI k_3) from ek_5)) (va_cwS 2 hts gL_law_L_low rfl rfl rfl (by decide +kernel) ⟨Nat.le_of_ble_eq_true rfl, Nat.le_of_ble_eq_true rfl⟩) (rPreS hK hP hSt hS [] rfl) rfl rfl hl.1 rfl (lv_room (Nat.le_of_ble_eq_true rfl)) dL_law_66 ⟨by show kc + 0 ≤ 600104; omega, by show ks + 0 ≤ 7301314; omega⟩) (fun v9 e9 => ?_)
    rw [e9]
    refine lv_istore (lv' := [(7, .int (nI k_3)), (6, .int x_2), (5, .int x_1), (0, .ref b), (1, .ref a_office), (2, .int 1), (3, .int (nI T)), (4, .int (nI i))]) hx hb dL_law_69 hl (by decide) rfl (fun ls hl => ?_)
    refine lv_iload hx hb dL_law_71 (lv_at hl 0 rfl) ?_
    refine lv_bipush (v := 7) hx hb dL_law_73 (by decide) ?_
    refine lv_icmp_ge (tgt := 201) hx hb dL_law_75 (by decide) (fun c_9 => ?_) (fun c_9 => ?_)
    · refine lv_iload hx hb dL_law_201 (lv_at hl 0 rfl) ?_
      refine lv_bipush (v := 8) hx hb dL_law_203 (by decide) ?_
      refine lv_icmp_ge (tgt := 270) hx hb dL_law_205 (by decide) (fun c_9 => ?_) (fun c_9 => ?_)
      · refine lv_iload hx hb dL_law_270 (lv_at hl 0 rfl) ?_
        refine lv_bipush (v := 9) hx hb dL_law_272 (by decide) ?_
        refine lv_icmp_ge (tgt := 298) hx hb dL_law_274 (by decide) (fun c_9 => ?_) (fun c_9 => ?_)
        · refine lv_iload hx hb dL_law_298 (lv_at hl 0 rfl) ?_
          refine lv_bipush (v := 10) hx hb dL_law_300 (by decide) ?_
          refine lv_icmp_ge (tgt := 367) hx hb dL_law_302 (by decide) (fun c_9 => ?_) (fun c_9 => ?_)
          · refine lv_iload hx hb dL_law_367 (lv_at hl 0 rfl) ?_
            refine lv_bipush (v := 11) hx hb dL_law_369 (by decide) ?_
            refine lv_icmp_ge (tgt := 415) hx hb dL_law_371 (by decide) (fun c_9 => ?_) (fun c_9 => ?_)
            · exact law_curves hl9 X N hN hL C0 hK hSt a_office a_la a_ma a_plans a_course a_hist a_hr a_hb T i hT9 (by omega) x_1 x_2 office_lotCount la_f ma_f plans_level plans_quality plans_twice course_steady course_rate course_state course_skipping course_changedAt course_acceptedInRow course_passedInGroup hist_length hr_f hb_f pL pO pZ pF pV pT pI pB hR H locs kc ks hkc hks hP hD hS ls (lv_sub hl [3, 4, 5, 6, 7, 2, 1] rfl) KX
            · exact law_toggle hl9 X N hN hL C0 hK hSt a_office a_la a_ma a_plans a_course a_hist a_hr a_hb T i hT9 (by omega) x_1 x_2 office_lotCount la_f ma_f plans_level plans_quality plans_twice course_steady course_rate course_state course_skipping course_changedAt course_acceptedInRow course_passedInGroup hist_length hr_f hb_f pL pO pZ pF pV pT pI pB hR H locs kc ks hkc hks hP hD hS ls (lv_sub hl [3, 4, 5, 6, 7, 2, 1] rfl) KX
          · exact law_ways hl9 X N hN hL C0 hK hSt a_office a_la a_ma a_plans a_course a_hist a_hr a_hb T i hT9 (by omega) x_1 x_2 office_lotCount la_f ma_f plans_level plans_quality plans_twice course_steady course_rate course_state course_skipping course_changedAt course_acceptedInRow course_passedInGroup hist_length hr_f hb_f pL pO pZ pF pV pT pI pB hR H locs kc ks hkc hks hP hD hS ls (lv_sub hl [3, 4, 5, 6, 7, 2, 1] rfl) KX
        · exact law_plan hl9 X N hN hL C0 hK hSt a_office a_la a_ma a_plans a_course a_hist a_hr a_hb T i hT9 (by omega) x_1 x_2 office_lotCount la_f ma_f plans_level plans_quality plans_twice course_steady course_rate course_state course_skipping course_changedAt course_acceptedInRow course_passedInGroup hist_length hr_f hb_f pL pO pZ pF pV pT pI pB hR H locs kc ks hkc hks hP hD hS ls (lv_sub hl [3, 4, 5, 6, 7, 2, 1] rfl) KX
      · exact law_strike hl9 X N hN hL C0 hK hSt a_office a_la a_ma a_plans a_course a_hist a_hr a_hb T i hT9 (by omega) x_1 x_2 office_lotCount la_f ma_f plans_level plans_quality plans_twice course_steady course_rate course_state course_skipping course_changedAt course_acceptedInRow course_passedInGroup hist_length hr_f hb_f pL pO pZ pF pV pT pI pB hR H locs kc ks hkc hks hP hD hS ls (lv_sub hl [3, 4, 5, 6, 7, 2, 1] rfl) KX
    · exact law_record hl9 X N hN hL C0 hK hSt a_office a_la a_ma a_plans a_course a_hist a_hr a_hb T i hT9 (by omega) x_1 x_2 office_lotCount la_f ma_f plans_level plans_quality plans_twice course_steady course_rate course_state course_skipping course_changedAt course_acceptedInRow course_passedInGroup hist_length hr_f hb_f pL pO pZ pF pV pT pI pB hR H locs kc ks hkc hks hP hD hS ls (lv_sub hl [3, 4, 5, 6, 7, 2, 1] rfl) KX
