theorem REL_init : REL 0 (fun _ => none) (fun _ => 0) 1 1 0 0 0 0 0 0 0 0 0 (fun _ => 0) (fun _ => 0) ([]) (fun _ => 0) (fun _ => 0) (fun _ => 0) (fun _ => 0) (fun _ => 0) (fun _ => 0) (fun _ => 0) :=
  ⟨1, 1, 0, 0, 0, 0, fun _ => 0, fun _ => 0, fun _ => 0, fun _ => 0, by unfold CFG; omega, ⟨by omega, fun i hi => absurd hi (Nat.not_lt_zero _), fun i j _ hj => absurd hj (Nat.not_lt_zero _)⟩, rfl, rfl, rfl, rfl, rfl, rfl, ⟨fun k hk => ⟨Nat.zero_le 1, rfl⟩, fun o ho a h => (by cases h), fun i hi => absurd hi (Nat.not_lt_zero _)⟩, rfl, rfl, fun i hi => absurd hi (Nat.not_lt_zero _)⟩
set_option maxHeartbeats 4000000 in
set_option maxRecDepth 100000 in
theorem whole_start {p : Program} {e : Env} {s : State} {m : MethodId} {below : List Frame} {meth : Method} {c : Code} (l : Launch) (hflags : l.flags = flags0) {b L : Nat} {xs : Nat → Int32} (hL : L ≤ 260) (C0 : lw_At p s m meth c b L xs) : W p l e room_1 s m #[Value.ref b] below meth c s.heap [] 0 0 (lw_Z below #[Value.ref b] s) (entryFrame m ([Value.ref b] : List Value).toArray 14) := by
  obtain ⟨hx, hb, hr, hml, hown, hts0, hX, hbl, hlocks, hgv⟩ := id C0
  have hts := fun w h => hts0 w (wsL_law_in w h)
  have hl9 : l.stackTraces = false := by unfold Launch.stackTraces; rw [hflags]; decide +kernel
  have hSt := stA_start hts0 hgv
  obtain ⟨X, hK⟩ := knX hts0
  have hNX := nX_start hts0
  have hA : ∀ q : Nat, s.heap.size ≤ q → (fun q : Nat => s.heap.size ≤ q) q := fun _ h => h
  have hbA : ¬ (fun q : Nat => s.heap.size ≤ q) b := Nat.not_le.mpr hbl
  have hT : va_T .int b L (fun j => .int (xs j)) (fun q : Nat => s.heap.size ≤ q) s s.heap := by
    obtain ⟨scr, y1, y2, y3, y4, y5⟩ := hX
    exact ⟨scr, y1, y2, y3, Nat.le_of_eq y4.symm, by rw [y4], y5, hbA⟩
  have hS : va_S (fun q : Nat => s.heap.size ≤ q) s.heap s.heap [] := va_S.rf
  have hP : va_P X.1 vwCl [] s.heap := fun k q h => by simp at h
  have hD : va_D (fun q : Nat => s.heap.size ≤ q) [] := ⟨fun i j p q h => by simp at h, fun k q h => by simp at h⟩
  have hl := lv_entry ([.ref b]) (n := 14) (Nat.le_of_ble_eq_true rfl)
  rw [lg_entry_eq]
  generalize (lg_sl ([.ref b]) ++ List.replicate (14 - (lg_sl ([.ref b])).length) Slot.unset).toArray = ls at hl ⊢
  have hl : lv_has ls 14 [(0, .ref b)] := hl
  refine va_new (ci := 4) (fs := [.null, .null, .null, .null, .int 0]) (C := RX5) (T := TX5) (N := 5) hx hb hts0 inX5 tyX5 tyX5_ok hown (hts0 (.classLink R_law 10 RX5) (by decide +kernel)) (hts0 (.instantiable RX5 5) (by decide +kernel)) (hts0 (.initialized RX5) (by decide +kernel)) hK hP hD hS hA rfl (fun j hj => by rcases (show j = 0 ∨ j = 1 ∨ j = 2 ∨ j = 3 ∨ j = 4 by omega) with rfl | rfl | rfl | rfl | rfl <;> rfl) (Nat.le_of_ble_eq_true rfl) (Nat.le_of_ble_eq_true rfl) dL_law_0 (fun qo H hP hD hS => ?_)
  have hP : va_P X.1 vwCl [(qo, .inr (4, [.null, .null, .null, .null, .int 0]))] H := hP
  have hD : va_D (fun q : Nat => s.heap.size ≤ q) [(qo, .inr (4, [.null, .null, .null, .null, .int 0]))] := hD
  refine lv_dup hx hb dL_law_3 rfl ?_
  have hPc := hP.sub (ws' := [(qo, .inr (4, [.null, .null, .null, .null, .int 0]))]) [0] rfl
  have hDc := hD.sub (ws' := [(qo, .inr (4, [.null, .null, .null, .null, .int 0]))]) [0] (by decide) rfl
  have hFc := va_free (wc := [(qo, .inr (4, [.null, .null, .null, .null, .int 0]))]) hD hS hA [0] rfl
  refine va_callv (va_runI (As := []) (rest := [.ref qo]) ⟨hx, hb, hml, hown, hts⟩ (mX5_init l X qo H.size) (cwI 0 hts gL_law_X5_init rfl rfl rfl (hts0 (.initialized RX5) (by decide +kernel)) (hts0 (.methodLink R_law 71 yX5_init) (by decide +kernel)) (hts0 (.instanceMethod yX5_init) (by decide +kernel)) rfl (by decide +kernel) ⟨(Nat.le_of_ble_eq_true rfl), (Nat.le_of_ble_eq_true rfl)⟩) (nPreS hK hPc hDc hNX) rfl rfl hl.1 rfl (lv_room (Nat.le_of_ble_eq_true rfl)) dL_law_4 ⟨(Nat.le_of_ble_eq_true rfl), (Nat.le_of_ble_eq_true rfl)⟩) hS (fun q _ h => hFc q h) hFc (fun u5 t H1 locs ht hvm hw hB hz1 hk1 hS => ?_)
  obtain ⟨hP1, -, hD1⟩ := hB
  rw [ht] at hP1
  have hn9 : (HAppend.hAppend (α := va_W) (β := va_W) (γ := va_W) [(qo, .inr (4, [.ref u5.1, .ref u5.2.1, .ref u5.2.2.1, .ref u5.2.2.2.1, .int 0])), (u5.1, .inl (X.2 3, 200, .inr (.inr (.inr (.inr (fun _ => none)))))), (u5.2.1, .inl (X.2 2, 200, .inl (fun _ => 0))), (u5.2.2.1, .inr (3, [.int 1, .int 1, .int 0])), (u5.2.2.2.1, .inr (0, [.int 0, .int 0, .int 0, .int 0, .ref u5.2.2.2.2.1, .int 0, .int 0, .int 0])), (u5.2.2.2.2.1, .inr (1, [.ref u5.2.2.2.2.2.1, .ref u5.2.2.2.2.2.2, .int 0])), (u5.2.2.2.2.2.1, .inl (X.2 2, 60, .inl (fun _ => 0))), (u5.2.2.2.2.2.2, .inl (X.2 0, 60, .inl (fun _ => 0)))] (va_pl ([]) (lotE (fun _ => 0) (fun _ => 0) (fun _ => 0) (fun _ => 0) (fun _ => 0) (fun _ => 0) (fun _ => 0)))) = [(qo, .inr (4, [.ref u5.1, .ref u5.2.1, .ref u5.2.2.1, .ref u5.2.2.2.1, .int 0])), (u5.1, .inl (X.2 3, 200, .inr (.inr (.inr (.inr (fun _ => none)))))), (u5.2.1, .inl (X.2 2, 200, .inl (fun _ => 0))), (u5.2.2.1, .inr (3, [.int 1, .int 1, .int 0])), (u5.2.2.2.1, .inr (0, [.int 0, .int 0, .int 0, .int 0, .ref u5.2.2.2.2.1, .int 0, .int 0, .int 0])), (u5.2.2.2.2.1, .inr (1, [.ref u5.2.2.2.2.2.1, .ref u5.2.2.2.2.2.2, .int 0])), (u5.2.2.2.2.2.1, .inl (X.2 2, 60, .inl (fun _ => 0))), (u5.2.2.2.2.2.2, .inl (X.2 0, 60, .inl (fun _ => 0)))] := List.append_nil _
  have hP : va_P X.1 vwCl (HAppend.hAppend (α := va_W) (β := va_W) (γ := va_W) [(qo, .inr (4, [.ref u5.1, .ref u5.2.1, .ref u5.2.2.1, .ref u5.2.2.2.1, .int 0])), (u5.1, .inl (X.2 3, 200, .inr (.inr (.inr (.inr (fun _ => none)))))), (u5.2.1, .inl (X.2 2, 200, .inl (fun _ => 0))), (u5.2.2.1, .inr (3, [.int 1, .int 1, .int 0])), (u5.2.2.2.1, .inr (0, [.int 0, .int 0, .int 0, .int 0, .ref u5.2.2.2.2.1, .int 0, .int 0, .int 0])), (u5.2.2.2.2.1, .inr (1, [.ref u5.2.2.2.2.2.1, .ref u5.2.2.2.2.2.2, .int 0])), (u5.2.2.2.2.2.1, .inl (X.2 2, 60, .inl (fun _ => 0))), (u5.2.2.2.2.2.2, .inl (X.2 0, 60, .inl (fun _ => 0)))] (va_pl ([]) (lotE (fun _ => 0) (fun _ => 0) (fun _ => 0) (fun _ => 0) (fun _ => 0) (fun _ => 0) (fun _ => 0)))) H1 := by rw [hn9]; exact hP1
  have hD : va_D (fun q : Nat => s.heap.size ≤ q) (HAppend.hAppend (α := va_W) (β := va_W) (γ := va_W) [(qo, .inr (4, [.ref u5.1, .ref u5.2.1, .ref u5.2.2.1, .ref u5.2.2.2.1, .int 0])), (u5.1, .inl (X.2 3, 200, .inr (.inr (.inr (.inr (fun _ => none)))))), (u5.2.1, .inl (X.2 2, 200, .inl (fun _ => 0))), (u5.2.2.1, .inr (3, [.int 1, .int 1, .int 0])), (u5.2.2.2.1, .inr (0, [.int 0, .int 0, .int 0, .int 0, .ref u5.2.2.2.2.1, .int 0, .int 0, .int 0])), (u5.2.2.2.2.1, .inr (1, [.ref u5.2.2.2.2.2.1, .ref u5.2.2.2.2.2.2, .int 0])), (u5.2.2.2.2.2.1, .inl (X.2 2, 60, .inl (fun _ => 0))), (u5.2.2.2.2.2.2, .inl (X.2 0, 60, .inl (fun _ => 0)))] (va_pl ([]) (lotE (fun _ => 0) (fun _ => 0) (fun _ => 0) (fun _ => 0) (fun _ => 0) (fun _ => 0) (fun _ => 0)))) := by rw [hn9]; exact hD1.weaken (fun _ _ _ h => hFc _ h)
  generalize H1 = H at hP hS ⊢
  refine lv_astore_n (lv' := [(1, .ref qo), (0, .ref b)]) hx hb dL_law_7 rfl hl (by decide) rfl (fun ls hl => ?_)
  refine lv_aload_n hx hb dL_law_8 rfl (lv_at hl 0 rfl) ?_
  refine vp_callSi (W.runS (As := [.ref qo]) (rest := []) ⟨hx, hb, hml, hown, hts⟩ (mL_holds l X 20000 qo u5.1 u5.2.1 u5.2.2.1 u5.2.2.2.1 u5.2.2.2.2.1 u5.2.2.2.2.2.1 u5.2.2.2.2.2.2 0 (fun _ => none) (fun _ => 0) 1 1 0 0 0 0 0 0 0 0 0 (fun _ => 0) (fun _ => 0) ([]) (fun _ => 0) (fun _ => 0) (fun _ => 0) (fun _ => 0) (fun _ => 0) (fun _ => 0) (fun _ => 0)  1 (P_hold (Nat.le_refl 20000) REL_init)) (va_cwS 1 hts gL_law_L_holds rfl rfl rfl (by decide +kernel) ⟨Nat.le_of_ble_eq_true rfl, Nat.le_of_ble_eq_true rfl⟩) (oPreS hK hP hSt hS) rfl rfl hl.1 rfl (lv_room (Nat.le_of_ble_eq_true rfl)) dL_law_9 ⟨Nat.le_of_ble_eq_true rfl, Nat.le_of_ble_eq_true rfl⟩) (fun v9 e9 => ?_)
  rw [e9]
  refine lv_istore_n (lv' := [(2, .int 1), (1, .ref qo), (0, .ref b)]) hx hb dL_law_12 rfl hl (by decide) rfl (fun ls hl => ?_)
  refine lv_iconst (v := 3) hx hb dL_law_13 (by decide) ?_
  refine lv_aload_n hx hb dL_law_14 rfl (lv_at hl 2 rfl) ?_
  refine lv_iconst (v := 0) hx hb dL_law_15 (by decide) ?_
  refine lv_eqi (show _ = nI 0 from rfl) ?_
  refine vp_callSi (W.runS (As := [.ref b, .int (nI 0)]) (rest := [.int 3]) ⟨hx, hb, hml, hown, hts⟩ (mL_cell l b L xs 0 (by omega) (by omega)) (va_cwS 2 hts gL_law_L_cell rfl rfl rfl (by decide +kernel) ⟨Nat.le_of_ble_eq_true rfl, Nat.le_of_ble_eq_true rfl⟩) (cPreS hT hS) rfl rfl hl.1 rfl (lv_room (Nat.le_of_ble_eq_true rfl)) dL_law_16 ⟨Nat.le_of_ble_eq_true rfl, Nat.le_of_ble_eq_true rfl⟩) (fun v9 e9 => ?_)
  clear e9
  generalize v9 = x_1
  refine lv_bipush (v := 45) hx hb dL_law_19 (by decide) ?_
  obtain ⟨k_2, hk_3, ek_4⟩ := low_eq 20000 x_1 (n := 45) (by omega) (by omega)
  refine vp_callSi (W.runS (As := [.int x_1, .int 45]) (rest := [.int 3]) ⟨hx, hb, hml, hown, hts⟩ (mL_low l X 20000 x_1 45 (nI k_2) (show fL_low 20000 x_1 45 = some (nI k_2) from ek_4)) (va_cwS 2 hts gL_law_L_low rfl rfl rfl (by decide +kernel) ⟨Nat.le_of_ble_eq_true rfl, Nat.le_of_ble_eq_true rfl⟩) (rPreS hK hP hSt hS [] rfl) rfl rfl hl.1 rfl (lv_room (Nat.le_of_ble_eq_true rfl)) dL_law_21 ⟨Nat.le_of_ble_eq_true rfl, Nat.le_of_ble_eq_true rfl⟩) (fun v9 e9 => ?_)
  rw [e9]
  refine lv_iadd hx hb dL_law_24 ?_
  refine lv_eqi (show _ = nI (3 + k_2) from by rw [show (3 : Int32) = nI 3 from rfl, nI_add]) ?_
  refine lv_istore_n (lv' := [(3, .int (nI (3 + k_2))), (2, .int 1), (1, .ref qo), (0, .ref b)]) hx hb dL_law_25 rfl hl (by decide) rfl (fun ls hl => ?_)
  refine lv_iconst (v := 0) hx hb dL_law_26 (by decide) ?_
  refine lv_istore (lv' := [(4, .int 0), (3, .int (nI (3 + k_2))), (2, .int 1), (1, .ref qo), (0, .ref b)]) hx hb dL_law_27 hl (by decide) rfl (fun ls hl => ?_)
  exact law_loop hl9 X 20000 (Nat.le_refl _) hL C0 hK hSt qo u5.1 u5.2.1 u5.2.2.1 u5.2.2.2.1 u5.2.2.2.2.1 u5.2.2.2.2.2.1 u5.2.2.2.2.2.2 hT (3 + k_2) (by omega) (3 + k_2) 0 (by omega) 0 (fun _ => none) (fun _ => 0) 1 1 0 0 0 0 0 0 0 0 0 (fun _ => 0) (fun _ => 0) [] (fun _ => 0) (fun _ => 0) (fun _ => 0) (fun _ => 0) (fun _ => 0) (fun _ => 0) (fun _ => 0) REL_init H _ _ _ (Nat.le_of_ble_eq_true rfl) (Nat.le_of_ble_eq_true rfl) hP hD hS ls (lv_sub hl [4, 3, 2, 1, 0] rfl)
