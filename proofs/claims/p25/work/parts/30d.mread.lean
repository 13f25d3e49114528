def rmL_holds : Room := { frames := 7, cells := 0, slots := 0, locals := 126 }
set_option maxHeartbeats 4000000 in
set_option maxRecDepth 100000 in
theorem mL_holds (l : Launch) (X : cxT) (N : Nat) (a_office a_la a_ma a_plans a_course a_hist a_hr a_hb : Nat) (office_lotCount : Int32) (la_f : Nat → Option Nat) (ma_f : Nat → Int32) (plans_level : Int32) (plans_quality : Int32) (plans_twice : Int32) (course_steady : Int32) (course_rate : Int32) (course_state : Int32) (course_skipping : Int32) (course_changedAt : Int32) (course_acceptedInRow : Int32) (course_passedInGroup : Int32) (hist_length : Int32) (hr_f : Nat → Int32) (hb_f : Nat → Int32) (pL : List Nat) (pO : Nat → Int32) (pZ : Nat → Int32) (pF : Nat → Int64) (pV : Nat → Int32) (pT : Nat → Int32) (pI : Nat → Int32) (pB : Nat → Int32) (r : Int32) (hf0 : fL_holds N office_lotCount la_f course_state course_skipping pL pV pT pI pB = some r) : Met l yL_holds wsL_holds rmL_holds (rPre X (HAppend.hAppend (α := va_W) (β := va_W) (γ := va_W) [(a_office, .inr (4, [.ref a_la, .ref a_ma, .ref a_plans, .ref a_course, .int office_lotCount])), (a_la, .inl (X.2 3, 200, .inr (.inr (.inr (.inr la_f))))), (a_ma, .inl (X.2 2, 200, .inl ma_f)), (a_plans, .inr (3, [.int plans_level, .int plans_quality, .int plans_twice])), (a_course, .inr (0, [.int course_steady, .int course_rate, .int course_state, .int course_skipping, .ref a_hist, .int course_changedAt, .int course_acceptedInRow, .int course_passedInGroup])), (a_hist, .inr (1, [.ref a_hr, .ref a_hb, .int hist_length])), (a_hr, .inl (X.2 2, 60, .inl hr_f)), (a_hb, .inl (X.2 0, 60, .inl hb_f))] (va_pl pL (lotE pO pZ pF pV pT pI pB))) [.ref a_office]) (vp_Si (fun v : Int32 => v = r)) 0 0 (fun _ => False) := by
  refine Met.ofW (cc := cL_holds) (maxL := 9) (ret := (some .boolean)) (by decide) rfl ?_
  intro p e s m args below meth c s₁ B hml hv
  obtain ⟨rfl, hP, hK, hSt⟩ := hv
  have hx := B.exec
  have hb := B.bytes
  have hr := B.returns
  have hts := atoms_spec (ws := wsL_holds) B.pre
  have hown : s.vm.findClass RL = some m.cls := findClass_of_methodNamed B.named
  have hlocks := B.notSynchronized
  have hS : va_S (fun _ => False) s.heap s.heap [] := va_S.rf
  have hl := lv_entry ([.ref a_office]) (n := 9) (Nat.le_of_ble_eq_true rfl)
  rw [lg_entry_eq]
  generalize (lg_sl ([.ref a_office]) ++ List.replicate (9 - (lg_sl ([.ref a_office])).length) Slot.unset).toArray = ls at hl ⊢
  have hl : lv_has ls 9 [(0, .ref a_office)] := hl
  have B269 : (fL_holds_b269 N office_lotCount la_f course_state course_skipping pL pV pT pI pB  = some r → ∀ ls : Array Slot, lv_has ls 9 [] → W p l e (headSpec wsL_holds rmL_holds).room s m (([.ref a_office] : List Value).toArray) below meth c s.heap [] 0 0 (MQ below (vp_Si (fun v : Int32 => v = r)) ([.ref a_office] : List Value).toArray s 0 0 (fun _ => False)) (F0 m 269 ls [])) := by
    intro hf ls hl
    unfold fL_holds_b269 at hf
    refine lv_iconst (v := 1) hx hb dL_holds_269 (by decide) ?_
    refine lv_goto (tgt := 274) hx hb dL_holds_270 (by decide) ?_
    obtain rfl := Option.some.inj hf
    exact W.zret hx hb hr rfl (fun t ht hW => ⟨_, rfl, rfl, ht⟩) (fun _ h => by cases h) dL_holds_274
  have B206 : (∀ (x1 : Int32) (x2 : Int32) (x3 : Int32), fL_holds_b206 N office_lotCount la_f course_state course_skipping pL pV pT pI pB x1 x2 x3 = some r → ∀ ls : Array Slot, lv_has ls 9 [(0, .ref a_office), (1, .int x1), (2, .int x2), (3, .int x3)] → W p l e (headSpec wsL_holds rmL_holds).room s m (([.ref a_office] : List Value).toArray) below meth c s.heap [] 0 0 (MQ below (vp_Si (fun v : Int32 => v = r)) ([.ref a_office] : List Value).toArray s 0 0 (fun _ => False)) (F0 m 206 ls [])) := by
    intro x1 x2 x3 hf ls hl
    unfold fL_holds_b206 at hf
    refine lv_iload_n hx hb dL_holds_206 rfl (lv_at hl 2 rfl) ?_
    refine lv_if_eq (tgt := 273) hx hb dL_holds_207 (by decide) (fun c_44 => ?_) (fun c_44 => ?_)
    · rw [if_pos c_44] at hf
      refine lv_iconst (v := 0) hx hb dL_holds_273 (by decide) ?_
      obtain rfl := Option.some.inj hf
      exact W.zret hx hb hr rfl (fun t ht hW => ⟨_, rfl, rfl, ht⟩) (fun _ h => by cases h) dL_holds_274
    · rw [if_neg c_44] at hf
      refine lv_iload_n hx hb dL_holds_210 rfl (lv_at hl 1 rfl) ?_
      refine lv_aload_n hx hb dL_holds_211 rfl (lv_at hl 0 rfl) ?_
      obtain ⟨r_45, e_46, hf⟩ := bind_some hf
      refine vp_callSi (W.runV (As := []) (rest := [.int x1]) ⟨hx, hb, hml, hown, hts⟩ (mX5_lots l X N a_office a_la a_ma a_plans a_course a_hist a_hr a_hb office_lotCount la_f ma_f plans_level plans_quality plans_twice course_steady course_rate course_state course_skipping course_changedAt course_acceptedInRow course_passedInGroup hist_length hr_f hb_f pL pO pZ pF pV pT pI pB r_45 e_46) (cwV 0 hts gL_holds_X5_lots rfl rfl rfl (by decide +kernel) ⟨Nat.le_of_ble_eq_true rfl, Nat.le_of_ble_eq_true rfl⟩) (oPreV hK hP hSt hS 0 rfl rfl) rfl rfl hl.1 rfl (lv_room (Nat.le_of_ble_eq_true rfl)) dL_holds_212 ⟨Nat.zero_le _, Nat.zero_le _⟩) (fun v9 e9 => ?_)
      rw [e9]
      refine lv_icmp_ne (tgt := 273) hx hb dL_holds_215 (by decide) (fun c_47 => ?_) (fun c_47 => ?_)
      · rw [if_neg c_47] at hf
        refine lv_iconst (v := 0) hx hb dL_holds_273 (by decide) ?_
        obtain rfl := Option.some.inj hf
        exact W.zret hx hb hr rfl (fun t ht hW => ⟨_, rfl, rfl, ht⟩) (fun _ h => by cases h) dL_holds_274
      · rw [if_pos c_47] at hf
        refine lv_iload_n hx hb dL_holds_218 rfl (lv_at hl 3 rfl) ?_
        refine lv_aload_n hx hb dL_holds_219 rfl (lv_at hl 0 rfl) ?_
        refine lv_iconst (v := 0) hx hb dL_holds_220 (by decide) ?_
        obtain ⟨r_48, e_49, hf⟩ := bind_some hf
        rcases r_48 with z9 | q_50
        · exact nomatch (show (none : Option (Int32)) = some r from hf)
        simp only [Sum.elim_inr] at hf
        refine vp_callSi (W.runV (As := [.int 0]) (rest := [.int x3]) ⟨hx, hb, hml, hown, hts⟩ (nX5_count l X N a_office a_la a_ma a_plans a_course a_hist a_hr a_hb office_lotCount la_f ma_f plans_level plans_quality plans_twice course_steady course_rate course_state course_skipping course_changedAt course_acceptedInRow course_passedInGroup hist_length hr_f hb_f pL pO pZ pF pV pT pI pB 0 q_50 e_49) (cwV 1 hts gL_holds_X5_count rfl rfl rfl (by decide +kernel) ⟨Nat.le_of_ble_eq_true rfl, Nat.le_of_ble_eq_true rfl⟩) (oPreV hK hP hSt hS 0 rfl rfl) rfl rfl hl.1 rfl (lv_room (Nat.le_of_ble_eq_true rfl)) dL_holds_221 ⟨Nat.zero_le _, Nat.zero_le _⟩) (fun v9 e9 => ?_)
        rw [e9]
        refine lv_aload_n hx hb dL_holds_224 rfl (lv_at hl 0 rfl) ?_
        refine lv_iconst (v := 1) hx hb dL_holds_225 (by decide) ?_
        obtain ⟨r_51, e_52, hf⟩ := bind_some hf
        rcases r_51 with z9 | q_53
        · exact nomatch (show (none : Option (Int32)) = some r from hf)
        simp only [Sum.elim_inr] at hf
        refine vp_callSi (W.runV (As := [.int 1]) (rest := [.int q_50, .int x3]) ⟨hx, hb, hml, hown, hts⟩ (nX5_count l X N a_office a_la a_ma a_plans a_course a_hist a_hr a_hb office_lotCount la_f ma_f plans_level plans_quality plans_twice course_steady course_rate course_state course_skipping course_changedAt course_acceptedInRow course_passedInGroup hist_length hr_f hb_f pL pO pZ pF pV pT pI pB 1 q_53 e_52) (cwV 1 hts gL_holds_X5_count rfl rfl rfl (by decide +kernel) ⟨Nat.le_of_ble_eq_true rfl, Nat.le_of_ble_eq_true rfl⟩) (oPreV hK hP hSt hS 0 rfl rfl) rfl rfl hl.1 rfl (lv_room (Nat.le_of_ble_eq_true rfl)) dL_holds_226 ⟨Nat.zero_le _, Nat.zero_le _⟩) (fun v9 e9 => ?_)
        rw [e9]
        refine lv_iadd hx hb dL_holds_229 ?_
        refine lv_icmp_ne (tgt := 273) hx hb dL_holds_230 (by decide) (fun c_54 => ?_) (fun c_54 => ?_)
        · rw [if_neg c_54] at hf
          refine lv_iconst (v := 0) hx hb dL_holds_273 (by decide) ?_
          obtain rfl := Option.some.inj hf
          exact W.zret hx hb hr rfl (fun t ht hW => ⟨_, rfl, rfl, ht⟩) (fun _ h => by cases h) dL_holds_274
        · rw [if_pos c_54] at hf
          refine lv_aload_n hx hb dL_holds_233 rfl (lv_at hl 0 rfl) ?_
          obtain ⟨r_55, e_56, hf⟩ := bind_some hf
          refine vp_callSi (W.runV (As := []) (rest := []) ⟨hx, hb, hml, hown, hts⟩ (mX5_state l X N a_office a_la a_ma a_plans a_course a_hist a_hr a_hb office_lotCount la_f ma_f plans_level plans_quality plans_twice course_steady course_rate course_state course_skipping course_changedAt course_acceptedInRow course_passedInGroup hist_length hr_f hb_f pL pO pZ pF pV pT pI pB r_55 e_56) (cwV 0 hts gL_holds_X5_state rfl rfl rfl (by decide +kernel) ⟨Nat.le_of_ble_eq_true rfl, Nat.le_of_ble_eq_true rfl⟩) (oPreV hK hP hSt hS 0 rfl rfl) rfl rfl hl.1 rfl (lv_room (Nat.le_of_ble_eq_true rfl)) dL_holds_234 ⟨Nat.zero_le _, Nat.zero_le _⟩) (fun v9 e9 => ?_)
          rw [e9]
          refine lv_if_lt (tgt := 273) hx hb dL_holds_237 (by decide) (fun c_57 => ?_) (fun c_57 => ?_)
          · rw [if_pos c_57] at hf
            refine lv_iconst (v := 0) hx hb dL_holds_273 (by decide) ?_
            obtain rfl := Option.some.inj hf
            exact W.zret hx hb hr rfl (fun t ht hW => ⟨_, rfl, rfl, ht⟩) (fun _ h => by cases h) dL_holds_274
          · rw [if_neg c_57] at hf
            refine lv_aload_n hx hb dL_holds_240 rfl (lv_at hl 0 rfl) ?_
            obtain ⟨r_58, e_59, hf⟩ := bind_some hf
            refine vp_callSi (W.runV (As := []) (rest := []) ⟨hx, hb, hml, hown, hts⟩ (mX5_state l X N a_office a_la a_ma a_plans a_course a_hist a_hr a_hb office_lotCount la_f ma_f plans_level plans_quality plans_twice course_steady course_rate course_state course_skipping course_changedAt course_acceptedInRow course_passedInGroup hist_length hr_f hb_f pL pO pZ pF pV pT pI pB r_58 e_59) (cwV 0 hts gL_holds_X5_state rfl rfl rfl (by decide +kernel) ⟨Nat.le_of_ble_eq_true rfl, Nat.le_of_ble_eq_true rfl⟩) (oPreV hK hP hSt hS 0 rfl rfl) rfl rfl hl.1 rfl (lv_room (Nat.le_of_ble_eq_true rfl)) dL_holds_241 ⟨Nat.zero_le _, Nat.zero_le _⟩) (fun v9 e9 => ?_)
            rw [e9]
            refine lv_iconst (v := 3) hx hb dL_holds_244 (by decide) ?_
            refine lv_icmp_gt (tgt := 273) hx hb dL_holds_245 (by decide) (fun c_60 => ?_) (fun c_60 => ?_)
            · rw [if_pos c_60] at hf
              refine lv_iconst (v := 0) hx hb dL_holds_273 (by decide) ?_
              obtain rfl := Option.some.inj hf
              exact W.zret hx hb hr rfl (fun t ht hW => ⟨_, rfl, rfl, ht⟩) (fun _ h => by cases h) dL_holds_274
            · rw [if_neg c_60] at hf
              refine lv_aload_n hx hb dL_holds_248 rfl (lv_at hl 0 rfl) ?_
              obtain ⟨r_61, e_62, hf⟩ := bind_some hf
              refine vp_callSi (W.runV (As := []) (rest := []) ⟨hx, hb, hml, hown, hts⟩ (mX5_lots l X N a_office a_la a_ma a_plans a_course a_hist a_hr a_hb office_lotCount la_f ma_f plans_level plans_quality plans_twice course_steady course_rate course_state course_skipping course_changedAt course_acceptedInRow course_passedInGroup hist_length hr_f hb_f pL pO pZ pF pV pT pI pB r_61 e_62) (cwV 0 hts gL_holds_X5_lots rfl rfl rfl (by decide +kernel) ⟨Nat.le_of_ble_eq_true rfl, Nat.le_of_ble_eq_true rfl⟩) (oPreV hK hP hSt hS 0 rfl rfl) rfl rfl hl.1 rfl (lv_room (Nat.le_of_ble_eq_true rfl)) dL_holds_249 ⟨Nat.zero_le _, Nat.zero_le _⟩) (fun v9 e9 => ?_)
              rw [e9]
              refine lv_if_gt (tgt := 269) hx hb dL_holds_252 (by decide) (fun c_63 => ?_) (fun c_63 => ?_)
              · rw [if_pos c_63] at hf
                exact B269  hf ls (lv_sub hl [] rfl)
              · rw [if_neg c_63] at hf
                refine lv_aload_n hx hb dL_holds_255 rfl (lv_at hl 0 rfl) ?_
                obtain ⟨r_64, e_65, hf⟩ := bind_some hf
                refine vp_callSi (W.runV (As := []) (rest := []) ⟨hx, hb, hml, hown, hts⟩ (mX5_state l X N a_office a_la a_ma a_plans a_course a_hist a_hr a_hb office_lotCount la_f ma_f plans_level plans_quality plans_twice course_steady course_rate course_state course_skipping course_changedAt course_acceptedInRow course_passedInGroup hist_length hr_f hb_f pL pO pZ pF pV pT pI pB r_64 e_65) (cwV 0 hts gL_holds_X5_state rfl rfl rfl (by decide +kernel) ⟨Nat.le_of_ble_eq_true rfl, Nat.le_of_ble_eq_true rfl⟩) (oPreV hK hP hSt hS 0 rfl rfl) rfl rfl hl.1 rfl (lv_room (Nat.le_of_ble_eq_true rfl)) dL_holds_256 ⟨Nat.zero_le _, Nat.zero_le _⟩) (fun v9 e9 => ?_)
                rw [e9]
                refine lv_if_ne (tgt := 273) hx hb dL_holds_259 (by decide) (fun c_66 => ?_) (fun c_66 => ?_)
                · rw [if_neg c_66] at hf
                  refine lv_iconst (v := 0) hx hb dL_holds_273 (by decide) ?_
                  obtain rfl := Option.some.inj hf
                  exact W.zret hx hb hr rfl (fun t ht hW => ⟨_, rfl, rfl, ht⟩) (fun _ h => by cases h) dL_holds_274
                · rw [if_pos c_66] at hf
                  refine lv_aload_n hx hb dL_holds_262 rfl (lv_at hl 0 rfl) ?_
                  obtain ⟨r_67, e_68, hf⟩ := bind_some hf
                  refine vp_callSi (W.runV (As := []) (rest := []) ⟨hx, hb, hml, hown, hts⟩ (mX5_isSkipping l X N a_office a_la a_ma a_plans a_course a_hist a_hr a_hb office_lotCount la_f ma_f plans_level plans_quality plans_twice course_steady course_rate course_state course_skipping course_changedAt course_acceptedInRow course_passedInGroup hist_length hr_f hb_f pL pO pZ pF pV pT pI pB r_67 e_68) (cwV 0 hts gL_holds_X5_isSkipping rfl rfl rfl (by decide +kernel) ⟨Nat.le_of_ble_eq_true rfl, Nat.le_of_ble_eq_true rfl⟩) (oPreV hK hP hSt hS 0 rfl rfl) rfl rfl hl.1 rfl (lv_room (Nat.le_of_ble_eq_true rfl)) dL_holds_263 ⟨Nat.zero_le _, Nat.zero_le _⟩) (fun v9 e9 => ?_)
                  rw [e9]
                  refine lv_if_ne (tgt := 273) hx hb dL_holds_266 (by decide) (fun c_69 => ?_) (fun c_69 => ?_)
                  · rw [if_neg c_69] at hf
                    refine lv_iconst (v := 0) hx hb dL_holds_273 (by decide) ?_
                    obtain rfl := Option.some.inj hf
                    exact W.zret hx hb hr rfl (fun t ht hW => ⟨_, rfl, rfl, ht⟩) (fun _ h => by cases h) dL_holds_274
                  · rw [if_pos c_69] at hf
                    exact B269  hf ls (lv_sub hl [] rfl)
  have B199 : ∀ (rec_30 : Int32 → Int32 → Int32 → Int32 → Option (Int32)), (∀ (x1 : Int32) (x2 : Int32) (x3 : Int32) (x4 : Int32), rec_30 x1 x2 x3 x4 = some r → ∀ ls : Array Slot, lv_has ls 9 [(0, .ref a_office), (1, .int x1), (2, .int x2), (3, .int x3), (4, .int x4)] → W p l e (headSpec wsL_holds rmL_holds).room s m (([.ref a_office] : List Value).toArray) below meth c s.heap [] 0 0 (MQ below (vp_Si (fun v : Int32 => v = r)) ([.ref a_office] : List Value).toArray s 0 0 (fun _ => False)) (F0 m 30 ls [])) → (∀ (x1 : Int32) (x3 : Int32) (x4 : Int32) (y0 : Int32), fL_holds_b199 N office_lotCount la_f course_state course_skipping pL pV pT pI pB rec_30 x1 x3 x4 y0 = some r → ∀ ls : Array Slot, lv_has ls 9 [(0, .ref a_office), (1, .int x1), (3, .int x3), (4, .int x4)] → W p l e (headSpec wsL_holds rmL_holds).room s m (([.ref a_office] : List Value).toArray) below meth c s.heap [] 0 0 (MQ below (vp_Si (fun v : Int32 => v = r)) ([.ref a_office] : List Value).toArray s 0 0 (fun _ => False)) (F0 m 199 ls [.int y0])) := by
    intro rec_30 hrec_30 x1 x3 x4 y0 hf ls hl
    unfold fL_holds_b199 at hf
    refine lv_istore_n (lv' := [(2, .int y0), (0, .ref a_office), (1, .int x1), (3, .int x3), (4, .int x4)]) hx hb dL_holds_199 rfl hl (by decide) rfl (fun ls hl => ?_)
    refine lv_iinc (v := x4 + 1) (lv' := [(4, .int (x4 + 1)), (2, .int y0), (0, .ref a_office), (1, .int x1), (3, .int x3)]) hx hb dL_holds_200 hl (k := 4) rfl rfl (by decide) rfl (fun ls hl => ?_)
    refine lv_goto (tgt := 30) hx hb dL_holds_203 (by decide) ?_
    exact hrec_30 x1 y0 x3 (x4 + 1) hf ls (lv_sub hl [2, 3, 1, 4, 0] rfl)
  have B198 : ∀ (rec_30 : Int32 → Int32 → Int32 → Int32 → Option (Int32)), (∀ (x1 : Int32) (x2 : Int32) (x3 : Int32) (x4 : Int32), rec_30 x1 x2 x3 x4 = some r → ∀ ls : Array Slot, lv_has ls 9 [(0, .ref a_office), (1, .int x1), (2, .int x2), (3, .int x3), (4, .int x4)] → W p l e (headSpec wsL_holds rmL_holds).room s m (([.ref a_office] : List Value).toArray) below meth c s.heap [] 0 0 (MQ below (vp_Si (fun v : Int32 => v = r)) ([.ref a_office] : List Value).toArray s 0 0 (fun _ => False)) (F0 m 30 ls [])) → (∀ (x1 : Int32) (x3 : Int32) (x4 : Int32), fL_holds_b198 N office_lotCount la_f course_state course_skipping pL pV pT pI pB rec_30 x1 x3 x4 = some r → ∀ ls : Array Slot, lv_has ls 9 [(0, .ref a_office), (1, .int x1), (3, .int x3), (4, .int x4)] → W p l e (headSpec wsL_holds rmL_holds).room s m (([.ref a_office] : List Value).toArray) below meth c s.heap [] 0 0 (MQ below (vp_Si (fun v : Int32 => v = r)) ([.ref a_office] : List Value).toArray s 0 0 (fun _ => False)) (F0 m 198 ls [])) := by
    intro rec_30 hrec_30 x1 x3 x4 hf ls hl
    unfold fL_holds_b198 at hf
    refine lv_iconst (v := 0) hx hb dL_holds_198 (by decide) ?_
    exact B199 rec_30 hrec_30 x1 x3 x4 0 hf ls (lv_sub hl [0, 1, 2, 3] rfl)
  have B164 : ∀ (rec_30 : Int32 → Int32 → Int32 → Int32 → Option (Int32)), (∀ (x1 : Int32) (x2 : Int32) (x3 : Int32) (x4 : Int32), rec_30 x1 x2 x3 x4 = some r → ∀ ls : Array Slot, lv_has ls 9 [(0, .ref a_office), (1, .int x1), (2, .int x2), (3, .int x3), (4, .int x4)] → W p l e (headSpec wsL_holds rmL_holds).room s m (([.ref a_office] : List Value).toArray) below meth c s.heap [] 0 0 (MQ below (vp_Si (fun v : Int32 => v = r)) ([.ref a_office] : List Value).toArray s 0 0 (fun _ => False)) (F0 m 30 ls [])) → (∀ (x1 : Int32) (x3 : Int32) (x4 : Int32) (x5 : Int32) (x8 : Int32) (y0 : Int32) (y1 : Int32), fL_holds_b164 N office_lotCount la_f course_state course_skipping pL pV pT pI pB rec_30 x1 x3 x4 x5 x8 y0 y1 = some r → ∀ ls : Array Slot, lv_has ls 9 [(0, .ref a_office), (1, .int x1), (3, .int x3), (4, .int x4), (5, .int x5), (8, .int x8)] → W p l e (headSpec wsL_holds rmL_holds).room s m (([.ref a_office] : List Value).toArray) below meth c s.heap [] 0 0 (MQ below (vp_Si (fun v : Int32 => v = r)) ([.ref a_office] : List Value).toArray s 0 0 (fun _ => False)) (F0 m 164 ls [.int y1, .int y0])) := by
    intro rec_30 hrec_30 x1 x3 x4 x5 x8 y0 y1 hf ls hl
    unfold fL_holds_b164 at hf
    refine lv_icmp_ne (tgt := 198) hx hb dL_holds_164 (by decide) (fun c_34 => ?_) (fun c_34 => ?_)
    · rw [if_neg c_34] at hf
      exact B198 rec_30 hrec_30 x1 x3 x4 hf ls (lv_sub hl [0, 1, 2, 3] rfl)
    · rw [if_pos c_34] at hf
      refine lv_aload_n hx hb dL_holds_167 rfl (lv_at hl 0 rfl) ?_
      refine lv_iload hx hb dL_holds_168 (lv_at hl 4 rfl) ?_
      obtain ⟨r_35, e_36, hf⟩ := bind_some hf
      rcases r_35 with z9 | q_37
      · exact nomatch (show (none : Option (Int32)) = some r from hf)
      simp only [Sum.elim_inr] at hf
      refine vp_callSi (W.runV (As := [.int x5]) (rest := []) ⟨hx, hb, hml, hown, hts⟩ (nX5_badIn l X N a_office a_la a_ma a_plans a_course a_hist a_hr a_hb office_lotCount la_f ma_f plans_level plans_quality plans_twice course_steady course_rate course_state course_skipping course_changedAt course_acceptedInRow course_passedInGroup hist_length hr_f hb_f pL pO pZ pF pV pT pI pB x5 q_37 e_36) (cwV 1 hts gL_holds_X5_badIn rfl rfl rfl (by decide +kernel) ⟨Nat.le_of_ble_eq_true rfl, Nat.le_of_ble_eq_true rfl⟩) (oPreV hK hP hSt hS 0 rfl rfl) rfl rfl hl.1 rfl (lv_room (Nat.le_of_ble_eq_true rfl)) dL_holds_170 ⟨Nat.zero_le _, Nat.zero_le _⟩) (fun v9 e9 => ?_)
      rw [e9]
      refine lv_iload hx hb dL_holds_173 (lv_at hl 5 rfl) ?_
      refine lv_icmp_gt (tgt := 198) hx hb dL_holds_175 (by decide) (fun c_38 => ?_) (fun c_38 => ?_)
      · rw [if_pos c_38] at hf
        exact B198 rec_30 hrec_30 x1 x3 x4 hf ls (lv_sub hl [0, 1, 2, 3] rfl)
      · rw [if_neg c_38] at hf
        refine lv_aload_n hx hb dL_holds_178 rfl (lv_at hl 0 rfl) ?_
        refine lv_iload hx hb dL_holds_179 (lv_at hl 4 rfl) ?_
        obtain ⟨r_39, e_40, hf⟩ := bind_some hf
        rcases r_39 with z9 | q_41
        · exact nomatch (show (none : Option (Int32)) = some r from hf)
        simp only [Sum.elim_inr] at hf
        refine vp_callSi (W.runV (As := [.int x5]) (rest := []) ⟨hx, hb, hml, hown, hts⟩ (nX5_badIn l X N a_office a_la a_ma a_plans a_course a_hist a_hr a_hb office_lotCount la_f ma_f plans_level plans_quality plans_twice course_steady course_rate course_state course_skipping course_changedAt course_acceptedInRow course_passedInGroup hist_length hr_f hb_f pL pO pZ pF pV pT pI pB x5 q_41 e_40) (cwV 1 hts gL_holds_X5_badIn rfl rfl rfl (by decide +kernel) ⟨Nat.le_of_ble_eq_true rfl, Nat.le_of_ble_eq_true rfl⟩) (oPreV hK hP hSt hS 0 rfl rfl) rfl rfl hl.1 rfl (lv_room (Nat.le_of_ble_eq_true rfl)) dL_holds_181 ⟨Nat.zero_le _, Nat.zero_le _⟩) (fun v9 e9 => ?_)
        rw [e9]
        refine lv_if_lt (tgt := 198) hx hb dL_holds_184 (by decide) (fun c_42 => ?_) (fun c_42 => ?_)
        · rw [if_pos c_42] at hf
          exact B198 rec_30 hrec_30 x1 x3 x4 hf ls (lv_sub hl [0, 1, 2, 3] rfl)
        · rw [if_neg c_42] at hf
          refine lv_iload hx hb dL_holds_187 (lv_at hl 5 rfl) ?_
          refine lv_bipush (v := 50) hx hb dL_holds_189 (by decide) ?_
          refine lv_icmp_gt (tgt := 198) hx hb dL_holds_191 (by decide) (fun c_43 => ?_) (fun c_43 => ?_)
          · rw [if_pos c_43] at hf
            exact B198 rec_30 hrec_30 x1 x3 x4 hf ls (lv_sub hl [0, 1, 2, 3] rfl)
          · rw [if_neg c_43] at hf
            refine lv_iconst (v := 1) hx hb dL_holds_194 (by decide) ?_
            refine lv_goto (tgt := 199) hx hb dL_holds_195 (by decide) ?_
            exact B199 rec_30 hrec_30 x1 x3 x4 1 hf ls (lv_sub hl [0, 1, 2, 3] rfl)
  have B153 : ∀ (rec_30 : Int32 → Int32 → Int32 → Int32 → Option (Int32)), (∀ (x1 : Int32) (x2 : Int32) (x3 : Int32) (x4 : Int32), rec_30 x1 x2 x3 x4 = some r → ∀ ls : Array Slot, lv_has ls 9 [(0, .ref a_office), (1, .int x1), (2, .int x2), (3, .int x3), (4, .int x4)] → W p l e (headSpec wsL_holds rmL_holds).room s m (([.ref a_office] : List Value).toArray) below meth c s.heap [] 0 0 (MQ below (vp_Si (fun v : Int32 => v = r)) ([.ref a_office] : List Value).toArray s 0 0 (fun _ => False)) (F0 m 30 ls [])) → (∀ (x1 : Int32) (x3 : Int32) (x4 : Int32) (x5 : Int32) (x6 : Int32) (x8 : Int32) (y0 : Int32), fL_holds_b153 N office_lotCount la_f course_state course_skipping pL pV pT pI pB rec_30 x1 x3 x4 x5 x6 x8 y0 = some r → ∀ ls : Array Slot, lv_has ls 9 [(0, .ref a_office), (1, .int x1), (3, .int x3), (4, .int x4), (5, .int x5), (6, .int x6), (8, .int x8)] → W p l e (headSpec wsL_holds rmL_holds).room s m (([.ref a_office] : List Value).toArray) below meth c s.heap [] 0 0 (MQ below (vp_Si (fun v : Int32 => v = r)) ([.ref a_office] : List Value).toArray s 0 0 (fun _ => False)) (F0 m 153 ls [.int y0])) := by
    intro rec_30 hrec_30 x1 x3 x4 x5 x6 x8 y0 hf ls hl
    unfold fL_holds_b153 at hf
    refine lv_iload hx hb dL_holds_153 (lv_at hl 5 rfl) ?_
    refine lv_iconst (v := 2) hx hb dL_holds_155 (by decide) ?_
    refine lv_icmp_ge (tgt := 163) hx hb dL_holds_156 (by decide) (fun c_33 => ?_) (fun c_33 => ?_)
    · rw [if_pos c_33] at hf
      refine lv_iconst (v := 0) hx hb dL_holds_163 (by decide) ?_
      exact B164 rec_30 hrec_30 x1 x3 x4 x5 x8 y0 0 hf ls (lv_sub hl [0, 1, 2, 3, 4, 6] rfl)
    · rw [if_neg c_33] at hf
      refine lv_iconst (v := 1) hx hb dL_holds_159 (by decide) ?_
      refine lv_goto (tgt := 164) hx hb dL_holds_160 (by decide) ?_
      exact B164 rec_30 hrec_30 x1 x3 x4 x5 x8 y0 1 hf ls (lv_sub hl [0, 1, 2, 3, 4, 6] rfl)
  have B140 : ∀ (rec_30 : Int32 → Int32 → Int32 → Int32 → Option (Int32)), (∀ (x1 : Int32) (x2 : Int32) (x3 : Int32) (x4 : Int32), rec_30 x1 x2 x3 x4 = some r → ∀ ls : Array Slot, lv_has ls 9 [(0, .ref a_office), (1, .int x1), (2, .int x2), (3, .int x3), (4, .int x4)] → W p l e (headSpec wsL_holds rmL_holds).room s m (([.ref a_office] : List Value).toArray) below meth c s.heap [] 0 0 (MQ below (vp_Si (fun v : Int32 => v = r)) ([.ref a_office] : List Value).toArray s 0 0 (fun _ => False)) (F0 m 30 ls [])) → (∀ (x1 : Int32) (x3 : Int32) (x4 : Int32) (x5 : Int32) (x6 : Int32) (x8 : Int32) (y0 : Int32) (y1 : Int32), fL_holds_b140 N office_lotCount la_f course_state course_skipping pL pV pT pI pB rec_30 x1 x3 x4 x5 x6 x8 y0 y1 = some r → ∀ ls : Array Slot, lv_has ls 9 [(0, .ref a_office), (1, .int x1), (3, .int x3), (4, .int x4), (5, .int x5), (6, .int x6), (8, .int x8)] → W p l e (headSpec wsL_holds rmL_holds).room s m (([.ref a_office] : List Value).toArray) below meth c s.heap [] 0 0 (MQ below (vp_Si (fun v : Int32 => v = r)) ([.ref a_office] : List Value).toArray s 0 0 (fun _ => False)) (F0 m 140 ls [.int y1, .int y0])) := by
    intro rec_30 hrec_30 x1 x3 x4 x5 x6 x8 y0 y1 hf ls hl
    unfold fL_holds_b140 at hf
    refine lv_icmp_ne (tgt := 198) hx hb dL_holds_140 (by decide) (fun c_31 => ?_) (fun c_31 => ?_)
    · rw [if_neg c_31] at hf
      exact B198 rec_30 hrec_30 x1 x3 x4 hf ls (lv_sub hl [0, 1, 2, 3] rfl)
    · rw [if_pos c_31] at hf
      refine lv_iload hx hb dL_holds_143 (lv_at hl 6 rfl) ?_
      refine lv_if_le (tgt := 152) hx hb dL_holds_145 (by decide) (fun c_32 => ?_) (fun c_32 => ?_)
      · rw [if_pos c_32] at hf
        refine lv_iconst (v := 0) hx hb dL_holds_152 (by decide) ?_
        exact B153 rec_30 hrec_30 x1 x3 x4 x5 x6 x8 0 hf ls (lv_sub hl [0, 1, 2, 3, 4, 5, 6] rfl)
      · rw [if_neg c_32] at hf
        refine lv_iconst (v := 1) hx hb dL_holds_148 (by decide) ?_
        refine lv_goto (tgt := 153) hx hb dL_holds_149 (by decide) ?_
        exact B153 rec_30 hrec_30 x1 x3 x4 x5 x6 x8 1 hf ls (lv_sub hl [0, 1, 2, 3, 4, 5, 6] rfl)
  have B129 : ∀ (rec_30 : Int32 → Int32 → Int32 → Int32 → Option (Int32)), (∀ (x1 : Int32) (x2 : Int32) (x3 : Int32) (x4 : Int32), rec_30 x1 x2 x3 x4 = some r → ∀ ls : Array Slot, lv_has ls 9 [(0, .ref a_office), (1, .int x1), (2, .int x2), (3, .int x3), (4, .int x4)] → W p l e (headSpec wsL_holds rmL_holds).room s m (([.ref a_office] : List Value).toArray) below meth c s.heap [] 0 0 (MQ below (vp_Si (fun v : Int32 => v = r)) ([.ref a_office] : List Value).toArray s 0 0 (fun _ => False)) (F0 m 30 ls [])) → (∀ (x1 : Int32) (x3 : Int32) (x4 : Int32) (x5 : Int32) (x6 : Int32) (x7 : Int32) (x8 : Int32) (y0 : Int32), fL_holds_b129 N office_lotCount la_f course_state course_skipping pL pV pT pI pB rec_30 x1 x3 x4 x5 x6 x7 x8 y0 = some r → ∀ ls : Array Slot, lv_has ls 9 [(0, .ref a_office), (1, .int x1), (3, .int x3), (4, .int x4), (5, .int x5), (6, .int x6), (7, .int x7), (8, .int x8)] → W p l e (headSpec wsL_holds rmL_holds).room s m (([.ref a_office] : List Value).toArray) below meth c s.heap [] 0 0 (MQ below (vp_Si (fun v : Int32 => v = r)) ([.ref a_office] : List Value).toArray s 0 0 (fun _ => False)) (F0 m 129 ls [.int y0])) := by
    intro rec_30 hrec_30 x1 x3 x4 x5 x6 x7 x8 y0 hf ls hl
    unfold fL_holds_b129 at hf
    refine lv_iload hx hb dL_holds_129 (lv_at hl 6 rfl) ?_
    refine lv_iconst (v := 3) hx hb dL_holds_131 (by decide) ?_
    refine lv_icmp_ne (tgt := 139) hx hb dL_holds_132 (by decide) (fun c_30 => ?_) (fun c_30 => ?_)
    · rw [if_neg c_30] at hf
      refine lv_iconst (v := 0) hx hb dL_holds_139 (by decide) ?_
      exact B140 rec_30 hrec_30 x1 x3 x4 x5 x6 x8 y0 0 hf ls (lv_sub hl [0, 1, 2, 3, 4, 5, 7] rfl)
    · rw [if_pos c_30] at hf
      refine lv_iconst (v := 1) hx hb dL_holds_135 (by decide) ?_
      refine lv_goto (tgt := 140) hx hb dL_holds_136 (by decide) ?_
      exact B140 rec_30 hrec_30 x1 x3 x4 x5 x6 x8 y0 1 hf ls (lv_sub hl [0, 1, 2, 3, 4, 5, 7] rfl)
  have B107 : ∀ (rec_30 : Int32 → Int32 → Int32 → Int32 → Option (Int32)), (∀ (x1 : Int32) (x2 : Int32) (x3 : Int32) (x4 : Int32), rec_30 x1 x2 x3 x4 = some r → ∀ ls : Array Slot, lv_has ls 9 [(0, .ref a_office), (1, .int x1), (2, .int x2), (3, .int x3), (4, .int x4)] → W p l e (headSpec wsL_holds rmL_holds).room s m (([.ref a_office] : List Value).toArray) below meth c s.heap [] 0 0 (MQ below (vp_Si (fun v : Int32 => v = r)) ([.ref a_office] : List Value).toArray s 0 0 (fun _ => False)) (F0 m 30 ls [])) → (∀ (x1 : Int32) (x3 : Int32) (x4 : Int32) (x5 : Int32) (x6 : Int32) (x7 : Int32) (x8 : Int32), fL_holds_b107 N office_lotCount la_f course_state course_skipping pL pV pT pI pB rec_30 x1 x3 x4 x5 x6 x7 x8 = some r → ∀ ls : Array Slot, lv_has ls 9 [(0, .ref a_office), (1, .int x1), (3, .int x3), (4, .int x4), (5, .int x5), (6, .int x6), (7, .int x7), (8, .int x8)] → W p l e (headSpec wsL_holds rmL_holds).room s m (([.ref a_office] : List Value).toArray) below meth c s.heap [] 0 0 (MQ below (vp_Si (fun v : Int32 => v = r)) ([.ref a_office] : List Value).toArray s 0 0 (fun _ => False)) (F0 m 107 ls [])) := by
    intro rec_30 hrec_30 x1 x3 x4 x5 x6 x7 x8 hf ls hl
    unfold fL_holds_b107 at hf
    refine lv_iload hx hb dL_holds_107 (lv_at hl 5 rfl) ?_
    refine lv_if_lt (tgt := 198) hx hb dL_holds_109 (by decide) (fun c_27 => ?_) (fun c_27 => ?_)
    · rw [if_pos c_27] at hf
      exact B198 rec_30 hrec_30 x1 x3 x4 hf ls (lv_sub hl [0, 1, 2, 3] rfl)
    · rw [if_neg c_27] at hf
      refine lv_iload hx hb dL_holds_112 (lv_at hl 5 rfl) ?_
      refine lv_iconst (v := 3) hx hb dL_holds_114 (by decide) ?_
      refine lv_icmp_gt (tgt := 198) hx hb dL_holds_115 (by decide) (fun c_28 => ?_) (fun c_28 => ?_)
      · rw [if_pos c_28] at hf
        exact B198 rec_30 hrec_30 x1 x3 x4 hf ls (lv_sub hl [0, 1, 2, 3] rfl)
      · rw [if_neg c_28] at hf
        refine lv_iload hx hb dL_holds_118 (lv_at hl 5 rfl) ?_
        refine lv_iconst (v := 3) hx hb dL_holds_120 (by decide) ?_
        refine lv_icmp_ne (tgt := 128) hx hb dL_holds_121 (by decide) (fun c_29 => ?_) (fun c_29 => ?_)
        · rw [if_neg c_29] at hf
          refine lv_iconst (v := 0) hx hb dL_holds_128 (by decide) ?_
          exact B129 rec_30 hrec_30 x1 x3 x4 x5 x6 x7 x8 0 hf ls (lv_sub hl [0, 1, 2, 3, 4, 5, 6, 7] rfl)
        · rw [if_pos c_29] at hf
          refine lv_iconst (v := 1) hx hb dL_holds_124 (by decide) ?_
          refine lv_goto (tgt := 129) hx hb dL_holds_125 (by decide) ?_
          exact B129 rec_30 hrec_30 x1 x3 x4 x5 x6 x7 x8 1 hf ls (lv_sub hl [0, 1, 2, 3, 4, 5, 6, 7] rfl)
  have B87 : ∀ (rec_30 : Int32 → Int32 → Int32 → Int32 → Option (Int32)), (∀ (x1 : Int32) (x2 : Int32) (x3 : Int32) (x4 : Int32), rec_30 x1 x2 x3 x4 = some r → ∀ ls : Array Slot, lv_has ls 9 [(0, .ref a_office), (1, .int x1), (2, .int x2), (3, .int x3), (4, .int x4)] → W p l e (headSpec wsL_holds rmL_holds).room s m (([.ref a_office] : List Value).toArray) below meth c s.heap [] 0 0 (MQ below (vp_Si (fun v : Int32 => v = r)) ([.ref a_office] : List Value).toArray s 0 0 (fun _ => False)) (F0 m 30 ls [])) → (∀ (x1 : Int32) (x4 : Int32) (x5 : Int32) (x6 : Int32) (x7 : Int32) (x8 : Int32) (y0 : Int32) (y1 : Int32), fL_holds_b87 N office_lotCount la_f course_state course_skipping pL pV pT pI pB rec_30 x1 x4 x5 x6 x7 x8 y0 y1 = some r → ∀ ls : Array Slot, lv_has ls 9 [(0, .ref a_office), (1, .int x1), (4, .int x4), (5, .int x5), (6, .int x6), (7, .int x7), (8, .int x8)] → W p l e (headSpec wsL_holds rmL_holds).room s m (([.ref a_office] : List Value).toArray) below meth c s.heap [] 0 0 (MQ below (vp_Si (fun v : Int32 => v = r)) ([.ref a_office] : List Value).toArray s 0 0 (fun _ => False)) (F0 m 87 ls [.int y1, .int y0])) := by
    intro rec_30 hrec_30 x1 x4 x5 x6 x7 x8 y0 y1 hf ls hl
    unfold fL_holds_b87 at hf
    refine lv_iadd hx hb dL_holds_87 ?_
    refine lv_istore_n (lv' := [(3, .int (y0 + y1)), (0, .ref a_office), (1, .int x1), (4, .int x4), (5, .int x5), (6, .int x6), (7, .int x7), (8, .int x8)]) hx hb dL_holds_88 rfl hl (by decide) rfl (fun ls hl => ?_)
    refine lv_iload hx hb dL_holds_89 (lv_at hl 3 rfl) ?_
    refine lv_if_eq (tgt := 107) hx hb dL_holds_91 (by decide) (fun c_22 => ?_) (fun c_22 => ?_)
    · rw [if_pos c_22] at hf
      exact B107 rec_30 hrec_30 x1 (y0 + y1) x4 x5 x6 x7 x8 hf ls (lv_sub hl [1, 2, 0, 3, 4, 5, 6, 7] rfl)
    · rw [if_neg c_22] at hf
      refine lv_aload_n hx hb dL_holds_94 rfl (lv_at hl 1 rfl) ?_
      refine lv_iload hx hb dL_holds_95 (lv_at hl 3 rfl) ?_
      refine lv_iconst (v := 1) hx hb dL_holds_97 (by decide) ?_
      refine lv_isub hx hb dL_holds_98 ?_
      obtain ⟨r_23, e_24, hf⟩ := bind_some hf
      rcases r_23 with z9 | q_25
      · exact nomatch (show (none : Option (Int32)) = some r from hf)
      simp only [Sum.elim_inr] at hf
      refine vp_callSi (W.runV (As := [.int (x4 - 1)]) (rest := []) ⟨hx, hb, hml, hown, hts⟩ (nX5_orderAt l X N a_office a_la a_ma a_plans a_course a_hist a_hr a_hb office_lotCount la_f ma_f plans_level plans_quality plans_twice course_steady course_rate course_state course_skipping course_changedAt course_acceptedInRow course_passedInGroup hist_length hr_f hb_f pL pO pZ pF pV pT pI pB (x4 - 1) q_25 e_24) (cwV 1 hts gL_holds_X5_orderAt rfl rfl rfl (by decide +kernel) ⟨Nat.le_of_ble_eq_true rfl, Nat.le_of_ble_eq_true rfl⟩) (oPreV hK hP hSt hS 0 rfl rfl) rfl rfl hl.1 rfl (lv_room (Nat.le_of_ble_eq_true rfl)) dL_holds_99 ⟨Nat.zero_le _, Nat.zero_le _⟩) (fun v9 e9 => ?_)
      rw [e9]
      refine lv_iload hx hb dL_holds_102 (lv_at hl 4 rfl) ?_
      refine lv_icmp_ge (tgt := 198) hx hb dL_holds_104 (by decide) (fun c_26 => ?_) (fun c_26 => ?_)
      · rw [if_pos c_26] at hf
        exact B198 rec_30 hrec_30 x1 (y0 + y1) x4 hf ls (lv_sub hl [1, 2, 0, 3] rfl)
      · rw [if_neg c_26] at hf
        exact B107 rec_30 hrec_30 x1 (y0 + y1) x4 x5 x6 x7 x8 hf ls (lv_sub hl [1, 2, 0, 3, 4, 5, 6, 7] rfl)
  have B30 : ∀ k : Nat, (∀ (x1 : Int32) (x2 : Int32) (x3 : Int32) (x4 : Int32), fL_holds_b30 N office_lotCount la_f course_state course_skipping pL pV pT pI pB k x1 x2 x3 x4 = some r → ∀ ls : Array Slot, lv_has ls 9 [(0, .ref a_office), (1, .int x1), (2, .int x2), (3, .int x3), (4, .int x4)] → W p l e (headSpec wsL_holds rmL_holds).room s m (([.ref a_office] : List Value).toArray) below meth c s.heap [] 0 0 (MQ below (vp_Si (fun v : Int32 => v = r)) ([.ref a_office] : List Value).toArray s 0 0 (fun _ => False)) (F0 m 30 ls [])) := by
    intro k
    induction k with
    | zero =>
      intro x1 x2 x3 x4 hf ls hl
      exact nomatch (show (none : Option (Int32)) = some r from hf)
    | succ k ih =>
      intro x1 x2 x3 x4 hf ls hl
      unfold fL_holds_b30 at hf
      refine lv_iload hx hb dL_holds_30 (lv_at hl 4 rfl) ?_
      refine lv_aload_n hx hb dL_holds_32 rfl (lv_at hl 0 rfl) ?_
      obtain ⟨r_5, e_6, hf⟩ := bind_some hf
      refine vp_callSi (W.runV (As := []) (rest := [.int x4]) ⟨hx, hb, hml, hown, hts⟩ (mX5_lots l X N a_office a_la a_ma a_plans a_course a_hist a_hr a_hb office_lotCount la_f ma_f plans_level plans_quality plans_twice course_steady course_rate course_state course_skipping course_changedAt course_acceptedInRow course_passedInGroup hist_length hr_f hb_f pL pO pZ pF pV pT pI pB r_5 e_6) (cwV 0 hts gL_holds_X5_lots rfl rfl rfl (by decide +kernel) ⟨Nat.le_of_ble_eq_true rfl, Nat.le_of_ble_eq_true rfl⟩) (oPreV hK hP hSt hS 0 rfl rfl) rfl rfl hl.1 rfl (lv_room (Nat.le_of_ble_eq_true rfl)) dL_holds_33 ⟨Nat.zero_le _, Nat.zero_le _⟩) (fun v9 e9 => ?_)
      rw [e9]
      refine lv_icmp_ge (tgt := 206) hx hb dL_holds_36 (by decide) (fun c_7 => ?_) (fun c_7 => ?_)
      · rw [if_pos c_7] at hf
        exact B206 x1 x2 x3 hf ls (lv_sub hl [0, 1, 2, 3] rfl)
      · rw [if_neg c_7] at hf
        refine lv_iload_n hx hb dL_holds_39 rfl (lv_at hl 2 rfl) ?_
        refine lv_if_eq (tgt := 206) hx hb dL_holds_40 (by decide) (fun c_8 => ?_) (fun c_8 => ?_)
        · rw [if_pos c_8] at hf
          exact B206 x1 x2 x3 hf ls (lv_sub hl [0, 1, 2, 3] rfl)
        · rw [if_neg c_8] at hf
          refine lv_aload_n hx hb dL_holds_43 rfl (lv_at hl 0 rfl) ?_
          refine lv_iload hx hb dL_holds_44 (lv_at hl 4 rfl) ?_
          obtain ⟨r_9, e_10, hf⟩ := bind_some hf
          rcases r_9 with z9 | q_11
          · exact nomatch (show (none : Option (Int32)) = some r from hf)
          simp only [Sum.elim_inr] at hf
          refine vp_callSi (W.runV (As := [.int x4]) (rest := []) ⟨hx, hb, hml, hown, hts⟩ (nX5_orderAt l X N a_office a_la a_ma a_plans a_course a_hist a_hr a_hb office_lotCount la_f ma_f plans_level plans_quality plans_twice course_steady course_rate course_state course_skipping course_changedAt course_acceptedInRow course_passedInGroup hist_length hr_f hb_f pL pO pZ pF pV pT pI pB x4 q_11 e_10) (cwV 1 hts gL_holds_X5_orderAt rfl rfl rfl (by decide +kernel) ⟨Nat.le_of_ble_eq_true rfl, Nat.le_of_ble_eq_true rfl⟩) (oPreV hK hP hSt hS 0 rfl rfl) rfl rfl hl.1 rfl (lv_room (Nat.le_of_ble_eq_true rfl)) dL_holds_46 ⟨Nat.zero_le _, Nat.zero_le _⟩) (fun v9 e9 => ?_)
          rw [e9]
          refine lv_istore (lv' := [(5, .int q_11), (0, .ref a_office), (1, .int x1), (2, .int x2), (3, .int x3), (4, .int x4)]) hx hb dL_holds_49 hl (by decide) rfl (fun ls hl => ?_)
          refine lv_aload_n hx hb dL_holds_51 rfl (lv_at hl 1 rfl) ?_
          refine lv_iload hx hb dL_holds_52 (lv_at hl 0 rfl) ?_
          obtain ⟨r_12, e_13, hf⟩ := bind_some hf
          rcases r_12 with z9 | q_14
          · exact nomatch (show (none : Option (Int32)) = some r from hf)
          simp only [Sum.elim_inr] at hf
          refine vp_callSi (W.runV (As := [.int q_11]) (rest := []) ⟨hx, hb, hml, hown, hts⟩ (nX5_verdict l X N a_office a_la a_ma a_plans a_course a_hist a_hr a_hb office_lotCount la_f ma_f plans_level plans_quality plans_twice course_steady course_rate course_state course_skipping course_changedAt course_acceptedInRow course_passedInGroup hist_length hr_f hb_f pL pO pZ pF pV pT pI pB q_11 q_14 e_13) (cwV 1 hts gL_holds_X5_verdict rfl rfl rfl (by decide +kernel) ⟨Nat.le_of_ble_eq_true rfl, Nat.le_of_ble_eq_true rfl⟩) (oPreV hK hP hSt hS 0 rfl rfl) rfl rfl hl.1 rfl (lv_room (Nat.le_of_ble_eq_true rfl)) dL_holds_54 ⟨Nat.zero_le _, Nat.zero_le _⟩) (fun v9 e9 => ?_)
          rw [e9]
          refine lv_istore (lv' := [(6, .int q_14), (5, .int q_11), (0, .ref a_office), (1, .int x1), (2, .int x2), (3, .int x3), (4, .int x4)]) hx hb dL_holds_57 hl (by decide) rfl (fun ls hl => ?_)
          refine lv_aload_n hx hb dL_holds_59 rfl (lv_at hl 2 rfl) ?_
          refine lv_iload hx hb dL_holds_60 (lv_at hl 1 rfl) ?_
          obtain ⟨r_15, e_16, hf⟩ := bind_some hf
          rcases r_15 with z9 | q_17
          · exact nomatch (show (none : Option (Int32)) = some r from hf)
          simp only [Sum.elim_inr] at hf
          refine vp_callSi (W.runV (As := [.int q_11]) (rest := []) ⟨hx, hb, hml, hown, hts⟩ (nX5_stateAt l X N a_office a_la a_ma a_plans a_course a_hist a_hr a_hb office_lotCount la_f ma_f plans_level plans_quality plans_twice course_steady course_rate course_state course_skipping course_changedAt course_acceptedInRow course_passedInGroup hist_length hr_f hb_f pL pO pZ pF pV pT pI pB q_11 q_17 e_16) (cwV 1 hts gL_holds_X5_stateAt rfl rfl rfl (by decide +kernel) ⟨Nat.le_of_ble_eq_true rfl, Nat.le_of_ble_eq_true rfl⟩) (oPreV hK hP hSt hS 0 rfl rfl) rfl rfl hl.1 rfl (lv_room (Nat.le_of_ble_eq_true rfl)) dL_holds_62 ⟨Nat.zero_le _, Nat.zero_le _⟩) (fun v9 e9 => ?_)
          rw [e9]
          refine lv_istore (lv' := [(7, .int q_17), (6, .int q_14), (5, .int q_11), (0, .ref a_office), (1, .int x1), (2, .int x2), (3, .int x3), (4, .int x4)]) hx hb dL_holds_65 hl (by decide) rfl (fun ls hl => ?_)
          refine lv_aload_n hx hb dL_holds_67 rfl (lv_at hl 3 rfl) ?_
          refine lv_iload hx hb dL_holds_68 (lv_at hl 2 rfl) ?_
          obtain ⟨r_18, e_19, hf⟩ := bind_some hf
          rcases r_18 with z9 | q_20
          · exact nomatch (show (none : Option (Int32)) = some r from hf)
          simp only [Sum.elim_inr] at hf
          refine vp_callSi (W.runV (As := [.int q_11]) (rest := []) ⟨hx, hb, hml, hown, hts⟩ (nX5_inspected l X N a_office a_la a_ma a_plans a_course a_hist a_hr a_hb office_lotCount la_f ma_f plans_level plans_quality plans_twice course_steady course_rate course_state course_skipping course_changedAt course_acceptedInRow course_passedInGroup hist_length hr_f hb_f pL pO pZ pF pV pT pI pB q_11 q_20 e_19) (cwV 1 hts gL_holds_X5_inspected rfl rfl rfl (by decide +kernel) ⟨Nat.le_of_ble_eq_true rfl, Nat.le_of_ble_eq_true rfl⟩) (oPreV hK hP hSt hS 0 rfl rfl) rfl rfl hl.1 rfl (lv_room (Nat.le_of_ble_eq_true rfl)) dL_holds_70 ⟨Nat.zero_le _, Nat.zero_le _⟩) (fun v9 e9 => ?_)
          rw [e9]
          refine lv_istore (lv' := [(8, .int q_20), (7, .int q_17), (6, .int q_14), (5, .int q_11), (0, .ref a_office), (1, .int x1), (2, .int x2), (3, .int x3), (4, .int x4)]) hx hb dL_holds_73 hl (by decide) rfl (fun ls hl => ?_)
          refine lv_iload_n hx hb dL_holds_75 rfl (lv_at hl 7 rfl) ?_
          refine lv_iload hx hb dL_holds_76 (lv_at hl 2 rfl) ?_
          refine lv_iconst (v := 2) hx hb dL_holds_78 (by decide) ?_
          refine lv_icmp_ge (tgt := 86) hx hb dL_holds_79 (by decide) (fun c_21 => ?_) (fun c_21 => ?_)
          · rw [if_pos c_21] at hf
            refine lv_iconst (v := 0) hx hb dL_holds_86 (by decide) ?_
            exact B87 (fun x1 x2 x3 x4 => fL_holds_b30 N office_lotCount la_f course_state course_skipping pL pV pT pI pB k x1 x2 x3 x4) ih x1 x4 q_11 q_14 q_17 q_20 x3 0 hf ls (lv_sub hl [4, 5, 8, 3, 2, 1, 0] rfl)
          · rw [if_neg c_21] at hf
            refine lv_iconst (v := 1) hx hb dL_holds_82 (by decide) ?_
            refine lv_goto (tgt := 87) hx hb dL_holds_83 (by decide) ?_
            exact B87 (fun x1 x2 x3 x4 => fL_holds_b30 N office_lotCount la_f course_state course_skipping pL pV pT pI pB k x1 x2 x3 x4) ih x1 x4 q_11 q_14 q_17 q_20 x3 1 hf ls (lv_sub hl [4, 5, 8, 3, 2, 1, 0] rfl)
  have B6 : ∀ k : Nat, (∀ (x1 : Int32) (x2 : Int32) (x3 : Int32), fL_holds_b6 N office_lotCount la_f course_state course_skipping pL pV pT pI pB k x1 x2 x3 = some r → ∀ ls : Array Slot, lv_has ls 9 [(0, .ref a_office), (1, .int x1), (2, .int x2), (3, .int x3)] → W p l e (headSpec wsL_holds rmL_holds).room s m (([.ref a_office] : List Value).toArray) below meth c s.heap [] 0 0 (MQ below (vp_Si (fun v : Int32 => v = r)) ([.ref a_office] : List Value).toArray s 0 0 (fun _ => False)) (F0 m 6 ls [])) := by
    intro k
    induction k with
    | zero =>
      intro x1 x2 x3 hf ls hl
      exact nomatch (show (none : Option (Int32)) = some r from hf)
    | succ k ih =>
      intro x1 x2 x3 hf ls hl
      unfold fL_holds_b6 at hf
      refine lv_iload_n hx hb dL_holds_6 rfl (lv_at hl 3 rfl) ?_
      refine lv_iconst (v := 4) hx hb dL_holds_7 (by decide) ?_
      refine lv_icmp_ge (tgt := 25) hx hb dL_holds_8 (by decide) (fun c_1 => ?_) (fun c_1 => ?_)
      · rw [if_pos c_1] at hf
        refine lv_iconst (v := 0) hx hb dL_holds_25 (by decide) ?_
        refine lv_istore_n (lv' := [(3, .int 0), (0, .ref a_office), (1, .int x1), (2, .int x2)]) hx hb dL_holds_26 rfl hl (by decide) rfl (fun ls hl => ?_)
        refine lv_iconst (v := 0) hx hb dL_holds_27 (by decide) ?_
        refine lv_istore (lv' := [(4, .int 0), (3, .int 0), (0, .ref a_office), (1, .int x1), (2, .int x2)]) hx hb dL_holds_28 hl (by decide) rfl (fun ls hl => ?_)
        exact B30 N x1 x2 0 0 hf ls (lv_sub hl [2, 3, 4, 1, 0] rfl)
      · rw [if_neg c_1] at hf
        refine lv_iload_n hx hb dL_holds_11 rfl (lv_at hl 1 rfl) ?_
        refine lv_aload_n hx hb dL_holds_12 rfl (lv_at hl 0 rfl) ?_
        refine lv_iload_n hx hb dL_holds_13 rfl (lv_at hl 3 rfl) ?_
        obtain ⟨r_2, e_3, hf⟩ := bind_some hf
        rcases r_2 with z9 | q_4
        · exact nomatch (show (none : Option (Int32)) = some r from hf)
        simp only [Sum.elim_inr] at hf
        refine vp_callSi (W.runV (As := [.int x3]) (rest := [.int x1]) ⟨hx, hb, hml, hown, hts⟩ (nX5_count l X N a_office a_la a_ma a_plans a_course a_hist a_hr a_hb office_lotCount la_f ma_f plans_level plans_quality plans_twice course_steady course_rate course_state course_skipping course_changedAt course_acceptedInRow course_passedInGroup hist_length hr_f hb_f pL pO pZ pF pV pT pI pB x3 q_4 e_3) (cwV 1 hts gL_holds_X5_count rfl rfl rfl (by decide +kernel) ⟨Nat.le_of_ble_eq_true rfl, Nat.le_of_ble_eq_true rfl⟩) (oPreV hK hP hSt hS 0 rfl rfl) rfl rfl hl.1 rfl (lv_room (Nat.le_of_ble_eq_true rfl)) dL_holds_14 ⟨Nat.zero_le _, Nat.zero_le _⟩) (fun v9 e9 => ?_)
        rw [e9]
        refine lv_iadd hx hb dL_holds_17 ?_
        refine lv_istore_n (lv' := [(1, .int (x1 + q_4)), (0, .ref a_office), (2, .int x2), (3, .int x3)]) hx hb dL_holds_18 rfl hl (by decide) rfl (fun ls hl => ?_)
        refine lv_iinc (v := x3 + 1) (lv' := [(3, .int (x3 + 1)), (1, .int (x1 + q_4)), (0, .ref a_office), (2, .int x2)]) hx hb dL_holds_19 hl (k := 3) rfl rfl (by decide) rfl (fun ls hl => ?_)
        refine lv_goto (tgt := 6) hx hb dL_holds_22 (by decide) ?_
        exact ih (x1 + q_4) x2 (x3 + 1) hf ls (lv_sub hl [2, 1, 3, 0] rfl)
  have hf := hf0
  unfold fL_holds at hf
  refine lv_iconst (v := 0) hx hb dL_holds_0 (by decide) ?_
  refine lv_istore_n (lv' := [(1, .int 0), (0, .ref a_office)]) hx hb dL_holds_1 rfl hl (by decide) rfl (fun ls hl => ?_)
  refine lv_iconst (v := 1) hx hb dL_holds_2 (by decide) ?_
  refine lv_istore_n (lv' := [(2, .int 1), (1, .int 0), (0, .ref a_office)]) hx hb dL_holds_3 rfl hl (by decide) rfl (fun ls hl => ?_)
  refine lv_iconst (v := 0) hx hb dL_holds_4 (by decide) ?_
  refine lv_istore_n (lv' := [(3, .int 0), (2, .int 1), (1, .int 0), (0, .ref a_office)]) hx hb dL_holds_5 rfl hl (by decide) rfl (fun ls hl => ?_)
  exact B6 N 0 1 0 hf ls (lv_sub hl [3, 2, 1, 0] rfl)
def rmL_curves : Room := { frames := 7, cells := 0, slots := 0, locals := 124 }
set_option maxHeartbeats 4000000 in
set_option maxRecDepth 100000 in
theorem mL_curves (l : Launch) (X : cxT) (N : Nat) (a_office a_la a_ma a_plans a_course a_hist a_hr a_hb : Nat) (office_lotCount : Int32) (la_f : Nat → Option Nat) (ma_f : Nat → Int32) (plans_level : Int32) (plans_quality : Int32) (plans_twice : Int32) (course_steady : Int32) (course_rate : Int32) (course_state : Int32) (course_skipping : Int32) (course_changedAt : Int32) (course_acceptedInRow : Int32) (course_passedInGroup : Int32) (hist_length : Int32) (hr_f : Nat → Int32) (hb_f : Nat → Int32) (pL : List Nat) (pO : Nat → Int32) (pZ : Nat → Int32) (pF : Nat → Int64) (pV : Nat → Int32) (pT : Nat → Int32) (pI : Nat → Int32) (pB : Nat → Int32) (p1 : Int32) (r : Int32) (hf0 : fL_curves N p1 = some r) : Met l yL_curves wsL_curves rmL_curves (rPre X (HAppend.hAppend (α := va_W) (β := va_W) (γ := va_W) [(a_office, .inr (4, [.ref a_la, .ref a_ma, .ref a_plans, .ref a_course, .int office_lotCount])), (a_la, .inl (X.2 3, 200, .inr (.inr (.inr (.inr la_f))))), (a_ma, .inl (X.2 2, 200, .inl ma_f)), (a_plans, .inr (3, [.int plans_level, .int plans_quality, .int plans_twice])), (a_course, .inr (0, [.int course_steady, .int course_rate, .int course_state, .int course_skipping, .ref a_hist, .int course_changedAt, .int course_acceptedInRow, .int course_passedInGroup])), (a_hist, .inr (1, [.ref a_hr, .ref a_hb, .int hist_length])), (a_hr, .inl (X.2 2, 60, .inl hr_f)), (a_hb, .inl (X.2 0, 60, .inl hb_f))] (va_pl pL (lotE pO pZ pF pV pT pI pB))) [.ref a_office, .int p1]) (vp_Si (fun v : Int32 => v = r)) 0 0 (fun _ => False) := by
  refine Met.ofW (cc := cL_curves) (maxL := 9) (ret := (some .boolean)) (by decide) rfl ?_
  intro p e s m args below meth c s₁ B hml hv
  obtain ⟨rfl, hP, hK, hSt⟩ := hv
  have hx := B.exec
  have hb := B.bytes
  have hr := B.returns
  have hts := atoms_spec (ws := wsL_curves) B.pre
  have hown : s.vm.findClass RL = some m.cls := findClass_of_methodNamed B.named
  have hlocks := B.notSynchronized
  have hS : va_S (fun _ => False) s.heap s.heap [] := va_S.rf
  have hl := lv_entry ([.ref a_office, .int p1]) (n := 9) (Nat.le_of_ble_eq_true rfl)
  rw [lg_entry_eq]
  generalize (lg_sl ([.ref a_office, .int p1]) ++ List.replicate (9 - (lg_sl ([.ref a_office, .int p1])).length) Slot.unset).toArray = ls at hl ⊢
  have hl : lv_has ls 9 [(0, .ref a_office), (1, .int p1)] := hl
  have B258 : (fL_curves_b258 N  = some r → ∀ ls : Array Slot, lv_has ls 9 [] → W p l e (headSpec wsL_curves rmL_curves).room s m (([.ref a_office, .int p1] : List Value).toArray) below meth c s.heap [] 0 0 (MQ below (vp_Si (fun v : Int32 => v = r)) ([.ref a_office, .int p1] : List Value).toArray s 0 0 (fun _ => False)) (F0 m 258 ls [])) := by
    intro hf ls hl
    unfold fL_curves_b258 at hf
    refine lv_iconst (v := 1) hx hb dL_curves_258 (by decide) ?_
    refine lv_goto (tgt := 263) hx hb dL_curves_259 (by decide) ?_
    obtain rfl := Option.some.inj hf
    exact W.zret hx hb hr rfl (fun t ht hW => ⟨_, rfl, rfl, ht⟩) (fun _ h => by cases h) dL_curves_263
  have B253 : (∀ (y0 : Int64) (y1 : Int64) (y2 : Int64), fL_curves_b253 N y0 y1 y2 = some r → ∀ ls : Array Slot, lv_has ls 9 [] → W p l e (headSpec wsL_curves rmL_curves).room s m (([.ref a_office, .int p1] : List Value).toArray) below meth c s.heap [] 0 0 (MQ below (vp_Si (fun v : Int32 => v = r)) ([.ref a_office, .int p1] : List Value).toArray s 0 0 (fun _ => False)) (F0 m 253 ls [.long y2, .long y1, .long y0])) := by
    intro y0 y1 y2 hf ls hl
    unfold fL_curves_b253 at hf
    refine lv_ladd hx hb dL_curves_253 ?_
    refine W.lcmp hx hb dL_curves_254 ?_
    refine lv_if_ne (tgt := 262) hx hb dL_curves_255 (by decide) (fun c_33 => ?_) (fun c_33 => ?_)
    · rw [if_neg c_33] at hf
      refine lv_iconst (v := 0) hx hb dL_curves_262 (by decide) ?_
      obtain rfl := Option.some.inj hf
      exact W.zret hx hb hr rfl (fun t ht hW => ⟨_, rfl, rfl, ht⟩) (fun _ h => by cases h) dL_curves_263
    · rw [if_pos c_33] at hf
      exact B258  hf ls (lv_sub hl [] rfl)
  have B199 : (∀ (x7 : Int32) (x8 : Int32) (y0 : Int32), fL_curves_b199 N x7 x8 y0 = some r → ∀ ls : Array Slot, lv_has ls 9 [(0, .ref a_office), (7, .int x7), (8, .int x8)] → W p l e (headSpec wsL_curves rmL_curves).room s m (([.ref a_office, .int p1] : List Value).toArray) below meth c s.heap [] 0 0 (MQ below (vp_Si (fun v : Int32 => v = r)) ([.ref a_office, .int p1] : List Value).toArray s 0 0 (fun _ => False)) (F0 m 199 ls [.int y0])) := by
    intro x7 x8 y0 hf ls hl
    unfold fL_curves_b199 at hf
    refine lv_istore (lv' := [(6, .int y0), (0, .ref a_office), (7, .int x7), (8, .int x8)]) hx hb dL_curves_199 hl (by decide) rfl (fun ls hl => ?_)
    refine lv_iload hx hb dL_curves_201 (lv_at hl 0 rfl) ?_
    refine lv_if_eq (tgt := 262) hx hb dL_curves_203 (by decide) (fun c_21 => ?_) (fun c_21 => ?_)
    · rw [if_pos c_21] at hf
      refine lv_iconst (v := 0) hx hb dL_curves_262 (by decide) ?_
      obtain rfl := Option.some.inj hf
      exact W.zret hx hb hr rfl (fun t ht hW => ⟨_, rfl, rfl, ht⟩) (fun _ h => by cases h) dL_curves_263
    · rw [if_neg c_21] at hf
      refine lv_iload hx hb dL_curves_206 (lv_at hl 3 rfl) ?_
      refine lv_iconst (v := 2) hx hb dL_curves_208 (by decide) ?_
      refine lv_icmp_lt (tgt := 258) hx hb dL_curves_209 (by decide) (fun c_22 => ?_) (fun c_22 => ?_)
      · rw [if_pos c_22] at hf
        exact B258  hf ls (lv_sub hl [] rfl)
      · rw [if_neg c_22] at hf
        refine lv_aload_n hx hb dL_curves_212 rfl (lv_at hl 1 rfl) ?_
        refine lv_iload hx hb dL_curves_213 (lv_at hl 2 rfl) ?_
        refine lv_iload hx hb dL_curves_215 (lv_at hl 3 rfl) ?_
        obtain ⟨r_23, e_24, hf⟩ := bind_some hf
        rcases r_23 with z9 | q_25
        · exact nomatch (show (none : Option (Int32)) = some r from hf)
        simp only [Sum.elim_inr] at hf
        refine vp_callSl (W.runV (As := [.int x7, .int x8]) (rest := []) ⟨hx, hb, hml, hown, hts⟩ (nX5_samples l X N a_office a_la a_ma a_plans a_course a_hist a_hr a_hb office_lotCount la_f ma_f plans_level plans_quality plans_twice course_steady course_rate course_state course_skipping course_changedAt course_acceptedInRow course_passedInGroup hist_length hr_f hb_f pL pO pZ pF pV pT pI pB x7 x8 q_25 e_24) (cwV 2 hts gL_curves_X5_samples rfl rfl rfl (by decide +kernel) ⟨Nat.le_of_ble_eq_true rfl, Nat.le_of_ble_eq_true rfl⟩) (oPreV hK hP hSt hS 0 rfl rfl) rfl rfl hl.1 rfl (lv_room (Nat.le_of_ble_eq_true rfl)) dL_curves_217 ⟨Nat.zero_le _, Nat.zero_le _⟩) (fun v9 e9 => ?_)
        rw [e9]
        refine lv_aload_n hx hb dL_curves_220 rfl (lv_at hl 1 rfl) ?_
        refine lv_iload hx hb dL_curves_221 (lv_at hl 2 rfl) ?_
        refine lv_iconst (v := 1) hx hb dL_curves_223 (by decide) ?_
        refine lv_isub hx hb dL_curves_224 ?_
        refine lv_iload hx hb dL_curves_225 (lv_at hl 3 rfl) ?_
        refine lv_iconst (v := 1) hx hb dL_curves_227 (by decide) ?_
        refine lv_isub hx hb dL_curves_228 ?_
        obtain ⟨r_26, e_27, hf⟩ := bind_some hf
        rcases r_26 with z9 | q_28
        · exact nomatch (show (none : Option (Int32)) = some r from hf)
        simp only [Sum.elim_inr] at hf
        refine vp_callSl (W.runV (As := [.int (x7 - 1), .int (x8 - 1)]) (rest := [.long q_25]) ⟨hx, hb, hml, hown, hts⟩ (nX5_samples l X N a_office a_la a_ma a_plans a_course a_hist a_hr a_hb office_lotCount la_f ma_f plans_level plans_quality plans_twice course_steady course_rate course_state course_skipping course_changedAt course_acceptedInRow course_passedInGroup hist_length hr_f hb_f pL pO pZ pF pV pT pI pB (x7 - 1) (x8 - 1) q_28 e_27) (cwV 2 hts gL_curves_X5_samples rfl rfl rfl (by decide +kernel) ⟨Nat.le_of_ble_eq_true rfl, Nat.le_of_ble_eq_true rfl⟩) (oPreV hK hP hSt hS 0 rfl rfl) rfl rfl hl.1 rfl (lv_room (Nat.le_of_ble_eq_true rfl)) dL_curves_229 ⟨Nat.zero_le _, Nat.zero_le _⟩) (fun v9 e9 => ?_)
        rw [e9]
        refine lv_iload hx hb dL_curves_232 (lv_at hl 3 rfl) ?_
        refine lv_iload hx hb dL_curves_234 (lv_at hl 2 rfl) ?_
        refine lv_icmp_ge (tgt := 252) hx hb dL_curves_236 (by decide) (fun c_29 => ?_) (fun c_29 => ?_)
        · rw [if_pos c_29] at hf
          refine lv_lconst (v := 0) hx hb dL_curves_252 (by decide) ?_
          exact B253 q_25 q_28 0 hf ls (lv_sub hl [] rfl)
        · rw [if_neg c_29] at hf
          refine lv_aload_n hx hb dL_curves_239 rfl (lv_at hl 1 rfl) ?_
          refine lv_iload hx hb dL_curves_240 (lv_at hl 2 rfl) ?_
          refine lv_iconst (v := 1) hx hb dL_curves_242 (by decide) ?_
          refine lv_isub hx hb dL_curves_243 ?_
          refine lv_iload hx hb dL_curves_244 (lv_at hl 3 rfl) ?_
          obtain ⟨r_30, e_31, hf⟩ := bind_some hf
          rcases r_30 with z9 | q_32
          · exact nomatch (show (none : Option (Int32)) = some r from hf)
          simp only [Sum.elim_inr] at hf
          refine vp_callSl (W.runV (As := [.int (x7 - 1), .int x8]) (rest := [.long q_28, .long q_25]) ⟨hx, hb, hml, hown, hts⟩ (nX5_samples l X N a_office a_la a_ma a_plans a_course a_hist a_hr a_hb office_lotCount la_f ma_f plans_level plans_quality plans_twice course_steady course_rate course_state course_skipping course_changedAt course_acceptedInRow course_passedInGroup hist_length hr_f hb_f pL pO pZ pF pV pT pI pB (x7 - 1) x8 q_32 e_31) (cwV 2 hts gL_curves_X5_samples rfl rfl rfl (by decide +kernel) ⟨Nat.le_of_ble_eq_true rfl, Nat.le_of_ble_eq_true rfl⟩) (oPreV hK hP hSt hS 0 rfl rfl) rfl rfl hl.1 rfl (lv_room (Nat.le_of_ble_eq_true rfl)) dL_curves_246 ⟨Nat.zero_le _, Nat.zero_le _⟩) (fun v9 e9 => ?_)
          rw [e9]
          refine lv_goto (tgt := 253) hx hb dL_curves_249 (by decide) ?_
          exact B253 q_25 q_28 q_32 hf ls (lv_sub hl [] rfl)
  have B198 : (∀ (x7 : Int32) (x8 : Int32), fL_curves_b198 N x7 x8 = some r → ∀ ls : Array Slot, lv_has ls 9 [(0, .ref a_office), (7, .int x7), (8, .int x8)] → W p l e (headSpec wsL_curves rmL_curves).room s m (([.ref a_office, .int p1] : List Value).toArray) below meth c s.heap [] 0 0 (MQ below (vp_Si (fun v : Int32 => v = r)) ([.ref a_office, .int p1] : List Value).toArray s 0 0 (fun _ => False)) (F0 m 198 ls [])) := by
    intro x7 x8 hf ls hl
    unfold fL_curves_b198 at hf
    refine lv_iconst (v := 0) hx hb dL_curves_198 (by decide) ?_
    exact B199 x7 x8 0 hf ls (lv_sub hl [0, 1, 2] rfl)
  have B165 : (∀ (x7 : Int32) (x8 : Int32) (y0 : Int64) (y2 : Int32) (y3 : Int32), fL_curves_b165 N x7 x8 y0 y2 y3 = some r → ∀ ls : Array Slot, lv_has ls 9 [(0, .ref a_office), (7, .int x7), (8, .int x8)] → W p l e (headSpec wsL_curves rmL_curves).room s m (([.ref a_office, .int p1] : List Value).toArray) below meth c s.heap [] 0 0 (MQ below (vp_Si (fun v : Int32 => v = r)) ([.ref a_office, .int p1] : List Value).toArray s 0 0 (fun _ => False)) (F0 m 165 ls [.int y3, .int y2, .ref a_office, .long y0])) := by
    intro x7 x8 y0 y2 y3 hf ls hl
    unfold fL_curves_b165 at hf
    obtain ⟨r_10, e_11, hf⟩ := bind_some hf
    rcases r_10 with z9 | q_12
    · exact nomatch (show (none : Option (Int32)) = some r from hf)
    simp only [Sum.elim_inr] at hf
    refine vp_callSl (W.runV (As := [.int y2, .int y3]) (rest := [.long y0]) ⟨hx, hb, hml, hown, hts⟩ (nX5_samples l X N a_office a_la a_ma a_plans a_course a_hist a_hr a_hb office_lotCount la_f ma_f plans_level plans_quality plans_twice course_steady course_rate course_state course_skipping course_changedAt course_acceptedInRow course_passedInGroup hist_length hr_f hb_f pL pO pZ pF pV pT pI pB y2 y3 q_12 e_11) (cwV 2 hts gL_curves_X5_samples rfl rfl rfl (by decide +kernel) ⟨Nat.le_of_ble_eq_true rfl, Nat.le_of_ble_eq_true rfl⟩) (oPreV hK hP hSt hS 0 rfl rfl) rfl rfl hl.1 rfl (lv_room (Nat.le_of_ble_eq_true rfl)) dL_curves_165 ⟨Nat.zero_le _, Nat.zero_le _⟩) (fun v9 e9 => ?_)
    rw [e9]
    refine W.lcmp hx hb dL_curves_168 ?_
    refine lv_if_ne (tgt := 198) hx hb dL_curves_169 (by decide) (fun c_13 => ?_) (fun c_13 => ?_)
    · rw [if_neg c_13] at hf
      exact B198 x7 x8 hf ls (lv_sub hl [0, 1, 2] rfl)
    · rw [if_pos c_13] at hf
      refine lv_aload_n hx hb dL_curves_172 rfl (lv_at hl 0 rfl) ?_
      refine lv_iload hx hb dL_curves_173 (lv_at hl 1 rfl) ?_
      refine lv_iconst (v := 0) hx hb dL_curves_175 (by decide) ?_
      refine lv_iload hx hb dL_curves_176 (lv_at hl 2 rfl) ?_
      refine lv_iconst (v := 0) hx hb dL_curves_178 (by decide) ?_
      obtain ⟨r_14, e_15, hf⟩ := bind_some hf
      rcases r_14 with z9 | q_16
      · exact nomatch (show (none : Option (Int32)) = some r from hf)
      simp only [Sum.elim_inr] at hf
      refine vp_callSl (W.runV (As := [.int x7, .int 0, .int x8, .int 0]) (rest := []) ⟨hx, hb, hml, hown, hts⟩ (nX5_accepted l X N a_office a_la a_ma a_plans a_course a_hist a_hr a_hb office_lotCount la_f ma_f plans_level plans_quality plans_twice course_steady course_rate course_state course_skipping course_changedAt course_acceptedInRow course_passedInGroup hist_length hr_f hb_f pL pO pZ pF pV pT pI pB x7 0 x8 0 q_16 e_15) (cwV 4 hts gL_curves_X5_accepted rfl rfl rfl (by decide +kernel) ⟨Nat.le_of_ble_eq_true rfl, Nat.le_of_ble_eq_true rfl⟩) (oPreV hK hP hSt hS 0 rfl rfl) rfl rfl hl.1 rfl (lv_room (Nat.le_of_ble_eq_true rfl)) dL_curves_179 ⟨Nat.zero_le _, Nat.zero_le _⟩) (fun v9 e9 => ?_)
      rw [e9]
      refine lv_aload_n hx hb dL_curves_182 rfl (lv_at hl 0 rfl) ?_
      refine lv_iload hx hb dL_curves_183 (lv_at hl 1 rfl) ?_
      refine lv_iload hx hb dL_curves_185 (lv_at hl 2 rfl) ?_
      obtain ⟨r_17, e_18, hf⟩ := bind_some hf
      rcases r_17 with z9 | q_19
      · exact nomatch (show (none : Option (Int32)) = some r from hf)
      simp only [Sum.elim_inr] at hf
      refine vp_callSl (W.runV (As := [.int x7, .int x8]) (rest := [.long q_16]) ⟨hx, hb, hml, hown, hts⟩ (nX5_samples l X N a_office a_la a_ma a_plans a_course a_hist a_hr a_hb office_lotCount la_f ma_f plans_level plans_quality plans_twice course_steady course_rate course_state course_skipping course_changedAt course_acceptedInRow course_passedInGroup hist_length hr_f hb_f pL pO pZ pF pV pT pI pB x7 x8 q_19 e_18) (cwV 2 hts gL_curves_X5_samples rfl rfl rfl (by decide +kernel) ⟨Nat.le_of_ble_eq_true rfl, Nat.le_of_ble_eq_true rfl⟩) (oPreV hK hP hSt hS 0 rfl rfl) rfl rfl hl.1 rfl (lv_room (Nat.le_of_ble_eq_true rfl)) dL_curves_187 ⟨Nat.zero_le _, Nat.zero_le _⟩) (fun v9 e9 => ?_)
      rw [e9]
      refine W.lcmp hx hb dL_curves_190 ?_
      refine lv_if_ne (tgt := 198) hx hb dL_curves_191 (by decide) (fun c_20 => ?_) (fun c_20 => ?_)
      · rw [if_neg c_20] at hf
        exact B198 x7 x8 hf ls (lv_sub hl [0, 1, 2] rfl)
      · rw [if_pos c_20] at hf
        refine lv_iconst (v := 1) hx hb dL_curves_194 (by decide) ?_
        refine lv_goto (tgt := 199) hx hb dL_curves_195 (by decide) ?_
        exact B199 x7 x8 1 hf ls (lv_sub hl [0, 1, 2] rfl)
  have B101 : (∀ (x1 : Int32) (y0 : Int32), fL_curves_b101 N x1 y0 = some r → ∀ ls : Array Slot, lv_has ls 9 [(0, .ref a_office), (1, .int x1)] → W p l e (headSpec wsL_curves rmL_curves).room s m (([.ref a_office, .int p1] : List Value).toArray) below meth c s.heap [] 0 0 (MQ below (vp_Si (fun v : Int32 => v = r)) ([.ref a_office, .int p1] : List Value).toArray s 0 0 (fun _ => False)) (F0 m 101 ls [.int y0])) := by
    intro x1 y0 hf ls hl
    unfold fL_curves_b101 at hf
    refine lv_istore (lv' := [(6, .int y0), (0, .ref a_office), (1, .int x1)]) hx hb dL_curves_101 hl (by decide) rfl (fun ls hl => ?_)
    refine lv_bipush (v := 15) hx hb dL_curves_103 (by decide) ?_
    refine lv_iload_n hx hb dL_curves_105 rfl (lv_at hl 2 rfl) ?_
    refine lv_iconst (v := 3) hx hb dL_curves_106 (by decide) ?_
    refine lv_ishr hx hb dL_curves_107 ?_
    refine lv_bipush (v := 46) hx hb dL_curves_108 (by decide) ?_
    obtain ⟨r_1, e_2, hf⟩ := bind_some hf
    refine vp_callSi (W.runS (As := [.int (x1 >>> (3 &&& 31)), .int 46]) (rest := [.int 15]) ⟨hx, hb, hml, hown, hts⟩ (mL_low l X N (x1 >>> (3 &&& 31)) 46 r_1 e_2) (va_cwS 2 hts gL_curves_L_low rfl rfl rfl (by decide +kernel) ⟨Nat.le_of_ble_eq_true rfl, Nat.le_of_ble_eq_true rfl⟩) (rPreS hK hP hSt hS [] rfl) rfl rfl hl.1 rfl (lv_room (Nat.le_of_ble_eq_true rfl)) dL_curves_110 ⟨Nat.zero_le _, Nat.zero_le _⟩) (fun v9 e9 => ?_)
    rw [e9]
    refine lv_iadd hx hb dL_curves_113 ?_
    refine lv_istore (lv' := [(7, .int (15 + r_1)), (6, .int y0), (0, .ref a_office), (1, .int x1)]) hx hb dL_curves_114 hl (by decide) rfl (fun ls hl => ?_)
    refine lv_iconst (v := 1) hx hb dL_curves_116 (by decide) ?_
    refine lv_iload_n hx hb dL_curves_117 rfl (lv_at hl 3 rfl) ?_
    refine lv_bipush (v := 9) hx hb dL_curves_118 (by decide) ?_
    refine lv_ishr hx hb dL_curves_120 ?_
    refine lv_iload hx hb dL_curves_121 (lv_at hl 0 rfl) ?_
    refine lv_iconst (v := 1) hx hb dL_curves_123 (by decide) ?_
    refine lv_isub hx hb dL_curves_124 ?_
    obtain ⟨r_3, e_4, hf⟩ := bind_some hf
    refine vp_callSi (W.runS (As := [.int (x1 >>> (9 &&& 31)), .int ((15 + r_1) - 1)]) (rest := [.int 1]) ⟨hx, hb, hml, hown, hts⟩ (mL_low l X N (x1 >>> (9 &&& 31)) ((15 + r_1) - 1) r_3 e_4) (va_cwS 2 hts gL_curves_L_low rfl rfl rfl (by decide +kernel) ⟨Nat.le_of_ble_eq_true rfl, Nat.le_of_ble_eq_true rfl⟩) (rPreS hK hP hSt hS [] rfl) rfl rfl hl.1 rfl (lv_room (Nat.le_of_ble_eq_true rfl)) dL_curves_125 ⟨Nat.zero_le _, Nat.zero_le _⟩) (fun v9 e9 => ?_)
    rw [e9]
    refine lv_iadd hx hb dL_curves_128 ?_
    refine lv_istore (lv' := [(8, .int (1 + r_3)), (7, .int (15 + r_1)), (6, .int y0), (0, .ref a_office), (1, .int x1)]) hx hb dL_curves_129 hl (by decide) rfl (fun ls hl => ?_)
    refine lv_iload hx hb dL_curves_131 (lv_at hl 2 rfl) ?_
    refine lv_if_eq (tgt := 198) hx hb dL_curves_133 (by decide) (fun c_5 => ?_) (fun c_5 => ?_)
    · rw [if_pos c_5] at hf
      exact B198 (15 + r_1) (1 + r_3) hf ls (lv_sub hl [3, 1, 0] rfl)
    · rw [if_neg c_5] at hf
      refine lv_aload_n hx hb dL_curves_136 rfl (lv_at hl 3 rfl) ?_
      refine lv_iload hx hb dL_curves_137 (lv_at hl 1 rfl) ?_
      refine lv_iload hx hb dL_curves_139 (lv_at hl 0 rfl) ?_
      obtain ⟨r_6, e_7, hf⟩ := bind_some hf
      rcases r_6 with z9 | q_8
      · exact nomatch (show (none : Option (Int32)) = some r from hf)
      simp only [Sum.elim_inr] at hf
      refine vp_callSl (W.runV (As := [.int (15 + r_1), .int (1 + r_3)]) (rest := []) ⟨hx, hb, hml, hown, hts⟩ (nX5_samples l X N a_office a_la a_ma a_plans a_course a_hist a_hr a_hb office_lotCount la_f ma_f plans_level plans_quality plans_twice course_steady course_rate course_state course_skipping course_changedAt course_acceptedInRow course_passedInGroup hist_length hr_f hb_f pL pO pZ pF pV pT pI pB (15 + r_1) (1 + r_3) q_8 e_7) (cwV 2 hts gL_curves_X5_samples rfl rfl rfl (by decide +kernel) ⟨Nat.le_of_ble_eq_true rfl, Nat.le_of_ble_eq_true rfl⟩) (oPreV hK hP hSt hS 0 rfl rfl) rfl rfl hl.1 rfl (lv_room (Nat.le_of_ble_eq_true rfl)) dL_curves_141 ⟨Nat.zero_le _, Nat.zero_le _⟩) (fun v9 e9 => ?_)
      rw [e9]
      refine lv_aload_n hx hb dL_curves_144 rfl (lv_at hl 3 rfl) ?_
      refine lv_iload hx hb dL_curves_145 (lv_at hl 1 rfl) ?_
      refine lv_iload hx hb dL_curves_147 (lv_at hl 1 rfl) ?_
      refine lv_iload hx hb dL_curves_149 (lv_at hl 0 rfl) ?_
      refine lv_isub hx hb dL_curves_151 ?_
      refine lv_if_ne (tgt := 160) hx hb dL_curves_152 (by decide) (fun c_9 => ?_) (fun c_9 => ?_)
      · rw [if_neg c_9] at hf
        refine lv_iload hx hb dL_curves_160 (lv_at hl 1 rfl) ?_
        refine lv_iload hx hb dL_curves_162 (lv_at hl 0 rfl) ?_
        refine lv_isub hx hb dL_curves_164 ?_
        exact B165 (15 + r_1) (1 + r_3) q_8 (15 + r_1) ((15 + r_1) - (1 + r_3)) hf ls (lv_sub hl [3, 1, 0] rfl)
      · rw [if_pos c_9] at hf
        refine lv_iload hx hb dL_curves_155 (lv_at hl 1 rfl) ?_
        refine lv_goto (tgt := 165) hx hb dL_curves_157 (by decide) ?_
        exact B165 (15 + r_1) (1 + r_3) q_8 (15 + r_1) (15 + r_1) hf ls (lv_sub hl [3, 1, 0] rfl)
  have B100 : (∀ (x1 : Int32), fL_curves_b100 N x1 = some r → ∀ ls : Array Slot, lv_has ls 9 [(0, .ref a_office), (1, .int x1)] → W p l e (headSpec wsL_curves rmL_curves).room s m (([.ref a_office, .int p1] : List Value).toArray) below meth c s.heap [] 0 0 (MQ below (vp_Si (fun v : Int32 => v = r)) ([.ref a_office, .int p1] : List Value).toArray s 0 0 (fun _ => False)) (F0 m 100 ls [])) := by
    intro x1 hf ls hl
    unfold fL_curves_b100 at hf
    refine lv_iconst (v := 0) hx hb dL_curves_100 (by decide) ?_
    exact B101 x1 0 hf ls (lv_sub hl [0, 1] rfl)
  have hf := hf0
  unfold fL_curves at hf
  refine lv_iconst (v := 2) hx hb dL_curves_0 (by decide) ?_
  refine lv_iload_n hx hb dL_curves_1 rfl (lv_at hl 1 rfl) ?_
  refine lv_bipush (v := 13) hx hb dL_curves_2 (by decide) ?_
  obtain ⟨r_34, e_35, hf⟩ := bind_some hf
  refine vp_callSi (W.runS (As := [.int p1, .int 13]) (rest := [.int 2]) ⟨hx, hb, hml, hown, hts⟩ (mL_low l X N p1 13 r_34 e_35) (va_cwS 2 hts gL_curves_L_low rfl rfl rfl (by decide +kernel) ⟨Nat.le_of_ble_eq_true rfl, Nat.le_of_ble_eq_true rfl⟩) (rPreS hK hP hSt hS [] rfl) rfl rfl hl.1 rfl (lv_room (Nat.le_of_ble_eq_true rfl)) dL_curves_4 ⟨Nat.zero_le _, Nat.zero_le _⟩) (fun v9 e9 => ?_)
  rw [e9]
  refine lv_iadd hx hb dL_curves_7 ?_
  refine lv_istore_n (lv' := [(2, .int (2 + r_34)), (0, .ref a_office), (1, .int p1)]) hx hb dL_curves_8 rfl hl (by decide) rfl (fun ls hl => ?_)
  refine lv_iconst (v := 1) hx hb dL_curves_9 (by decide) ?_
  refine lv_iload_n hx hb dL_curves_10 rfl (lv_at hl 2 rfl) ?_
  refine lv_iconst (v := 4) hx hb dL_curves_11 (by decide) ?_
  refine lv_ishr hx hb dL_curves_12 ?_
  refine lv_iload_n hx hb dL_curves_13 rfl (lv_at hl 0 rfl) ?_
  obtain ⟨r_36, e_37, hf⟩ := bind_some hf
  refine vp_callSi (W.runS (As := [.int (p1 >>> (4 &&& 31)), .int (2 + r_34)]) (rest := [.int 1]) ⟨hx, hb, hml, hown, hts⟩ (mL_low l X N (p1 >>> (4 &&& 31)) (2 + r_34) r_36 e_37) (va_cwS 2 hts gL_curves_L_low rfl rfl rfl (by decide +kernel) ⟨Nat.le_of_ble_eq_true rfl, Nat.le_of_ble_eq_true rfl⟩) (rPreS hK hP hSt hS [] rfl) rfl rfl hl.1 rfl (lv_room (Nat.le_of_ble_eq_true rfl)) dL_curves_14 ⟨Nat.zero_le _, Nat.zero_le _⟩) (fun v9 e9 => ?_)
  rw [e9]
  refine lv_iadd hx hb dL_curves_17 ?_
  refine lv_istore_n (lv' := [(3, .int (1 + r_36)), (2, .int (2 + r_34)), (0, .ref a_office), (1, .int p1)]) hx hb dL_curves_18 rfl hl (by decide) rfl (fun ls hl => ?_)
  refine lv_iload_n hx hb dL_curves_19 rfl (lv_at hl 3 rfl) ?_
  refine lv_bipush (v := 8) hx hb dL_curves_20 (by decide) ?_
  refine lv_ishr hx hb dL_curves_22 ?_
  refine lv_iload_n hx hb dL_curves_23 rfl (lv_at hl 1 rfl) ?_
  refine lv_iconst (v := 1) hx hb dL_curves_24 (by decide) ?_
  refine lv_iadd hx hb dL_curves_25 ?_
  obtain ⟨r_38, e_39, hf⟩ := bind_some hf
  refine vp_callSi (W.runS (As := [.int (p1 >>> (8 &&& 31)), .int ((2 + r_34) + 1)]) (rest := []) ⟨hx, hb, hml, hown, hts⟩ (mL_low l X N (p1 >>> (8 &&& 31)) ((2 + r_34) + 1) r_38 e_39) (va_cwS 2 hts gL_curves_L_low rfl rfl rfl (by decide +kernel) ⟨Nat.le_of_ble_eq_true rfl, Nat.le_of_ble_eq_true rfl⟩) (rPreS hK hP hSt hS [] rfl) rfl rfl hl.1 rfl (lv_room (Nat.le_of_ble_eq_true rfl)) dL_curves_26 ⟨Nat.zero_le _, Nat.zero_le _⟩) (fun v9 e9 => ?_)
  rw [e9]
  refine lv_istore (lv' := [(4, .int r_38), (3, .int (1 + r_36)), (2, .int (2 + r_34)), (0, .ref a_office), (1, .int p1)]) hx hb dL_curves_29 hl (by decide) rfl (fun ls hl => ?_)
  refine lv_iload_n hx hb dL_curves_31 rfl (lv_at hl 4 rfl) ?_
  refine lv_bipush (v := 12) hx hb dL_curves_32 (by decide) ?_
  refine lv_ishr hx hb dL_curves_34 ?_
  refine lv_bipush (v := 6) hx hb dL_curves_35 (by decide) ?_
  obtain ⟨r_40, e_41, hf⟩ := bind_some hf
  refine vp_callSi (W.runS (As := [.int (p1 >>> (12 &&& 31)), .int 6]) (rest := []) ⟨hx, hb, hml, hown, hts⟩ (mL_low l X N (p1 >>> (12 &&& 31)) 6 r_40 e_41) (va_cwS 2 hts gL_curves_L_low rfl rfl rfl (by decide +kernel) ⟨Nat.le_of_ble_eq_true rfl, Nat.le_of_ble_eq_true rfl⟩) (rPreS hK hP hSt hS [] rfl) rfl rfl hl.1 rfl (lv_room (Nat.le_of_ble_eq_true rfl)) dL_curves_37 ⟨Nat.zero_le _, Nat.zero_le _⟩) (fun v9 e9 => ?_)
  rw [e9]
  refine lv_istore (lv' := [(5, .int r_40), (4, .int r_38), (3, .int (1 + r_36)), (2, .int (2 + r_34)), (0, .ref a_office), (1, .int p1)]) hx hb dL_curves_40 hl (by decide) rfl (fun ls hl => ?_)
  refine lv_aload_n hx hb dL_curves_42 rfl (lv_at hl 4 rfl) ?_
  refine lv_iload_n hx hb dL_curves_43 rfl (lv_at hl 3 rfl) ?_
  refine lv_iload hx hb dL_curves_44 (lv_at hl 1 rfl) ?_
  refine lv_iload_n hx hb dL_curves_46 rfl (lv_at hl 2 rfl) ?_
  refine lv_iload hx hb dL_curves_47 (lv_at hl 0 rfl) ?_
  obtain ⟨r_42, e_43, hf⟩ := bind_some hf
  rcases r_42 with z9 | q_44
  · exact nomatch (show (none : Option (Int32)) = some r from hf)
  simp only [Sum.elim_inr] at hf
  refine vp_callSl (W.runV (As := [.int (2 + r_34), .int r_38, .int (1 + r_36), .int r_40]) (rest := []) ⟨hx, hb, hml, hown, hts⟩ (nX5_accepted l X N a_office a_la a_ma a_plans a_course a_hist a_hr a_hb office_lotCount la_f ma_f plans_level plans_quality plans_twice course_steady course_rate course_state course_skipping course_changedAt course_acceptedInRow course_passedInGroup hist_length hr_f hb_f pL pO pZ pF pV pT pI pB (2 + r_34) r_38 (1 + r_36) r_40 q_44 e_43) (cwV 4 hts gL_curves_X5_accepted rfl rfl rfl (by decide +kernel) ⟨Nat.le_of_ble_eq_true rfl, Nat.le_of_ble_eq_true rfl⟩) (oPreV hK hP hSt hS 0 rfl rfl) rfl rfl hl.1 rfl (lv_room (Nat.le_of_ble_eq_true rfl)) dL_curves_49 ⟨Nat.zero_le _, Nat.zero_le _⟩) (fun v9 e9 => ?_)
  rw [e9]
  refine lv_aload_n hx hb dL_curves_52 rfl (lv_at hl 4 rfl) ?_
  refine lv_iload_n hx hb dL_curves_53 rfl (lv_at hl 3 rfl) ?_
  refine lv_iload hx hb dL_curves_54 (lv_at hl 1 rfl) ?_
  refine lv_iload_n hx hb dL_curves_56 rfl (lv_at hl 2 rfl) ?_
  refine lv_iload hx hb dL_curves_57 (lv_at hl 0 rfl) ?_
  obtain ⟨r_45, e_46, hf⟩ := bind_some hf
  rcases r_45 with z9 | q_47
  · exact nomatch (show (none : Option (Int32)) = some r from hf)
  simp only [Sum.elim_inr] at hf
  refine vp_callSl (W.runV (As := [.int (2 + r_34), .int r_38, .int (1 + r_36), .int r_40]) (rest := [.long q_44]) ⟨hx, hb, hml, hown, hts⟩ (nX5_acceptedByListing l X N a_office a_la a_ma a_plans a_course a_hist a_hr a_hb office_lotCount la_f ma_f plans_level plans_quality plans_twice course_steady course_rate course_state course_skipping course_changedAt course_acceptedInRow course_passedInGroup hist_length hr_f hb_f pL pO pZ pF pV pT pI pB (2 + r_34) r_38 (1 + r_36) r_40 q_47 e_46) (cwV 4 hts gL_curves_X5_acceptedByListing rfl rfl rfl (by decide +kernel) ⟨Nat.le_of_ble_eq_true rfl, Nat.le_of_ble_eq_true rfl⟩) (oPreV hK hP hSt hS 0 rfl rfl) rfl rfl hl.1 rfl (lv_room (Nat.le_of_ble_eq_true rfl)) dL_curves_59 ⟨Nat.zero_le _, Nat.zero_le _⟩) (fun v9 e9 => ?_)
  rw [e9]
  refine W.lcmp hx hb dL_curves_62 ?_
  refine lv_if_ne (tgt := 100) hx hb dL_curves_63 (by decide) (fun c_48 => ?_) (fun c_48 => ?_)
  · rw [if_neg c_48] at hf
    exact B100 p1 hf ls (lv_sub hl [4, 5] rfl)
  · rw [if_pos c_48] at hf
    refine lv_aload_n hx hb dL_curves_66 rfl (lv_at hl 4 rfl) ?_
    refine lv_iload_n hx hb dL_curves_67 rfl (lv_at hl 3 rfl) ?_
    refine lv_iload hx hb dL_curves_68 (lv_at hl 1 rfl) ?_
    refine lv_iload_n hx hb dL_curves_70 rfl (lv_at hl 2 rfl) ?_
    refine lv_iload_n hx hb dL_curves_71 rfl (lv_at hl 3 rfl) ?_
    obtain ⟨r_49, e_50, hf⟩ := bind_some hf
    rcases r_49 with z9 | q_51
    · exact nomatch (show (none : Option (Int32)) = some r from hf)
    simp only [Sum.elim_inr] at hf
    refine vp_callSl (W.runV (As := [.int (2 + r_34), .int r_38, .int (1 + r_36), .int (2 + r_34)]) (rest := []) ⟨hx, hb, hml, hown, hts⟩ (nX5_accepted l X N a_office a_la a_ma a_plans a_course a_hist a_hr a_hb office_lotCount la_f ma_f plans_level plans_quality plans_twice course_steady course_rate course_state course_skipping course_changedAt course_acceptedInRow course_passedInGroup hist_length hr_f hb_f pL pO pZ pF pV pT pI pB (2 + r_34) r_38 (1 + r_36) (2 + r_34) q_51 e_50) (cwV 4 hts gL_curves_X5_accepted rfl rfl rfl (by decide +kernel) ⟨Nat.le_of_ble_eq_true rfl, Nat.le_of_ble_eq_true rfl⟩) (oPreV hK hP hSt hS 0 rfl rfl) rfl rfl hl.1 rfl (lv_room (Nat.le_of_ble_eq_true rfl)) dL_curves_72 ⟨Nat.zero_le _, Nat.zero_le _⟩) (fun v9 e9 => ?_)
    rw [e9]
    refine lv_aload_n hx hb dL_curves_75 rfl (lv_at hl 4 rfl) ?_
    refine lv_iload_n hx hb dL_curves_76 rfl (lv_at hl 3 rfl) ?_
    refine lv_iload_n hx hb dL_curves_77 rfl (lv_at hl 2 rfl) ?_
    obtain ⟨r_52, e_53, hf⟩ := bind_some hf
    rcases r_52 with z9 | q_54
    · exact nomatch (show (none : Option (Int32)) = some r from hf)
    simp only [Sum.elim_inr] at hf
    refine vp_callSl (W.runV (As := [.int (2 + r_34), .int (1 + r_36)]) (rest := [.long q_51]) ⟨hx, hb, hml, hown, hts⟩ (nX5_samples l X N a_office a_la a_ma a_plans a_course a_hist a_hr a_hb office_lotCount la_f ma_f plans_level plans_quality plans_twice course_steady course_rate course_state course_skipping course_changedAt course_acceptedInRow course_passedInGroup hist_length hr_f hb_f pL pO pZ pF pV pT pI pB (2 + r_34) (1 + r_36) q_54 e_53) (cwV 2 hts gL_curves_X5_samples rfl rfl rfl (by decide +kernel) ⟨Nat.le_of_ble_eq_true rfl, Nat.le_of_ble_eq_true rfl⟩) (oPreV hK hP hSt hS 0 rfl rfl) rfl rfl hl.1 rfl (lv_room (Nat.le_of_ble_eq_true rfl)) dL_curves_78 ⟨Nat.zero_le _, Nat.zero_le _⟩) (fun v9 e9 => ?_)
    rw [e9]
    refine W.lcmp hx hb dL_curves_81 ?_
    refine lv_if_ne (tgt := 100) hx hb dL_curves_82 (by decide) (fun c_55 => ?_) (fun c_55 => ?_)
    · rw [if_neg c_55] at hf
      exact B100 p1 hf ls (lv_sub hl [4, 5] rfl)
    · rw [if_pos c_55] at hf
      refine lv_aload_n hx hb dL_curves_85 rfl (lv_at hl 4 rfl) ?_
      refine lv_iload_n hx hb dL_curves_86 rfl (lv_at hl 3 rfl) ?_
      refine lv_iload_n hx hb dL_curves_87 rfl (lv_at hl 3 rfl) ?_
      obtain ⟨r_56, e_57, hf⟩ := bind_some hf
      rcases r_56 with z9 | q_58
      · exact nomatch (show (none : Option (Int32)) = some r from hf)
      simp only [Sum.elim_inr] at hf
      refine vp_callSl (W.runV (As := [.int (2 + r_34), .int (2 + r_34)]) (rest := []) ⟨hx, hb, hml, hown, hts⟩ (nX5_samples l X N a_office a_la a_ma a_plans a_course a_hist a_hr a_hb office_lotCount la_f ma_f plans_level plans_quality plans_twice course_steady course_rate course_state course_skipping course_changedAt course_acceptedInRow course_passedInGroup hist_length hr_f hb_f pL pO pZ pF pV pT pI pB (2 + r_34) (2 + r_34) q_58 e_57) (cwV 2 hts gL_curves_X5_samples rfl rfl rfl (by decide +kernel) ⟨Nat.le_of_ble_eq_true rfl, Nat.le_of_ble_eq_true rfl⟩) (oPreV hK hP hSt hS 0 rfl rfl) rfl rfl hl.1 rfl (lv_room (Nat.le_of_ble_eq_true rfl)) dL_curves_88 ⟨Nat.zero_le _, Nat.zero_le _⟩) (fun v9 e9 => ?_)
      rw [e9]
      refine lv_lconst (v := 1) hx hb dL_curves_91 (by decide) ?_
      refine W.lcmp hx hb dL_curves_92 ?_
      refine lv_if_ne (tgt := 100) hx hb dL_curves_93 (by decide) (fun c_59 => ?_) (fun c_59 => ?_)
      · rw [if_neg c_59] at hf
        exact B100 p1 hf ls (lv_sub hl [4, 5] rfl)
      · rw [if_pos c_59] at hf
        refine lv_iconst (v := 1) hx hb dL_curves_96 (by decide) ?_
        refine lv_goto (tgt := 101) hx hb dL_curves_97 (by decide) ?_
        exact B101 p1 1 hf ls (lv_sub hl [4, 5] rfl)
