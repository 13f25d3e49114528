def rmX4_sampleOf : Room := { frames := 0, cells := 0, slots := 0, locals := 0 }
theorem lkX4_sampleOf_1 : Cond.fieldLink RX4 29 "InspectionOffice$Plans" "SAMPLE_OF_LETTER" "[I" ∈ wsX4_sampleOf := List.mem_of_getElem? (i := 1) rfl
set_option maxHeartbeats 4000000 in
set_option maxRecDepth 100000 in
theorem mX4_sampleOf (l : Launch) (X : cxT) (N : Nat) (p0 : Int32) (r : Int32) (hf0 : fX4_sampleOf N p0 = some r) : Met l yX4_sampleOf wsX4_sampleOf rmX4_sampleOf (rPre X [] [.int p0]) (vp_Si (fun v : Int32 => v = r)) 0 0 (fun _ => False) := by
  refine Met.ofW (cc := cX4_sampleOf) (maxL := 2) (ret := (some .int)) (by decide) rfl ?_
  intro p e s m args below meth c s₁ B hml hv
  obtain ⟨rfl, hP, hK, hSt⟩ := hv
  have hx := B.exec
  have hb := B.bytes
  have hr := B.returns
  have hts := atoms_spec (ws := wsX4_sampleOf) B.pre
  have hown : s.vm.findClass RX4 = some m.cls := findClass_of_methodNamed B.named
  have hlocks := B.notSynchronized
  have hS : va_S (fun _ => False) s.heap s.heap [] := va_S.rf
  obtain ⟨⟨⟨t_tabL, hZ_tabL, hT_tabL⟩, ⟨t_tabS, hZ_tabS, hT_tabS⟩⟩, -⟩ := id hSt
  have hl := lv_entry ([.int p0]) (n := 2) (Nat.le_of_ble_eq_true rfl)
  rw [lg_entry_eq]
  generalize (lg_sl ([.int p0]) ++ List.replicate (2 - (lg_sl ([.int p0])).length) Slot.unset).toArray = ls at hl ⊢
  have hl : lv_has ls 2 [(0, .int p0)] := hl
  have B17 : (∀ (x0 : Int32) (y0 : Int32), fX4_sampleOf_b17 N x0 y0 = some r → ∀ ls : Array Slot, lv_has ls 2 [(0, .int x0)] → W p l e (headSpec wsX4_sampleOf rmX4_sampleOf).room s m (([.int p0] : List Value).toArray) below meth c s.heap [] 0 0 (MQ below (vp_Si (fun v : Int32 => v = r)) ([.int p0] : List Value).toArray s 0 0 (fun _ => False)) (F0 m 17 ls [.int y0])) := by
    intro x0 y0 hf ls hl
    unfold fX4_sampleOf_b17 at hf
    refine lv_istore_n (lv' := [(1, .int y0), (0, .int x0)]) hx hb dX4_sampleOf_17 rfl hl (by decide) rfl (fun ls hl => ?_)
    refine va_gets hx hb hZ_tabS hS hown (hts _ lkX4_sampleOf_1) (fun _ h9 => h9) dX4_sampleOf_18 ?_
    refine lv_iload_n hx hb dX4_sampleOf_21 rfl (lv_at hl 0 rfl) ?_
    refine lv_if_eq (tgt := 29) hx hb dX4_sampleOf_22 (by decide) (fun c_1 => ?_) (fun c_1 => ?_)
    · rw [if_pos c_1] at hf
      refine lv_iconst (v := 0) hx hb dX4_sampleOf_29 (by decide) ?_
      obtain ⟨g_2, hf⟩ := ite_some hf
      refine va_ti hx hb hT_tabS hS (i := (0 : Int32)) g_2 rfl dX4_sampleOf_30 ?_
      obtain rfl := Option.some.inj hf
      exact W.iret hx hb hr (fun t ht hW => ⟨_, rfl, rfl, ht⟩) (fun _ h => by cases h) dX4_sampleOf_31
    · rw [if_neg c_1] at hf
      refine lv_iload_n hx hb dX4_sampleOf_25 rfl (lv_at hl 1 rfl) ?_
      refine lv_goto (tgt := 30) hx hb dX4_sampleOf_26 (by decide) ?_
      obtain ⟨g_3, hf⟩ := ite_some hf
      refine va_ti hx hb hT_tabS hS (i := x0) g_3 rfl dX4_sampleOf_30 ?_
      obtain rfl := Option.some.inj hf
      exact W.iret hx hb hr (fun t ht hW => ⟨_, rfl, rfl, ht⟩) (fun _ h => by cases h) dX4_sampleOf_31
  have B16 : (∀ (x0 : Int32), fX4_sampleOf_b16 N x0 = some r → ∀ ls : Array Slot, lv_has ls 2 [(0, .int x0)] → W p l e (headSpec wsX4_sampleOf rmX4_sampleOf).room s m (([.int p0] : List Value).toArray) below meth c s.heap [] 0 0 (MQ below (vp_Si (fun v : Int32 => v = r)) ([.int p0] : List Value).toArray s 0 0 (fun _ => False)) (F0 m 16 ls [])) := by
    intro x0 hf ls hl
    unfold fX4_sampleOf_b16 at hf
    refine lv_iconst (v := 0) hx hb dX4_sampleOf_16 (by decide) ?_
    exact B17 x0 0 hf ls (lv_sub hl [0] rfl)
  have hf := hf0
  unfold fX4_sampleOf at hf
  refine lv_iload_n hx hb dX4_sampleOf_0 rfl (lv_at hl 0 rfl) ?_
  refine lv_if_lt (tgt := 16) hx hb dX4_sampleOf_1 (by decide) (fun c_4 => ?_) (fun c_4 => ?_)
  · rw [if_pos c_4] at hf
    exact B16 p0 hf ls (lv_sub hl [0] rfl)
  · rw [if_neg c_4] at hf
    refine lv_iload_n hx hb dX4_sampleOf_4 rfl (lv_at hl 0 rfl) ?_
    refine va_gets hx hb hZ_tabS hS hown (hts _ lkX4_sampleOf_1) (fun _ h9 => h9) dX4_sampleOf_5 ?_
    refine va_tlen (v := 8) hx hb hT_tabS hS (by decide) dX4_sampleOf_8 ?_
    refine lv_icmp_ge (tgt := 16) hx hb dX4_sampleOf_9 (by decide) (fun c_5 => ?_) (fun c_5 => ?_)
    · rw [if_pos c_5] at hf
      exact B16 p0 hf ls (lv_sub hl [0] rfl)
    · rw [if_neg c_5] at hf
      refine lv_iconst (v := 1) hx hb dX4_sampleOf_12 (by decide) ?_
      refine lv_goto (tgt := 17) hx hb dX4_sampleOf_13 (by decide) ?_
      exact B17 p0 1 hf ls (lv_sub hl [0] rfl)
def rmX4_letterFor : Room := { frames := 1, cells := 0, slots := 0, locals := 21 }
theorem iwX4_letterFor_X4 : ∀ w ∈ wsX40, w ∈ wsX4_letterFor := fun w h => List.mem_cons_of_mem _ (List.mem_append_right _ (h))
theorem lkX4_letterFor_1 : Cond.fieldLink RX4 9 "InspectionOffice$Plans" "level" "I" ∈ wsX4_letterFor := List.mem_of_getElem? (i := 1) rfl
theorem lkX4_letterFor_2 : Cond.fieldLink RX4 18 "InspectionOffice$Plans" "LARGEST_OF_CLASS" "[I" ∈ wsX4_letterFor := List.mem_of_getElem? (i := 2) rfl
set_option maxHeartbeats 4000000 in
set_option maxRecDepth 100000 in
theorem mX4_letterFor (l : Launch) (X : cxT) (N : Nat) (a_plans : Nat) (plans_level : Int32) (plans_quality : Int32) (plans_twice : Int32) (p1 : Int32) (r : Int32) (hf0 : fX4_letterFor N p1 plans_level = some r) : Met l yX4_letterFor wsX4_letterFor rmX4_letterFor (rPre X [(a_plans, .inr (3, [.int plans_level, .int plans_quality, .int plans_twice]))] [.ref a_plans, .int p1]) (vp_Si (fun v : Int32 => v = r)) 0 0 (fun _ => False) := by
  refine Met.ofW (cc := cX4_letterFor) (maxL := 7) (ret := (some .int)) (by decide) rfl ?_
  intro p e s m args below meth c s₁ B hml hv
  obtain ⟨rfl, hP, hK, hSt⟩ := hv
  have hx := B.exec
  have hb := B.bytes
  have hr := B.returns
  have hts := atoms_spec (ws := wsX4_letterFor) B.pre
  have hown : s.vm.findClass RX4 = some m.cls := findClass_of_methodNamed B.named
  have hlocks := B.notSynchronized
  have hS : va_S (fun _ => False) s.heap s.heap [] := va_S.rf
  obtain ⟨⟨⟨t_tabL, hZ_tabL, hT_tabL⟩, ⟨t_tabS, hZ_tabS, hT_tabS⟩⟩, -⟩ := id hSt
  have hl := lv_entry ([.ref a_plans, .int p1]) (n := 7) (Nat.le_of_ble_eq_true rfl)
  rw [lg_entry_eq]
  generalize (lg_sl ([.ref a_plans, .int p1]) ++ List.replicate (7 - (lg_sl ([.ref a_plans, .int p1])).length) Slot.unset).toArray = ls at hl ⊢
  have hl : lv_has ls 7 [(0, .ref a_plans), (1, .int p1)] := hl
  have B44 : ∀ k : Nat, (∀ (x1 : Int32) (x2 : Int32), fX4_letterFor_b44 N plans_level k x1 x2 = some r → ∀ ls : Array Slot, lv_has ls 7 [(1, .int x1), (2, .int x2)] → W p l e (headSpec wsX4_letterFor rmX4_letterFor).room s m (([.ref a_plans, .int p1] : List Value).toArray) below meth c s.heap [] 0 0 (MQ below (vp_Si (fun v : Int32 => v = r)) ([.ref a_plans, .int p1] : List Value).toArray s 0 0 (fun _ => False)) (F0 m 44 ls [])) := by
    intro k
    induction k with
    | zero =>
      intro x1 x2 hf ls hl
      exact nomatch (show (none : Option (Int32)) = some r from hf)
    | succ k ih =>
      intro x1 x2 hf ls hl
      unfold fX4_letterFor_b44 at hf
      refine lv_iload_n hx hb dX4_letterFor_44 rfl (lv_at hl 1 rfl) ?_
      refine lv_if_le (tgt := 62) hx hb dX4_letterFor_45 (by decide) (fun c_4 => ?_) (fun c_4 => ?_)
      · rw [if_pos c_4] at hf
        refine lv_iload_n hx hb dX4_letterFor_62 rfl (lv_at hl 1 rfl) ?_
        obtain rfl := Option.some.inj hf
        exact W.iret hx hb hr (fun t ht hW => ⟨_, rfl, rfl, ht⟩) (fun _ h => by cases h) dX4_letterFor_63
      · rw [if_neg c_4] at hf
        refine lv_iload_n hx hb dX4_letterFor_48 rfl (lv_at hl 1 rfl) ?_
        obtain ⟨r_5, e_6, hf⟩ := bind_some hf
        refine vp_callSi (W.runS (As := [.int x2]) (rest := []) ⟨hx, hb, hml, hown, hts⟩ (mX4_sampleOf l X N x2 r_5 e_6) (va_cwS 1 hts gX4_letterFor_X4_sampleOf rfl rfl rfl (by decide +kernel) ⟨Nat.le_of_ble_eq_true rfl, Nat.le_of_ble_eq_true rfl⟩) (rPreS hK hP hSt hS [] rfl) rfl rfl hl.1 rfl (lv_room (Nat.le_of_ble_eq_true rfl)) dX4_letterFor_49 ⟨Nat.zero_le _, Nat.zero_le _⟩) (fun v9 e9 => ?_)
        rw [e9]
        refine lv_iload_n hx hb dX4_letterFor_52 rfl (lv_at hl 0 rfl) ?_
        refine lv_icmp_le (tgt := 62) hx hb dX4_letterFor_53 (by decide) (fun c_7 => ?_) (fun c_7 => ?_)
        · rw [if_pos c_7] at hf
          refine lv_iload_n hx hb dX4_letterFor_62 rfl (lv_at hl 1 rfl) ?_
          obtain rfl := Option.some.inj hf
          exact W.iret hx hb hr (fun t ht hW => ⟨_, rfl, rfl, ht⟩) (fun _ h => by cases h) dX4_letterFor_63
        · rw [if_neg c_7] at hf
          refine lv_iinc (v := x2 + (-1)) (lv' := [(2, .int (x2 + (-1))), (1, .int x1)]) hx hb dX4_letterFor_56 hl (k := 1) rfl rfl (by decide) rfl (fun ls hl => ?_)
          refine lv_goto (tgt := 44) hx hb dX4_letterFor_59 (by decide) ?_
          exact ih x1 (x2 + (-1)) hf ls (lv_sub hl [1, 0] rfl)
  have B38 : ∀ (rec_16 : Int32 → Int32 → Int32 → Int32 → Option (Int32)), (∀ (x1 : Int32) (x2 : Int32) (x4 : Int32) (x5 : Int32), rec_16 x1 x2 x4 x5 = some r → ∀ ls : Array Slot, lv_has ls 7 [(1, .int x1), (2, .int x2), (3, .ref t_tabL), (4, .int x4), (5, .int x5)] → W p l e (headSpec wsX4_letterFor rmX4_letterFor).room s m (([.ref a_plans, .int p1] : List Value).toArray) below meth c s.heap [] 0 0 (MQ below (vp_Si (fun v : Int32 => v = r)) ([.ref a_plans, .int p1] : List Value).toArray s 0 0 (fun _ => False)) (F0 m 16 ls [])) → (∀ (x1 : Int32) (x2 : Int32) (x4 : Int32) (x5 : Int32), fX4_letterFor_b38 N plans_level rec_16 x1 x2 x4 x5 = some r → ∀ ls : Array Slot, lv_has ls 7 [(1, .int x1), (2, .int x2), (3, .ref t_tabL), (4, .int x4), (5, .int x5)] → W p l e (headSpec wsX4_letterFor rmX4_letterFor).room s m (([.ref a_plans, .int p1] : List Value).toArray) below meth c s.heap [] 0 0 (MQ below (vp_Si (fun v : Int32 => v = r)) ([.ref a_plans, .int p1] : List Value).toArray s 0 0 (fun _ => False)) (F0 m 38 ls [])) := by
    intro rec_16 hrec_16 x1 x2 x4 x5 hf ls hl
    unfold fX4_letterFor_b38 at hf
    refine lv_iinc (v := x5 + 1) (lv' := [(5, .int (x5 + 1)), (1, .int x1), (2, .int x2), (3, .ref t_tabL), (4, .int x4)]) hx hb dX4_letterFor_38 hl (k := 4) rfl rfl (by decide) rfl (fun ls hl => ?_)
    refine lv_goto (tgt := 16) hx hb dX4_letterFor_41 (by decide) ?_
    exact hrec_16 x1 x2 x4 (x5 + 1) hf ls (lv_sub hl [1, 2, 3, 4, 0] rfl)
  have B16 : ∀ k : Nat, (∀ (x1 : Int32) (x2 : Int32) (x4 : Int32) (x5 : Int32), fX4_letterFor_b16 N plans_level k x1 x2 x4 x5 = some r → ∀ ls : Array Slot, lv_has ls 7 [(1, .int x1), (2, .int x2), (3, .ref t_tabL), (4, .int x4), (5, .int x5)] → W p l e (headSpec wsX4_letterFor rmX4_letterFor).room s m (([.ref a_plans, .int p1] : List Value).toArray) below meth c s.heap [] 0 0 (MQ below (vp_Si (fun v : Int32 => v = r)) ([.ref a_plans, .int p1] : List Value).toArray s 0 0 (fun _ => False)) (F0 m 16 ls [])) := by
    intro k
    induction k with
    | zero =>
      intro x1 x2 x4 x5 hf ls hl
      exact nomatch (show (none : Option (Int32)) = some r from hf)
    | succ k ih =>
      intro x1 x2 x4 x5 hf ls hl
      unfold fX4_letterFor_b16 at hf
      refine lv_iload hx hb dX4_letterFor_16 (lv_at hl 4 rfl) ?_
      refine lv_iload hx hb dX4_letterFor_18 (lv_at hl 3 rfl) ?_
      refine lv_icmp_ge (tgt := 44) hx hb dX4_letterFor_20 (by decide) (fun c_1 => ?_) (fun c_1 => ?_)
      · rw [if_pos c_1] at hf
        exact B44 N x1 x2 hf ls (lv_sub hl [0, 1] rfl)
      · rw [if_neg c_1] at hf
        refine lv_aload_n hx hb dX4_letterFor_23 rfl (lv_at hl 2 rfl) ?_
        refine lv_iload hx hb dX4_letterFor_24 (lv_at hl 4 rfl) ?_
        obtain ⟨g_2, hf⟩ := ite_some hf
        refine va_ti hx hb hT_tabL hS (i := x5) g_2 rfl dX4_letterFor_26 ?_
        refine lv_istore (lv' := [(6, .int (tabL x5.toNatClampNeg)), (1, .int x1), (2, .int x2), (3, .ref t_tabL), (4, .int x4), (5, .int x5)]) hx hb dX4_letterFor_27 hl (by decide) rfl (fun ls hl => ?_)
        refine lv_iload_n hx hb dX4_letterFor_29 rfl (lv_at hl 1 rfl) ?_
        refine lv_iload hx hb dX4_letterFor_30 (lv_at hl 0 rfl) ?_
        refine lv_icmp_le (tgt := 38) hx hb dX4_letterFor_32 (by decide) (fun c_3 => ?_) (fun c_3 => ?_)
        · rw [if_pos c_3] at hf
          exact B38 (fun x1 x2 x4 x5 => fX4_letterFor_b16 N plans_level k x1 x2 x4 x5) ih x1 x2 x4 x5 hf ls (lv_sub hl [1, 2, 3, 4, 5] rfl)
        · rw [if_neg c_3] at hf
          refine lv_iinc (v := x2 + 1) (lv' := [(2, .int (x2 + 1)), (6, .int (tabL x5.toNatClampNeg)), (1, .int x1), (3, .ref t_tabL), (4, .int x4), (5, .int x5)]) hx hb dX4_letterFor_35 hl (k := 2) rfl rfl (by decide) rfl (fun ls hl => ?_)
          exact B38 (fun x1 x2 x4 x5 => fX4_letterFor_b16 N plans_level k x1 x2 x4 x5) ih x1 (x2 + 1) x4 x5 hf ls (lv_sub hl [2, 0, 3, 4, 5] rfl)
  have hf := hf0
  unfold fX4_letterFor at hf
  refine lv_aload_n hx hb dX4_letterFor_0 rfl (lv_at hl 0 rfl) ?_
  refine va_get (D := X.1) (ci := 3) (v := .int plans_level) (C := RX4) (T := TX4) (N := 3) hx hb hts iwX4_letterFor_X4 hown hK hP 0 rfl rfl 0 (by decide) (hts _ lkX4_letterFor_1) (fun _ h9 => h9) rfl dX4_letterFor_1 ?_
  refine lv_istore_n (lv' := [(2, .int plans_level), (0, .ref a_plans), (1, .int p1)]) hx hb dX4_letterFor_4 rfl hl (by decide) rfl (fun ls hl => ?_)
  refine va_gets hx hb hZ_tabL hS hown (hts _ lkX4_letterFor_2) (fun _ h9 => h9) dX4_letterFor_5 ?_
  refine lv_astore_n (lv' := [(3, .ref t_tabL), (2, .int plans_level), (0, .ref a_plans), (1, .int p1)]) hx hb dX4_letterFor_8 rfl hl (by decide) rfl (fun ls hl => ?_)
  refine lv_aload_n hx hb dX4_letterFor_9 rfl (lv_at hl 0 rfl) ?_
  refine va_tlen (v := 5) hx hb hT_tabL hS (by decide) dX4_letterFor_10 ?_
  refine lv_istore (lv' := [(4, .int 5), (3, .ref t_tabL), (2, .int plans_level), (0, .ref a_plans), (1, .int p1)]) hx hb dX4_letterFor_11 hl (by decide) rfl (fun ls hl => ?_)
  refine lv_iconst (v := 0) hx hb dX4_letterFor_13 (by decide) ?_
  refine lv_istore (lv' := [(5, .int 0), (4, .int 5), (3, .ref t_tabL), (2, .int plans_level), (0, .ref a_plans), (1, .int p1)]) hx hb dX4_letterFor_14 hl (by decide) rfl (fun ls hl => ?_)
  exact B16 N p1 plans_level 5 0 hf ls (lv_sub hl [5, 3, 2, 1, 0] rfl)
def rmX4_sampleUnder : Room := { frames := 2, cells := 0, slots := 0, locals := 47 }
set_option maxHeartbeats 4000000 in
set_option maxRecDepth 100000 in
theorem mX4_sampleUnder (l : Launch) (X : cxT) (N : Nat) (a_plans : Nat) (plans_level : Int32) (plans_quality : Int32) (plans_twice : Int32) (p1 : Int32) (p2 : Int32) (r : Int32) (hf0 : fX4_sampleUnder N p1 p2 plans_level = some r) : Met l yX4_sampleUnder wsX4_sampleUnder rmX4_sampleUnder (rPre X [(a_plans, .inr (3, [.int plans_level, .int plans_quality, .int plans_twice]))] [.ref a_plans, .int p1, .int p2]) (vp_Si (fun v : Int32 => v = r)) 0 0 (fun _ => False) := by
  refine Met.ofW (cc := cX4_sampleUnder) (maxL := 4) (ret := (some .int)) (by decide) rfl ?_
  intro p e s m args below meth c s₁ B hml hv
  obtain ⟨rfl, hP, hK, hSt⟩ := hv
  have hx := B.exec
  have hb := B.bytes
  have hr := B.returns
  have hts := atoms_spec (ws := wsX4_sampleUnder) B.pre
  have hown : s.vm.findClass RX4 = some m.cls := findClass_of_methodNamed B.named
  have hlocks := B.notSynchronized
  have hS : va_S (fun _ => False) s.heap s.heap [] := va_S.rf
  have hl := lv_entry ([.ref a_plans, .int p1, .int p2]) (n := 4) (Nat.le_of_ble_eq_true rfl)
  rw [lg_entry_eq]
  generalize (lg_sl ([.ref a_plans, .int p1, .int p2]) ++ List.replicate (4 - (lg_sl ([.ref a_plans, .int p1, .int p2])).length) Slot.unset).toArray = ls at hl ⊢
  have hl : lv_has ls 4 [(0, .ref a_plans), (1, .int p1), (2, .int p2)] := hl
  have B18 : (∀ (y0 : Int32), fX4_sampleUnder_b18 N plans_level y0 = some r → ∀ ls : Array Slot, lv_has ls 4 [] → W p l e (headSpec wsX4_sampleUnder rmX4_sampleUnder).room s m (([.ref a_plans, .int p1, .int p2] : List Value).toArray) below meth c s.heap [] 0 0 (MQ below (vp_Si (fun v : Int32 => v = r)) ([.ref a_plans, .int p1, .int p2] : List Value).toArray s 0 0 (fun _ => False)) (F0 m 18 ls [.int y0])) := by
    intro y0 hf ls hl
    unfold fX4_sampleUnder_b18 at hf
    obtain ⟨r_1, e_2, hf⟩ := bind_some hf
    refine vp_callSi (W.runS (As := [.int y0]) (rest := []) ⟨hx, hb, hml, hown, hts⟩ (mX4_sampleOf l X N y0 r_1 e_2) (va_cwS 1 hts gX4_sampleUnder_X4_sampleOf rfl rfl rfl (by decide +kernel) ⟨Nat.le_of_ble_eq_true rfl, Nat.le_of_ble_eq_true rfl⟩) (rPreS hK hP hSt hS [] rfl) rfl rfl hl.1 rfl (lv_room (Nat.le_of_ble_eq_true rfl)) dX4_sampleUnder_18 ⟨Nat.zero_le _, Nat.zero_le _⟩) (fun v9 e9 => ?_)
    rw [e9]
    obtain rfl := Option.some.inj hf
    exact W.iret hx hb hr (fun t ht hW => ⟨_, rfl, rfl, ht⟩) (fun _ h => by cases h) dX4_sampleUnder_21
  have hf := hf0
  unfold fX4_sampleUnder at hf
  refine lv_aload_n hx hb dX4_sampleUnder_0 rfl (lv_at hl 0 rfl) ?_
  refine lv_iload_n hx hb dX4_sampleUnder_1 rfl (lv_at hl 1 rfl) ?_
  obtain ⟨r_3, e_4, hf⟩ := bind_some hf
  refine vp_callSi (W.runV (As := [.int p1]) (rest := []) ⟨hx, hb, hml, hown, hts⟩ (mX4_letterFor l X N a_plans plans_level plans_quality plans_twice p1 r_3 e_4) (cwV 1 hts gX4_sampleUnder_X4_letterFor rfl rfl rfl (by decide +kernel) ⟨Nat.le_of_ble_eq_true rfl, Nat.le_of_ble_eq_true rfl⟩) (rPreV hK hP hSt hS [0] rfl 0 rfl rfl) rfl rfl hl.1 rfl (lv_room (Nat.le_of_ble_eq_true rfl)) dX4_sampleUnder_2 ⟨Nat.zero_le _, Nat.zero_le _⟩) (fun v9 e9 => ?_)
  rw [e9]
  refine lv_istore_n (lv' := [(3, .int r_3), (0, .ref a_plans), (1, .int p1), (2, .int p2)]) hx hb dX4_sampleUnder_5 rfl hl (by decide) rfl (fun ls hl => ?_)
  refine lv_iload_n hx hb dX4_sampleUnder_6 rfl (lv_at hl 3 rfl) ?_
  refine lv_iconst (v := 2) hx hb dX4_sampleUnder_7 (by decide) ?_
  refine lv_icmp_ne (tgt := 17) hx hb dX4_sampleUnder_8 (by decide) (fun c_5 => ?_) (fun c_5 => ?_)
  · rw [if_neg c_5] at hf
    refine lv_iload_n hx hb dX4_sampleUnder_17 rfl (lv_at hl 0 rfl) ?_
    exact B18 r_3 hf ls (lv_sub hl [] rfl)
  · rw [if_pos c_5] at hf
    refine lv_iload_n hx hb dX4_sampleUnder_11 rfl (lv_at hl 0 rfl) ?_
    refine lv_iconst (v := 2) hx hb dX4_sampleUnder_12 (by decide) ?_
    refine lv_isub hx hb dX4_sampleUnder_13 ?_
    refine lv_goto (tgt := 18) hx hb dX4_sampleUnder_14 (by decide) ?_
    exact B18 (r_3 - 2) hf ls (lv_sub hl [] rfl)
def rmX4_acceptingUnder : Room := { frames := 2, cells := 0, slots := 0, locals := 47 }
theorem iwX4_acceptingUnder_X4 : ∀ w ∈ wsX40, w ∈ wsX4_acceptingUnder := fun w h => List.mem_cons_of_mem _ (List.mem_append_right _ (h))
theorem lkX4_acceptingUnder_1 : Cond.fieldLink RX4 15 "InspectionOffice$Plans" "quality" "I" ∈ wsX4_acceptingUnder := List.mem_of_getElem? (i := 1) rfl
set_option maxHeartbeats 4000000 in
set_option maxRecDepth 100000 in
theorem mX4_acceptingUnder (l : Launch) (X : cxT) (N : Nat) (a_plans : Nat) (plans_level : Int32) (plans_quality : Int32) (plans_twice : Int32) (p1 : Int32) (p2 : Int32) (r : Int32) (hf0 : fX4_acceptingUnder N p1 p2 plans_level plans_quality = some r) : Met l yX4_acceptingUnder wsX4_acceptingUnder rmX4_acceptingUnder (rPre X [(a_plans, .inr (3, [.int plans_level, .int plans_quality, .int plans_twice]))] [.ref a_plans, .int p1, .int p2]) (vp_Si (fun v : Int32 => v = r)) 0 0 (fun _ => False) := by
  refine Met.ofW (cc := cX4_acceptingUnder) (maxL := 4) (ret := (some .int)) (by decide) rfl ?_
  intro p e s m args below meth c s₁ B hml hv
  obtain ⟨rfl, hP, hK, hSt⟩ := hv
  have hx := B.exec
  have hb := B.bytes
  have hr := B.returns
  have hts := atoms_spec (ws := wsX4_acceptingUnder) B.pre
  have hown : s.vm.findClass RX4 = some m.cls := findClass_of_methodNamed B.named
  have hlocks := B.notSynchronized
  have hS : va_S (fun _ => False) s.heap s.heap [] := va_S.rf
  have hl := lv_entry ([.ref a_plans, .int p1, .int p2]) (n := 4) (Nat.le_of_ble_eq_true rfl)
  rw [lg_entry_eq]
  generalize (lg_sl ([.ref a_plans, .int p1, .int p2]) ++ List.replicate (4 - (lg_sl ([.ref a_plans, .int p1, .int p2])).length) Slot.unset).toArray = ls at hl ⊢
  have hl : lv_has ls 4 [(0, .ref a_plans), (1, .int p1), (2, .int p2)] := hl
  have B29 : (∀ (x3 : Int32), fX4_acceptingUnder_b29 N plans_level plans_quality x3 = some r → ∀ ls : Array Slot, lv_has ls 4 [(3, .int x3)] → W p l e (headSpec wsX4_acceptingUnder rmX4_acceptingUnder).room s m (([.ref a_plans, .int p1, .int p2] : List Value).toArray) below meth c s.heap [] 0 0 (MQ below (vp_Si (fun v : Int32 => v = r)) ([.ref a_plans, .int p1, .int p2] : List Value).toArray s 0 0 (fun _ => False)) (F0 m 29 ls [])) := by
    intro x3 hf ls hl
    unfold fX4_acceptingUnder_b29 at hf
    refine lv_iload_n hx hb dX4_acceptingUnder_29 rfl (lv_at hl 0 rfl) ?_
    refine lv_goto (tgt := 36) hx hb dX4_acceptingUnder_30 (by decide) ?_
    obtain rfl := Option.some.inj hf
    exact W.iret hx hb hr (fun t ht hW => ⟨_, rfl, rfl, ht⟩) (fun _ h => by cases h) dX4_acceptingUnder_36
  have hf := hf0
  unfold fX4_acceptingUnder at hf
  refine lv_aload_n hx hb dX4_acceptingUnder_0 rfl (lv_at hl 0 rfl) ?_
  refine lv_iload_n hx hb dX4_acceptingUnder_1 rfl (lv_at hl 1 rfl) ?_
  obtain ⟨r_1, e_2, hf⟩ := bind_some hf
  refine vp_callSi (W.runV (As := [.int p1]) (rest := []) ⟨hx, hb, hml, hown, hts⟩ (mX4_letterFor l X N a_plans plans_level plans_quality plans_twice p1 r_1 e_2) (cwV 1 hts gX4_acceptingUnder_X4_letterFor rfl rfl rfl (by decide +kernel) ⟨Nat.le_of_ble_eq_true rfl, Nat.le_of_ble_eq_true rfl⟩) (rPreV hK hP hSt hS [0] rfl 0 rfl rfl) rfl rfl hl.1 rfl (lv_room (Nat.le_of_ble_eq_true rfl)) dX4_acceptingUnder_2 ⟨Nat.zero_le _, Nat.zero_le _⟩) (fun v9 e9 => ?_)
  rw [e9]
  obtain ⟨r_3, e_4, hf⟩ := bind_some hf
  refine vp_callSi (W.runS (As := [.int r_1]) (rest := []) ⟨hx, hb, hml, hown, hts⟩ (mX4_sampleOf l X N r_1 r_3 e_4) (va_cwS 1 hts gX4_acceptingUnder_X4_sampleOf rfl rfl rfl (by decide +kernel) ⟨Nat.le_of_ble_eq_true rfl, Nat.le_of_ble_eq_true rfl⟩) (rPreS hK hP hSt hS [] rfl) rfl rfl hl.1 rfl (lv_room (Nat.le_of_ble_eq_true rfl)) dX4_acceptingUnder_5 ⟨Nat.zero_le _, Nat.zero_le _⟩) (fun v9 e9 => ?_)
  rw [e9]
  refine lv_iconst (v := 2) hx hb dX4_acceptingUnder_8 (by decide) ?_
  refine lv_aload_n hx hb dX4_acceptingUnder_9 rfl (lv_at hl 0 rfl) ?_
  refine va_get (D := X.1) (ci := 3) (v := .int plans_quality) (C := RX4) (T := TX4) (N := 3) hx hb hts iwX4_acceptingUnder_X4 hown hK hP 0 rfl rfl 1 (by decide) (hts _ lkX4_acceptingUnder_1) (fun _ h9 => h9) rfl dX4_acceptingUnder_10 ?_
  refine lv_imul hx hb dX4_acceptingUnder_13 ?_
  refine lv_iconst (v := 1) hx hb dX4_acceptingUnder_14 (by decide) ?_
  refine lv_iadd hx hb dX4_acceptingUnder_15 ?_
  refine lv_imul hx hb dX4_acceptingUnder_16 ?_
  refine lv_bipush (v := 40) hx hb dX4_acceptingUnder_17 (by decide) ?_
  refine lv_idiv hx hb dX4_acceptingUnder_19 (by decide) ?_
  obtain ⟨z_5, e_6, hf⟩ := bind_some hf
  refine lv_eqi (Option.some.inj e_6) ?_
  refine lv_istore_n (lv' := [(3, .int z_5), (0, .ref a_plans), (1, .int p1), (2, .int p2)]) hx hb dX4_acceptingUnder_20 rfl hl (by decide) rfl (fun ls hl => ?_)
  refine lv_iload_n hx hb dX4_acceptingUnder_21 rfl (lv_at hl 3 rfl) ?_
  refine lv_if_eq (tgt := 29) hx hb dX4_acceptingUnder_22 (by decide) (fun c_7 => ?_) (fun c_7 => ?_)
  · rw [if_pos c_7] at hf
    exact B29 z_5 hf ls (lv_sub hl [0] rfl)
  · rw [if_neg c_7] at hf
    refine lv_iload_n hx hb dX4_acceptingUnder_25 rfl (lv_at hl 0 rfl) ?_
    refine lv_if_ne (tgt := 33) hx hb dX4_acceptingUnder_26 (by decide) (fun c_8 => ?_) (fun c_8 => ?_)
    · rw [if_neg c_8] at hf
      refine lv_iload_n hx hb dX4_acceptingUnder_33 rfl (lv_at hl 0 rfl) ?_
      refine lv_iconst (v := 1) hx hb dX4_acceptingUnder_34 (by decide) ?_
      refine lv_isub hx hb dX4_acceptingUnder_35 ?_
      obtain rfl := Option.some.inj hf
      exact W.iret hx hb hr (fun t ht hW => ⟨_, rfl, rfl, ht⟩) (fun _ h => by cases h) dX4_acceptingUnder_36
    · rw [if_pos c_8] at hf
      exact B29 z_5 hf ls (lv_sub hl [0] rfl)
def rmX2_refusedInLast : Room := { frames := 0, cells := 0, slots := 0, locals := 0 }
theorem iwX2_refusedInLast_X2 : ∀ w ∈ wsX20, w ∈ wsX2_refusedInLast := fun w h => List.mem_cons_of_mem _ (List.mem_append_right _ (h))
theorem lkX2_refusedInLast_1 : Cond.fieldLink RX2 19 "InspectionOffice$History" "length" "I" ∈ wsX2_refusedInLast := List.mem_of_getElem? (i := 1) rfl
theorem lkX2_refusedInLast_2 : Cond.fieldLink RX2 9 "InspectionOffice$History" "refused" "[Z" ∈ wsX2_refusedInLast := List.mem_of_getElem? (i := 2) rfl
set_option maxHeartbeats 4000000 in
set_option maxRecDepth 100000 in
theorem mX2_refusedInLast (l : Launch) (X : cxT) (N : Nat) (a_hist a_hr a_hb : Nat) (hist_length : Int32) (hr_f : Nat → Int32) (hb_f : Nat → Int32) (p1 : Int32) (r : Int32) (hf0 : fX2_refusedInLast N p1 hist_length hr_f = some r) : Met l yX2_refusedInLast wsX2_refusedInLast rmX2_refusedInLast (rPre X [(a_hist, .inr (1, [.ref a_hr, .ref a_hb, .int hist_length])), (a_hr, .inl (X.2 2, 60, .inl hr_f)), (a_hb, .inl (X.2 0, 60, .inl hb_f))] [.ref a_hist, .int p1]) (vp_Si (fun v : Int32 => v = r)) 0 0 (fun _ => False) := by
  refine Met.ofW (cc := cX2_refusedInLast) (maxL := 5) (ret := (some .int)) (by decide) rfl ?_
  intro p e s m args below meth c s₁ B hml hv
  obtain ⟨rfl, hP, hK, hSt⟩ := hv
  have hx := B.exec
  have hb := B.bytes
  have hr := B.returns
  have hts := atoms_spec (ws := wsX2_refusedInLast) B.pre
  have hown : s.vm.findClass RX2 = some m.cls := findClass_of_methodNamed B.named
  have hlocks := B.notSynchronized
  have hS : va_S (fun _ => False) s.heap s.heap [] := va_S.rf
  have hl := lv_entry ([.ref a_hist, .int p1]) (n := 5) (Nat.le_of_ble_eq_true rfl)
  rw [lg_entry_eq]
  generalize (lg_sl ([.ref a_hist, .int p1]) ++ List.replicate (5 - (lg_sl ([.ref a_hist, .int p1])).length) Slot.unset).toArray = ls at hl ⊢
  have hl : lv_has ls 5 [(0, .ref a_hist), (1, .int p1)] := hl
  have B58 : ∀ (rec_24 : Int32 → Int32 → Option (Int32)), (∀ (x2 : Int32) (x4 : Int32), rec_24 x2 x4 = some r → ∀ ls : Array Slot, lv_has ls 5 [(0, .ref a_hist), (2, .int x2), (4, .int x4)] → W p l e (headSpec wsX2_refusedInLast rmX2_refusedInLast).room s m (([.ref a_hist, .int p1] : List Value).toArray) below meth c s.heap [] 0 0 (MQ below (vp_Si (fun v : Int32 => v = r)) ([.ref a_hist, .int p1] : List Value).toArray s 0 0 (fun _ => False)) (F0 m 24 ls [])) → (∀ (x2 : Int32) (x4 : Int32), fX2_refusedInLast_b58 N hist_length hr_f rec_24 x2 x4 = some r → ∀ ls : Array Slot, lv_has ls 5 [(0, .ref a_hist), (2, .int x2), (4, .int x4)] → W p l e (headSpec wsX2_refusedInLast rmX2_refusedInLast).room s m (([.ref a_hist, .int p1] : List Value).toArray) below meth c s.heap [] 0 0 (MQ below (vp_Si (fun v : Int32 => v = r)) ([.ref a_hist, .int p1] : List Value).toArray s 0 0 (fun _ => False)) (F0 m 58 ls [])) := by
    intro rec_24 hrec_24 x2 x4 hf ls hl
    unfold fX2_refusedInLast_b58 at hf
    refine lv_iinc (v := x4 + 1) (lv' := [(4, .int (x4 + 1)), (0, .ref a_hist), (2, .int x2)]) hx hb dX2_refusedInLast_58 hl (k := 2) rfl rfl (by decide) rfl (fun ls hl => ?_)
    refine lv_goto (tgt := 24) hx hb dX2_refusedInLast_61 (by decide) ?_
    exact hrec_24 x2 (x4 + 1) hf ls (lv_sub hl [1, 2, 0] rfl)
  have B24 : ∀ k : Nat, (∀ (x2 : Int32) (x4 : Int32), fX2_refusedInLast_b24 N hist_length hr_f k x2 x4 = some r → ∀ ls : Array Slot, lv_has ls 5 [(0, .ref a_hist), (2, .int x2), (4, .int x4)] → W p l e (headSpec wsX2_refusedInLast rmX2_refusedInLast).room s m (([.ref a_hist, .int p1] : List Value).toArray) below meth c s.heap [] 0 0 (MQ below (vp_Si (fun v : Int32 => v = r)) ([.ref a_hist, .int p1] : List Value).toArray s 0 0 (fun _ => False)) (F0 m 24 ls [])) := by
    intro k
    induction k with
    | zero =>
      intro x2 x4 hf ls hl
      exact nomatch (show (none : Option (Int32)) = some r from hf)
    | succ k ih =>
      intro x2 x4 hf ls hl
      unfold fX2_refusedInLast_b24 at hf
      refine lv_iload hx hb dX2_refusedInLast_24 (lv_at hl 2 rfl) ?_
      refine lv_if_lt (tgt := 64) hx hb dX2_refusedInLast_26 (by decide) (fun c_1 => ?_) (fun c_1 => ?_)
      · rw [if_pos c_1] at hf
        refine lv_iload_n hx hb dX2_refusedInLast_64 rfl (lv_at hl 1 rfl) ?_
        obtain rfl := Option.some.inj hf
        exact W.iret hx hb hr (fun t ht hW => ⟨_, rfl, rfl, ht⟩) (fun _ h => by cases h) dX2_refusedInLast_65
      · rw [if_neg c_1] at hf
        refine lv_iload hx hb dX2_refusedInLast_29 (lv_at hl 2 rfl) ?_
        refine lv_aload_n hx hb dX2_refusedInLast_31 rfl (lv_at hl 0 rfl) ?_
        refine va_get (D := X.1) (ci := 1) (v := .int hist_length) (C := RX2) (T := TX2) (N := 3) hx hb hts iwX2_refusedInLast_X2 hown hK hP 0 rfl rfl 2 (by decide) (hts _ lkX2_refusedInLast_1) (fun _ h9 => h9) rfl dX2_refusedInLast_32 ?_
        refine lv_icmp_ge (tgt := 64) hx hb dX2_refusedInLast_35 (by decide) (fun c_2 => ?_) (fun c_2 => ?_)
        · rw [if_pos c_2] at hf
          refine lv_iload_n hx hb dX2_refusedInLast_64 rfl (lv_at hl 1 rfl) ?_
          obtain rfl := Option.some.inj hf
          exact W.iret hx hb hr (fun t ht hW => ⟨_, rfl, rfl, ht⟩) (fun _ h => by cases h) dX2_refusedInLast_65
        · rw [if_neg c_2] at hf
          refine lv_iload hx hb dX2_refusedInLast_38 (lv_at hl 2 rfl) ?_
          refine lv_bipush (v := 60) hx hb dX2_refusedInLast_40 (by decide) ?_
          refine lv_icmp_ge (tgt := 64) hx hb dX2_refusedInLast_42 (by decide) (fun c_3 => ?_) (fun c_3 => ?_)
          · rw [if_pos c_3] at hf
            refine lv_iload_n hx hb dX2_refusedInLast_64 rfl (lv_at hl 1 rfl) ?_
            obtain rfl := Option.some.inj hf
            exact W.iret hx hb hr (fun t ht hW => ⟨_, rfl, rfl, ht⟩) (fun _ h => by cases h) dX2_refusedInLast_65
          · rw [if_neg c_3] at hf
            refine lv_aload_n hx hb dX2_refusedInLast_45 rfl (lv_at hl 0 rfl) ?_
            refine va_get (D := X.1) (ci := 1) (v := .ref a_hr) (C := RX2) (T := TX2) (N := 3) hx hb hts iwX2_refusedInLast_X2 hown hK hP 0 rfl rfl 0 (by decide) (hts _ lkX2_refusedInLast_2) (fun _ h9 => h9) rfl dX2_refusedInLast_46 ?_
            refine lv_iload hx hb dX2_refusedInLast_49 (lv_at hl 2 rfl) ?_
            obtain ⟨g_4, hf⟩ := ite_some hf
            refine va_zald hx hb hK hP 1 2 rfl rfl (i := x4) g_4 dX2_refusedInLast_51 ?_
            refine lv_if_eq (tgt := 58) hx hb dX2_refusedInLast_52 (by decide) (fun c_5 => ?_) (fun c_5 => ?_)
            · rw [if_pos c_5] at hf
              exact B58 (fun x2 x4 => fX2_refusedInLast_b24 N hist_length hr_f k x2 x4) ih x2 x4 hf ls (lv_sub hl [0, 1, 2] rfl)
            · rw [if_neg c_5] at hf
              refine lv_iinc (v := x2 + 1) (lv' := [(2, .int (x2 + 1)), (0, .ref a_hist), (4, .int x4)]) hx hb dX2_refusedInLast_55 hl (k := 1) rfl rfl (by decide) rfl (fun ls hl => ?_)
              exact B58 (fun x2 x4 => fX2_refusedInLast_b24 N hist_length hr_f k x2 x4) ih (x2 + 1) x4 hf ls (lv_sub hl [1, 0, 2] rfl)
  have B20 : (∀ (x2 : Int32) (y0 : Int32), fX2_refusedInLast_b20 N hist_length hr_f x2 y0 = some r → ∀ ls : Array Slot, lv_has ls 5 [(0, .ref a_hist), (2, .int x2)] → W p l e (headSpec wsX2_refusedInLast rmX2_refusedInLast).room s m (([.ref a_hist, .int p1] : List Value).toArray) below meth c s.heap [] 0 0 (MQ below (vp_Si (fun v : Int32 => v = r)) ([.ref a_hist, .int p1] : List Value).toArray s 0 0 (fun _ => False)) (F0 m 20 ls [.int y0])) := by
    intro x2 y0 hf ls hl
    unfold fX2_refusedInLast_b20 at hf
    refine lv_istore_n (lv' := [(3, .int y0), (0, .ref a_hist), (2, .int x2)]) hx hb dX2_refusedInLast_20 rfl hl (by decide) rfl (fun ls hl => ?_)
    refine lv_iload_n hx hb dX2_refusedInLast_21 rfl (lv_at hl 0 rfl) ?_
    refine lv_istore (lv' := [(4, .int y0), (3, .int y0), (0, .ref a_hist), (2, .int x2)]) hx hb dX2_refusedInLast_22 hl (by decide) rfl (fun ls hl => ?_)
    exact B24 N x2 y0 hf ls (lv_sub hl [2, 3, 0] rfl)
  have hf := hf0
  unfold fX2_refusedInLast at hf
  refine lv_iconst (v := 0) hx hb dX2_refusedInLast_0 (by decide) ?_
  refine lv_istore_n (lv' := [(2, .int 0), (0, .ref a_hist), (1, .int p1)]) hx hb dX2_refusedInLast_1 rfl hl (by decide) rfl (fun ls hl => ?_)
  refine lv_aload_n hx hb dX2_refusedInLast_2 rfl (lv_at hl 1 rfl) ?_
  refine va_get (D := X.1) (ci := 1) (v := .int hist_length) (C := RX2) (T := TX2) (N := 3) hx hb hts iwX2_refusedInLast_X2 hown hK hP 0 rfl rfl 2 (by decide) (hts _ lkX2_refusedInLast_1) (fun _ h9 => h9) rfl dX2_refusedInLast_3 ?_
  refine lv_iload_n hx hb dX2_refusedInLast_6 rfl (lv_at hl 2 rfl) ?_
  refine lv_icmp_le (tgt := 19) hx hb dX2_refusedInLast_7 (by decide) (fun c_6 => ?_) (fun c_6 => ?_)
  · rw [if_pos c_6] at hf
    refine lv_iconst (v := 0) hx hb dX2_refusedInLast_19 (by decide) ?_
    exact B20 0 0 hf ls (lv_sub hl [1, 0] rfl)
  · rw [if_neg c_6] at hf
    refine lv_aload_n hx hb dX2_refusedInLast_10 rfl (lv_at hl 1 rfl) ?_
    refine va_get (D := X.1) (ci := 1) (v := .int hist_length) (C := RX2) (T := TX2) (N := 3) hx hb hts iwX2_refusedInLast_X2 hown hK hP 0 rfl rfl 2 (by decide) (hts _ lkX2_refusedInLast_1) (fun _ h9 => h9) rfl dX2_refusedInLast_11 ?_
    refine lv_iload_n hx hb dX2_refusedInLast_14 rfl (lv_at hl 2 rfl) ?_
    refine lv_isub hx hb dX2_refusedInLast_15 ?_
    refine lv_goto (tgt := 20) hx hb dX2_refusedInLast_16 (by decide) ?_
    exact B20 0 (hist_length - p1) hf ls (lv_sub hl [1, 0] rfl)
def rmX2_badInLast : Room := { frames := 0, cells := 0, slots := 0, locals := 0 }
theorem iwX2_badInLast_X2 : ∀ w ∈ wsX20, w ∈ wsX2_badInLast := fun w h => List.mem_cons_of_mem _ (List.mem_append_right _ (h))
theorem lkX2_badInLast_1 : Cond.fieldLink RX2 19 "InspectionOffice$History" "length" "I" ∈ wsX2_badInLast := List.mem_of_getElem? (i := 1) rfl
theorem lkX2_badInLast_2 : Cond.fieldLink RX2 15 "InspectionOffice$History" "bad" "[I" ∈ wsX2_badInLast := List.mem_of_getElem? (i := 2) rfl
set_option maxHeartbeats 4000000 in
set_option maxRecDepth 100000 in
theorem mX2_badInLast (l : Launch) (X : cxT) (N : Nat) (a_hist a_hr a_hb : Nat) (hist_length : Int32) (hr_f : Nat → Int32) (hb_f : Nat → Int32) (p1 : Int32) (r : Int32) (hf0 : fX2_badInLast N p1 hist_length hb_f = some r) : Met l yX2_badInLast wsX2_badInLast rmX2_badInLast (rPre X [(a_hist, .inr (1, [.ref a_hr, .ref a_hb, .int hist_length])), (a_hr, .inl (X.2 2, 60, .inl hr_f)), (a_hb, .inl (X.2 0, 60, .inl hb_f))] [.ref a_hist, .int p1]) (vp_Si (fun v : Int32 => v = r)) 0 0 (fun _ => False) := by
  refine Met.ofW (cc := cX2_badInLast) (maxL := 5) (ret := (some .int)) (by decide) rfl ?_
  intro p e s m args below meth c s₁ B hml hv
  obtain ⟨rfl, hP, hK, hSt⟩ := hv
  have hx := B.exec
  have hb := B.bytes
  have hr := B.returns
  have hts := atoms_spec (ws := wsX2_badInLast) B.pre
  have hown : s.vm.findClass RX2 = some m.cls := findClass_of_methodNamed B.named
  have hlocks := B.notSynchronized
  have hS : va_S (fun _ => False) s.heap s.heap [] := va_S.rf
  have hl := lv_entry ([.ref a_hist, .int p1]) (n := 5) (Nat.le_of_ble_eq_true rfl)
  rw [lg_entry_eq]
  generalize (lg_sl ([.ref a_hist, .int p1]) ++ List.replicate (5 - (lg_sl ([.ref a_hist, .int p1])).length) Slot.unset).toArray = ls at hl ⊢
  have hl : lv_has ls 5 [(0, .ref a_hist), (1, .int p1)] := hl
  have B24 : ∀ k : Nat, (∀ (x2 : Int32) (x4 : Int32), fX2_badInLast_b24 N hist_length hb_f k x2 x4 = some r → ∀ ls : Array Slot, lv_has ls 5 [(0, .ref a_hist), (2, .int x2), (4, .int x4)] → W p l e (headSpec wsX2_badInLast rmX2_badInLast).room s m (([.ref a_hist, .int p1] : List Value).toArray) below meth c s.heap [] 0 0 (MQ below (vp_Si (fun v : Int32 => v = r)) ([.ref a_hist, .int p1] : List Value).toArray s 0 0 (fun _ => False)) (F0 m 24 ls [])) := by
    intro k
    induction k with
    | zero =>
      intro x2 x4 hf ls hl
      exact nomatch (show (none : Option (Int32)) = some r from hf)
    | succ k ih =>
      intro x2 x4 hf ls hl
      unfold fX2_badInLast_b24 at hf
      refine lv_iload hx hb dX2_badInLast_24 (lv_at hl 2 rfl) ?_
      refine lv_if_lt (tgt := 61) hx hb dX2_badInLast_26 (by decide) (fun c_1 => ?_) (fun c_1 => ?_)
      · rw [if_pos c_1] at hf
        refine lv_iload_n hx hb dX2_badInLast_61 rfl (lv_at hl 1 rfl) ?_
        obtain rfl := Option.some.inj hf
        exact W.iret hx hb hr (fun t ht hW => ⟨_, rfl, rfl, ht⟩) (fun _ h => by cases h) dX2_badInLast_62
      · rw [if_neg c_1] at hf
        refine lv_iload hx hb dX2_badInLast_29 (lv_at hl 2 rfl) ?_
        refine lv_aload_n hx hb dX2_badInLast_31 rfl (lv_at hl 0 rfl) ?_
        refine va_get (D := X.1) (ci := 1) (v := .int hist_length) (C := RX2) (T := TX2) (N := 3) hx hb hts iwX2_badInLast_X2 hown hK hP 0 rfl rfl 2 (by decide) (hts _ lkX2_badInLast_1) (fun _ h9 => h9) rfl dX2_badInLast_32 ?_
        refine lv_icmp_ge (tgt := 61) hx hb dX2_badInLast_35 (by decide) (fun c_2 => ?_) (fun c_2 => ?_)
        · rw [if_pos c_2] at hf
          refine lv_iload_n hx hb dX2_badInLast_61 rfl (lv_at hl 1 rfl) ?_
          obtain rfl := Option.some.inj hf
          exact W.iret hx hb hr (fun t ht hW => ⟨_, rfl, rfl, ht⟩) (fun _ h => by cases h) dX2_badInLast_62
        · rw [if_neg c_2] at hf
          refine lv_iload hx hb dX2_badInLast_38 (lv_at hl 2 rfl) ?_
          refine lv_bipush (v := 60) hx hb dX2_badInLast_40 (by decide) ?_
          refine lv_icmp_ge (tgt := 61) hx hb dX2_badInLast_42 (by decide) (fun c_3 => ?_) (fun c_3 => ?_)
          · rw [if_pos c_3] at hf
            refine lv_iload_n hx hb dX2_badInLast_61 rfl (lv_at hl 1 rfl) ?_
            obtain rfl := Option.some.inj hf
            exact W.iret hx hb hr (fun t ht hW => ⟨_, rfl, rfl, ht⟩) (fun _ h => by cases h) dX2_badInLast_62
          · rw [if_neg c_3] at hf
            refine lv_iload_n hx hb dX2_badInLast_45 rfl (lv_at hl 1 rfl) ?_
            refine lv_aload_n hx hb dX2_badInLast_46 rfl (lv_at hl 0 rfl) ?_
            refine va_get (D := X.1) (ci := 1) (v := .ref a_hb) (C := RX2) (T := TX2) (N := 3) hx hb hts iwX2_badInLast_X2 hown hK hP 0 rfl rfl 1 (by decide) (hts _ lkX2_badInLast_2) (fun _ h9 => h9) rfl dX2_badInLast_47 ?_
            refine lv_iload hx hb dX2_badInLast_50 (lv_at hl 2 rfl) ?_
            obtain ⟨g_4, hf⟩ := ite_some hf
            refine va_iald hx hb hK hP 2 0 rfl rfl (i := x4) g_4 dX2_badInLast_52 ?_
            refine lv_iadd hx hb dX2_badInLast_53 ?_
            obtain ⟨z_5, e_6, hf⟩ := bind_some hf
            refine lv_eqi (Option.some.inj e_6) ?_
            refine lv_istore_n (lv' := [(2, .int z_5), (0, .ref a_hist), (4, .int x4)]) hx hb dX2_badInLast_54 rfl hl (by decide) rfl (fun ls hl => ?_)
            refine lv_iinc (v := x4 + 1) (lv' := [(4, .int (x4 + 1)), (2, .int z_5), (0, .ref a_hist)]) hx hb dX2_badInLast_55 hl (k := 2) rfl rfl (by decide) rfl (fun ls hl => ?_)
            refine lv_goto (tgt := 24) hx hb dX2_badInLast_58 (by decide) ?_
            exact ih z_5 (x4 + 1) hf ls (lv_sub hl [2, 1, 0] rfl)
  have B20 : (∀ (x2 : Int32) (y0 : Int32), fX2_badInLast_b20 N hist_length hb_f x2 y0 = some r → ∀ ls : Array Slot, lv_has ls 5 [(0, .ref a_hist), (2, .int x2)] → W p l e (headSpec wsX2_badInLast rmX2_badInLast).room s m (([.ref a_hist, .int p1] : List Value).toArray) below meth c s.heap [] 0 0 (MQ below (vp_Si (fun v : Int32 => v = r)) ([.ref a_hist, .int p1] : List Value).toArray s 0 0 (fun _ => False)) (F0 m 20 ls [.int y0])) := by
    intro x2 y0 hf ls hl
    unfold fX2_badInLast_b20 at hf
    refine lv_istore_n (lv' := [(3, .int y0), (0, .ref a_hist), (2, .int x2)]) hx hb dX2_badInLast_20 rfl hl (by decide) rfl (fun ls hl => ?_)
    refine lv_iload_n hx hb dX2_badInLast_21 rfl (lv_at hl 0 rfl) ?_
    refine lv_istore (lv' := [(4, .int y0), (3, .int y0), (0, .ref a_hist), (2, .int x2)]) hx hb dX2_badInLast_22 hl (by decide) rfl (fun ls hl => ?_)
    exact B24 N x2 y0 hf ls (lv_sub hl [2, 3, 0] rfl)
  have hf := hf0
  unfold fX2_badInLast at hf
  refine lv_iconst (v := 0) hx hb dX2_badInLast_0 (by decide) ?_
  refine lv_istore_n (lv' := [(2, .int 0), (0, .ref a_hist), (1, .int p1)]) hx hb dX2_badInLast_1 rfl hl (by decide) rfl (fun ls hl => ?_)
  refine lv_aload_n hx hb dX2_badInLast_2 rfl (lv_at hl 1 rfl) ?_
  refine va_get (D := X.1) (ci := 1) (v := .int hist_length) (C := RX2) (T := TX2) (N := 3) hx hb hts iwX2_badInLast_X2 hown hK hP 0 rfl rfl 2 (by decide) (hts _ lkX2_badInLast_1) (fun _ h9 => h9) rfl dX2_badInLast_3 ?_
  refine lv_iload_n hx hb dX2_badInLast_6 rfl (lv_at hl 2 rfl) ?_
  refine lv_icmp_le (tgt := 19) hx hb dX2_badInLast_7 (by decide) (fun c_7 => ?_) (fun c_7 => ?_)
  · rw [if_pos c_7] at hf
    refine lv_iconst (v := 0) hx hb dX2_badInLast_19 (by decide) ?_
    exact B20 0 0 hf ls (lv_sub hl [1, 0] rfl)
  · rw [if_neg c_7] at hf
    refine lv_aload_n hx hb dX2_badInLast_10 rfl (lv_at hl 1 rfl) ?_
    refine va_get (D := X.1) (ci := 1) (v := .int hist_length) (C := RX2) (T := TX2) (N := 3) hx hb hts iwX2_badInLast_X2 hown hK hP 0 rfl rfl 2 (by decide) (hts _ lkX2_badInLast_1) (fun _ h9 => h9) rfl dX2_badInLast_11 ?_
    refine lv_iload_n hx hb dX2_badInLast_14 rfl (lv_at hl 2 rfl) ?_
    refine lv_isub hx hb dX2_badInLast_15 ?_
    refine lv_goto (tgt := 20) hx hb dX2_badInLast_16 (by decide) ?_
    exact B20 0 (hist_length - p1) hf ls (lv_sub hl [1, 0] rfl)
def rmX2_lastWereAccepted : Room := { frames := 1, cells := 0, slots := 0, locals := 24 }
theorem iwX2_lastWereAccepted_X2 : ∀ w ∈ wsX20, w ∈ wsX2_lastWereAccepted := fun w h => List.mem_cons_of_mem _ (List.mem_append_right _ (h))
theorem lkX2_lastWereAccepted_1 : Cond.fieldLink RX2 19 "InspectionOffice$History" "length" "I" ∈ wsX2_lastWereAccepted := List.mem_of_getElem? (i := 1) rfl
set_option maxHeartbeats 4000000 in
set_option maxRecDepth 100000 in
theorem mX2_lastWereAccepted (l : Launch) (X : cxT) (N : Nat) (a_hist a_hr a_hb : Nat) (hist_length : Int32) (hr_f : Nat → Int32) (hb_f : Nat → Int32) (p1 : Int32) (r : Int32) (hf0 : fX2_lastWereAccepted N p1 hist_length hr_f = some r) : Met l yX2_lastWereAccepted wsX2_lastWereAccepted rmX2_lastWereAccepted (rPre X [(a_hist, .inr (1, [.ref a_hr, .ref a_hb, .int hist_length])), (a_hr, .inl (X.2 2, 60, .inl hr_f)), (a_hb, .inl (X.2 0, 60, .inl hb_f))] [.ref a_hist, .int p1]) (vp_Si (fun v : Int32 => v = r)) 0 0 (fun _ => False) := by
  refine Met.ofW (cc := cX2_lastWereAccepted) (maxL := 2) (ret := (some .boolean)) (by decide) rfl ?_
  intro p e s m args below meth c s₁ B hml hv
  obtain ⟨rfl, hP, hK, hSt⟩ := hv
  have hx := B.exec
  have hb := B.bytes
  have hr := B.returns
  have hts := atoms_spec (ws := wsX2_lastWereAccepted) B.pre
  have hown : s.vm.findClass RX2 = some m.cls := findClass_of_methodNamed B.named
  have hlocks := B.notSynchronized
  have hS : va_S (fun _ => False) s.heap s.heap [] := va_S.rf
  have hl := lv_entry ([.ref a_hist, .int p1]) (n := 2) (Nat.le_of_ble_eq_true rfl)
  rw [lg_entry_eq]
  generalize (lg_sl ([.ref a_hist, .int p1]) ++ List.replicate (2 - (lg_sl ([.ref a_hist, .int p1])).length) Slot.unset).toArray = ls at hl ⊢
  have hl : lv_has ls 2 [(0, .ref a_hist), (1, .int p1)] := hl
  have hf := hf0
  unfold fX2_lastWereAccepted at hf
  refine lv_aload_n hx hb dX2_lastWereAccepted_0 rfl (lv_at hl 0 rfl) ?_
  refine va_get (D := X.1) (ci := 1) (v := .int hist_length) (C := RX2) (T := TX2) (N := 3) hx hb hts iwX2_lastWereAccepted_X2 hown hK hP 0 rfl rfl 2 (by decide) (hts _ lkX2_lastWereAccepted_1) (fun _ h9 => h9) rfl dX2_lastWereAccepted_1 ?_
  refine lv_iload_n hx hb dX2_lastWereAccepted_4 rfl (lv_at hl 1 rfl) ?_
  refine lv_icmp_lt (tgt := 20) hx hb dX2_lastWereAccepted_5 (by decide) (fun c_1 => ?_) (fun c_1 => ?_)
  · rw [if_pos c_1] at hf
    refine lv_iconst (v := 0) hx hb dX2_lastWereAccepted_20 (by decide) ?_
    obtain rfl := Option.some.inj hf
    exact W.zret hx hb hr rfl (fun t ht hW => ⟨_, rfl, rfl, ht⟩) (fun _ h => by cases h) dX2_lastWereAccepted_21
  · rw [if_neg c_1] at hf
    refine lv_aload_n hx hb dX2_lastWereAccepted_8 rfl (lv_at hl 0 rfl) ?_
    refine lv_iload_n hx hb dX2_lastWereAccepted_9 rfl (lv_at hl 1 rfl) ?_
    obtain ⟨r_2, e_3, hf⟩ := bind_some hf
    refine vp_callSi (W.runV (As := [.int p1]) (rest := []) ⟨hx, hb, hml, hown, hts⟩ (mX2_refusedInLast l X N a_hist a_hr a_hb hist_length hr_f hb_f p1 r_2 e_3) (cwV 1 hts gX2_lastWereAccepted_X2_refusedInLast rfl rfl rfl (by decide +kernel) ⟨Nat.le_of_ble_eq_true rfl, Nat.le_of_ble_eq_true rfl⟩) (rPreV hK hP hSt hS [0, 1, 2] rfl 0 rfl rfl) rfl rfl hl.1 rfl (lv_room (Nat.le_of_ble_eq_true rfl)) dX2_lastWereAccepted_10 ⟨Nat.zero_le _, Nat.zero_le _⟩) (fun v9 e9 => ?_)
    rw [e9]
    refine lv_if_ne (tgt := 20) hx hb dX2_lastWereAccepted_13 (by decide) (fun c_4 => ?_) (fun c_4 => ?_)
    · rw [if_neg c_4] at hf
      refine lv_iconst (v := 0) hx hb dX2_lastWereAccepted_20 (by decide) ?_
      obtain rfl := Option.some.inj hf
      exact W.zret hx hb hr rfl (fun t ht hW => ⟨_, rfl, rfl, ht⟩) (fun _ h => by cases h) dX2_lastWereAccepted_21
    · rw [if_pos c_4] at hf
      refine lv_iconst (v := 1) hx hb dX2_lastWereAccepted_16 (by decide) ?_
      refine lv_goto (tgt := 21) hx hb dX2_lastWereAccepted_17 (by decide) ?_
      obtain rfl := Option.some.inj hf
      exact W.zret hx hb hr rfl (fun t ht hW => ⟨_, rfl, rfl, ht⟩) (fun _ h => by cases h) dX2_lastWereAccepted_21
def rmX0_behindNormal : Room := { frames := 2, cells := 0, slots := 0, locals := 45 }
theorem iwX0_behindNormal_X0 : ∀ w ∈ wsX00, w ∈ wsX0_behindNormal := fun w h => List.mem_cons_of_mem _ (List.mem_append_left _ (List.mem_append_right _ (h)))
theorem lkX0_behindNormal_1 : Cond.fieldLink RX0 12 "InspectionOffice$Course" "history" "LInspectionOffice$History;" ∈ wsX0_behindNormal := List.mem_of_getElem? (i := 1) rfl
theorem lkX0_behindNormal_2 : Cond.fieldLink RX0 97 "InspectionOffice$Course" "steady" "Z" ∈ wsX0_behindNormal := List.mem_of_getElem? (i := 2) rfl
set_option maxHeartbeats 4000000 in
set_option maxRecDepth 100000 in
theorem mX0_behindNormal (l : Launch) (X : cxT) (N : Nat) (a_course a_hist a_hr a_hb : Nat) (course_steady : Int32) (course_rate : Int32) (course_state : Int32) (course_skipping : Int32) (course_changedAt : Int32) (course_acceptedInRow : Int32) (course_passedInGroup : Int32) (hist_length : Int32) (hr_f : Nat → Int32) (hb_f : Nat → Int32) (r : Int32) (hf0 : fX0_behindNormal N course_steady hist_length hr_f hb_f = some r) : Met l yX0_behindNormal wsX0_behindNormal rmX0_behindNormal (rPre X [(a_course, .inr (0, [.int course_steady, .int course_rate, .int course_state, .int course_skipping, .ref a_hist, .int course_changedAt, .int course_acceptedInRow, .int course_passedInGroup])), (a_hist, .inr (1, [.ref a_hr, .ref a_hb, .int hist_length])), (a_hr, .inl (X.2 2, 60, .inl hr_f)), (a_hb, .inl (X.2 0, 60, .inl hb_f))] [.ref a_course]) (vp_Si (fun v : Int32 => v = r)) 0 0 (fun _ => False) := by
  refine Met.ofW (cc := cX0_behindNormal) (maxL := 2) (ret := (some .int)) (by decide) rfl ?_
  intro p e s m args below meth c s₁ B hml hv
  obtain ⟨rfl, hP, hK, hSt⟩ := hv
  have hx := B.exec
  have hb := B.bytes
  have hr := B.returns
  have hts := atoms_spec (ws := wsX0_behindNormal) B.pre
  have hown : s.vm.findClass RX0 = some m.cls := findClass_of_methodNamed B.named
  have hlocks := B.notSynchronized
  have hS : va_S (fun _ => False) s.heap s.heap [] := va_S.rf
  have hl := lv_entry ([.ref a_course]) (n := 2) (Nat.le_of_ble_eq_true rfl)
  rw [lg_entry_eq]
  generalize (lg_sl ([.ref a_course]) ++ List.replicate (2 - (lg_sl ([.ref a_course])).length) Slot.unset).toArray = ls at hl ⊢
  have hl : lv_has ls 2 [(0, .ref a_course)] := hl
  have B44 : (∀ (y0 : Int32), fX0_behindNormal_b44 N course_steady hist_length hr_f hb_f y0 = some r → ∀ ls : Array Slot, lv_has ls 2 [(0, .ref a_course)] → W p l e (headSpec wsX0_behindNormal rmX0_behindNormal).room s m (([.ref a_course] : List Value).toArray) below meth c s.heap [] 0 0 (MQ below (vp_Si (fun v : Int32 => v = r)) ([.ref a_course] : List Value).toArray s 0 0 (fun _ => False)) (F0 m 44 ls [.int y0])) := by
    intro y0 hf ls hl
    unfold fX0_behindNormal_b44 at hf
    refine lv_istore_n (lv' := [(1, .int y0), (0, .ref a_course)]) hx hb dX0_behindNormal_44 rfl hl (by decide) rfl (fun ls hl => ?_)
    refine lv_iload_n hx hb dX0_behindNormal_45 rfl (lv_at hl 0 rfl) ?_
    refine lv_if_eq (tgt := 60) hx hb dX0_behindNormal_46 (by decide) (fun c_1 => ?_) (fun c_1 => ?_)
    · rw [if_pos c_1] at hf
      refine lv_iconst (v := 0) hx hb dX0_behindNormal_60 (by decide) ?_
      obtain rfl := Option.some.inj hf
      exact W.iret hx hb hr (fun t ht hW => ⟨_, rfl, rfl, ht⟩) (fun _ h => by cases h) dX0_behindNormal_61
    · rw [if_neg c_1] at hf
      refine lv_aload_n hx hb dX0_behindNormal_49 rfl (lv_at hl 1 rfl) ?_
      refine va_get (D := X.1) (ci := 0) (v := .int course_steady) (C := RX0) (T := TX0) (N := 8) hx hb hts iwX0_behindNormal_X0 hown hK hP 0 rfl rfl 0 (by decide) (hts _ lkX0_behindNormal_2) (fun _ h9 => h9) rfl dX0_behindNormal_50 ?_
      refine lv_if_eq (tgt := 60) hx hb dX0_behindNormal_53 (by decide) (fun c_2 => ?_) (fun c_2 => ?_)
      · rw [if_pos c_2] at hf
        refine lv_iconst (v := 0) hx hb dX0_behindNormal_60 (by decide) ?_
        obtain rfl := Option.some.inj hf
        exact W.iret hx hb hr (fun t ht hW => ⟨_, rfl, rfl, ht⟩) (fun _ h => by cases h) dX0_behindNormal_61
      · rw [if_neg c_2] at hf
        refine lv_iconst (v := 2) hx hb dX0_behindNormal_56 (by decide) ?_
        refine lv_goto (tgt := 61) hx hb dX0_behindNormal_57 (by decide) ?_
        obtain rfl := Option.some.inj hf
        exact W.iret hx hb hr (fun t ht hW => ⟨_, rfl, rfl, ht⟩) (fun _ h => by cases h) dX0_behindNormal_61
  have B43 : (fX0_behindNormal_b43 N course_steady hist_length hr_f hb_f  = some r → ∀ ls : Array Slot, lv_has ls 2 [(0, .ref a_course)] → W p l e (headSpec wsX0_behindNormal rmX0_behindNormal).room s m (([.ref a_course] : List Value).toArray) below meth c s.heap [] 0 0 (MQ below (vp_Si (fun v : Int32 => v = r)) ([.ref a_course] : List Value).toArray s 0 0 (fun _ => False)) (F0 m 43 ls [])) := by
    intro hf ls hl
    unfold fX0_behindNormal_b43 at hf
    refine lv_iconst (v := 0) hx hb dX0_behindNormal_43 (by decide) ?_
    exact B44 0 hf ls (lv_sub hl [0] rfl)
  have hf := hf0
  unfold fX0_behindNormal at hf
  refine lv_aload_n hx hb dX0_behindNormal_0 rfl (lv_at hl 0 rfl) ?_
  refine va_get (D := X.1) (ci := 0) (v := .ref a_hist) (C := RX0) (T := TX0) (N := 8) hx hb hts iwX0_behindNormal_X0 hown hK hP 0 rfl rfl 4 (by decide) (hts _ lkX0_behindNormal_1) (fun _ h9 => h9) rfl dX0_behindNormal_1 ?_
  refine lv_iconst (v := 5) hx hb dX0_behindNormal_4 (by decide) ?_
  obtain ⟨r_3, e_4, hf⟩ := bind_some hf
  refine vp_callSi (W.runV (As := [.int 5]) (rest := []) ⟨hx, hb, hml, hown, hts⟩ (mX2_refusedInLast l X N a_hist a_hr a_hb hist_length hr_f hb_f 5 r_3 e_4) (cwV 1 hts gX0_behindNormal_X2_refusedInLast rfl rfl rfl (by decide +kernel) ⟨Nat.le_of_ble_eq_true rfl, Nat.le_of_ble_eq_true rfl⟩) (rPreV hK hP hSt hS [1, 2, 3] rfl 1 rfl rfl) rfl rfl hl.1 rfl (lv_room (Nat.le_of_ble_eq_true rfl)) dX0_behindNormal_5 ⟨Nat.zero_le _, Nat.zero_le _⟩) (fun v9 e9 => ?_)
  rw [e9]
  refine lv_iconst (v := 2) hx hb dX0_behindNormal_8 (by decide) ?_
  refine lv_icmp_lt (tgt := 14) hx hb dX0_behindNormal_9 (by decide) (fun c_5 => ?_) (fun c_5 => ?_)
  · rw [if_pos c_5] at hf
    refine lv_aload_n hx hb dX0_behindNormal_14 rfl (lv_at hl 0 rfl) ?_
    refine va_get (D := X.1) (ci := 0) (v := .ref a_hist) (C := RX0) (T := TX0) (N := 8) hx hb hts iwX0_behindNormal_X0 hown hK hP 0 rfl rfl 4 (by decide) (hts _ lkX0_behindNormal_1) (fun _ h9 => h9) rfl dX0_behindNormal_15 ?_
    refine lv_bipush (v := 10) hx hb dX0_behindNormal_18 (by decide) ?_
    obtain ⟨r_6, e_7, hf⟩ := bind_some hf
    refine vp_callSi (W.runV (As := [.int 10]) (rest := []) ⟨hx, hb, hml, hown, hts⟩ (mX2_lastWereAccepted l X N a_hist a_hr a_hb hist_length hr_f hb_f 10 r_6 e_7) (cwV 1 hts gX0_behindNormal_X2_lastWereAccepted rfl rfl rfl (by decide +kernel) ⟨Nat.le_of_ble_eq_true rfl, Nat.le_of_ble_eq_true rfl⟩) (rPreV hK hP hSt hS [1, 2, 3] rfl 1 rfl rfl) rfl rfl hl.1 rfl (lv_room (Nat.le_of_ble_eq_true rfl)) dX0_behindNormal_20 ⟨Nat.zero_le _, Nat.zero_le _⟩) (fun v9 e9 => ?_)
    rw [e9]
    refine lv_if_eq (tgt := 43) hx hb dX0_behindNormal_23 (by decide) (fun c_8 => ?_) (fun c_8 => ?_)
    · rw [if_pos c_8] at hf
      exact B43  hf ls (lv_sub hl [0] rfl)
    · rw [if_neg c_8] at hf
      refine lv_aload_n hx hb dX0_behindNormal_26 rfl (lv_at hl 0 rfl) ?_
      refine va_get (D := X.1) (ci := 0) (v := .ref a_hist) (C := RX0) (T := TX0) (N := 8) hx hb hts iwX0_behindNormal_X0 hown hK hP 0 rfl rfl 4 (by decide) (hts _ lkX0_behindNormal_1) (fun _ h9 => h9) rfl dX0_behindNormal_27 ?_
      refine lv_bipush (v := 10) hx hb dX0_behindNormal_30 (by decide) ?_
      obtain ⟨r_9, e_10, hf⟩ := bind_some hf
      refine vp_callSi (W.runV (As := [.int 10]) (rest := []) ⟨hx, hb, hml, hown, hts⟩ (mX2_badInLast l X N a_hist a_hr a_hb hist_length hr_f hb_f 10 r_9 e_10) (cwV 1 hts gX0_behindNormal_X2_badInLast rfl rfl rfl (by decide +kernel) ⟨Nat.le_of_ble_eq_true rfl, Nat.le_of_ble_eq_true rfl⟩) (rPreV hK hP hSt hS [1, 2, 3] rfl 1 rfl rfl) rfl rfl hl.1 rfl (lv_room (Nat.le_of_ble_eq_true rfl)) dX0_behindNormal_32 ⟨Nat.zero_le _, Nat.zero_le _⟩) (fun v9 e9 => ?_)
      rw [e9]
      refine lv_iconst (v := 4) hx hb dX0_behindNormal_35 (by decide) ?_
      refine lv_icmp_gt (tgt := 43) hx hb dX0_behindNormal_36 (by decide) (fun c_11 => ?_) (fun c_11 => ?_)
      · rw [if_pos c_11] at hf
        exact B43  hf ls (lv_sub hl [0] rfl)
      · rw [if_neg c_11] at hf
        refine lv_iconst (v := 1) hx hb dX0_behindNormal_39 (by decide) ?_
        refine lv_goto (tgt := 44) hx hb dX0_behindNormal_40 (by decide) ?_
        exact B44 1 hf ls (lv_sub hl [0] rfl)
  · rw [if_neg c_5] at hf
    refine lv_iconst (v := 1) hx hb dX0_behindNormal_12 (by decide) ?_
    obtain rfl := Option.some.inj hf
    exact W.iret hx hb hr (fun t ht hW => ⟨_, rfl, rfl, ht⟩) (fun _ h => by cases h) dX0_behindNormal_13
def rmX0_behindTightened : Room := { frames := 2, cells := 0, slots := 0, locals := 45 }
theorem iwX0_behindTightened_X0 : ∀ w ∈ wsX00, w ∈ wsX0_behindTightened := fun w h => List.mem_cons_of_mem _ (List.mem_append_left _ (List.mem_append_right _ (h)))
theorem lkX0_behindTightened_1 : Cond.fieldLink RX0 12 "InspectionOffice$Course" "history" "LInspectionOffice$History;" ∈ wsX0_behindTightened := List.mem_of_getElem? (i := 1) rfl
set_option maxHeartbeats 4000000 in
set_option maxRecDepth 100000 in
theorem mX0_behindTightened (l : Launch) (X : cxT) (N : Nat) (a_course a_hist a_hr a_hb : Nat) (course_steady : Int32) (course_rate : Int32) (course_state : Int32) (course_skipping : Int32) (course_changedAt : Int32) (course_acceptedInRow : Int32) (course_passedInGroup : Int32) (hist_length : Int32) (hr_f : Nat → Int32) (hb_f : Nat → Int32) (r : Int32) (hf0 : fX0_behindTightened N hist_length hr_f = some r) : Met l yX0_behindTightened wsX0_behindTightened rmX0_behindTightened (rPre X [(a_course, .inr (0, [.int course_steady, .int course_rate, .int course_state, .int course_skipping, .ref a_hist, .int course_changedAt, .int course_acceptedInRow, .int course_passedInGroup])), (a_hist, .inr (1, [.ref a_hr, .ref a_hb, .int hist_length])), (a_hr, .inl (X.2 2, 60, .inl hr_f)), (a_hb, .inl (X.2 0, 60, .inl hb_f))] [.ref a_course]) (vp_Si (fun v : Int32 => v = r)) 0 0 (fun _ => False) := by
  refine Met.ofW (cc := cX0_behindTightened) (maxL := 1) (ret := (some .int)) (by decide) rfl ?_
  intro p e s m args below meth c s₁ B hml hv
  obtain ⟨rfl, hP, hK, hSt⟩ := hv
  have hx := B.exec
  have hb := B.bytes
  have hr := B.returns
  have hts := atoms_spec (ws := wsX0_behindTightened) B.pre
  have hown : s.vm.findClass RX0 = some m.cls := findClass_of_methodNamed B.named
  have hlocks := B.notSynchronized
  have hS : va_S (fun _ => False) s.heap s.heap [] := va_S.rf
  have hl := lv_entry ([.ref a_course]) (n := 1) (Nat.le_of_ble_eq_true rfl)
  rw [lg_entry_eq]
  generalize (lg_sl ([.ref a_course]) ++ List.replicate (1 - (lg_sl ([.ref a_course])).length) Slot.unset).toArray = ls at hl ⊢
  have hl : lv_has ls 1 [(0, .ref a_course)] := hl
  have hf := hf0
  unfold fX0_behindTightened at hf
  refine lv_aload_n hx hb dX0_behindTightened_0 rfl (lv_at hl 0 rfl) ?_
  refine va_get (D := X.1) (ci := 0) (v := .ref a_hist) (C := RX0) (T := TX0) (N := 8) hx hb hts iwX0_behindTightened_X0 hown hK hP 0 rfl rfl 4 (by decide) (hts _ lkX0_behindTightened_1) (fun _ h9 => h9) rfl dX0_behindTightened_1 ?_
  refine lv_iconst (v := 5) hx hb dX0_behindTightened_4 (by decide) ?_
  obtain ⟨r_1, e_2, hf⟩ := bind_some hf
  refine vp_callSi (W.runV (As := [.int 5]) (rest := []) ⟨hx, hb, hml, hown, hts⟩ (mX2_lastWereAccepted l X N a_hist a_hr a_hb hist_length hr_f hb_f 5 r_1 e_2) (cwV 1 hts gX0_behindTightened_X2_lastWereAccepted rfl rfl rfl (by decide +kernel) ⟨Nat.le_of_ble_eq_true rfl, Nat.le_of_ble_eq_true rfl⟩) (rPreV hK hP hSt hS [1, 2, 3] rfl 1 rfl rfl) rfl rfl hl.1 rfl (lv_room (Nat.le_of_ble_eq_true rfl)) dX0_behindTightened_5 ⟨Nat.zero_le _, Nat.zero_le _⟩) (fun v9 e9 => ?_)
  rw [e9]
  refine lv_if_eq (tgt := 13) hx hb dX0_behindTightened_8 (by decide) (fun c_3 => ?_) (fun c_3 => ?_)
  · rw [if_pos c_3] at hf
    refine lv_aload_n hx hb dX0_behindTightened_13 rfl (lv_at hl 0 rfl) ?_
    refine va_get (D := X.1) (ci := 0) (v := .ref a_hist) (C := RX0) (T := TX0) (N := 8) hx hb hts iwX0_behindTightened_X0 hown hK hP 0 rfl rfl 4 (by decide) (hts _ lkX0_behindTightened_1) (fun _ h9 => h9) rfl dX0_behindTightened_14 ?_
    refine lv_bipush (v := 60) hx hb dX0_behindTightened_17 (by decide) ?_
    obtain ⟨r_4, e_5, hf⟩ := bind_some hf
    refine vp_callSi (W.runV (As := [.int 60]) (rest := []) ⟨hx, hb, hml, hown, hts⟩ (mX2_refusedInLast l X N a_hist a_hr a_hb hist_length hr_f hb_f 60 r_4 e_5) (cwV 1 hts gX0_behindTightened_X2_refusedInLast rfl rfl rfl (by decide +kernel) ⟨Nat.le_of_ble_eq_true rfl, Nat.le_of_ble_eq_true rfl⟩) (rPreV hK hP hSt hS [1, 2, 3] rfl 1 rfl rfl) rfl rfl hl.1 rfl (lv_room (Nat.le_of_ble_eq_true rfl)) dX0_behindTightened_19 ⟨Nat.zero_le _, Nat.zero_le _⟩) (fun v9 e9 => ?_)
    rw [e9]
    refine lv_iconst (v := 5) hx hb dX0_behindTightened_22 (by decide) ?_
    refine lv_icmp_lt (tgt := 30) hx hb dX0_behindTightened_23 (by decide) (fun c_6 => ?_) (fun c_6 => ?_)
    · rw [if_pos c_6] at hf
      refine lv_iconst (v := 1) hx hb dX0_behindTightened_30 (by decide) ?_
      obtain rfl := Option.some.inj hf
      exact W.iret hx hb hr (fun t ht hW => ⟨_, rfl, rfl, ht⟩) (fun _ h => by cases h) dX0_behindTightened_31
    · rw [if_neg c_6] at hf
      refine lv_iconst (v := 3) hx hb dX0_behindTightened_26 (by decide) ?_
      refine lv_goto (tgt := 31) hx hb dX0_behindTightened_27 (by decide) ?_
      obtain rfl := Option.some.inj hf
      exact W.iret hx hb hr (fun t ht hW => ⟨_, rfl, rfl, ht⟩) (fun _ h => by cases h) dX0_behindTightened_31
  · rw [if_neg c_3] at hf
    refine lv_iconst (v := 0) hx hb dX0_behindTightened_11 (by decide) ?_
    obtain rfl := Option.some.inj hf
    exact W.iret hx hb hr (fun t ht hW => ⟨_, rfl, rfl, ht⟩) (fun _ h => by cases h) dX0_behindTightened_12
def rmX0_nextBehind : Room := { frames := 3, cells := 0, slots := 0, locals := 70 }
theorem iwX0_nextBehind_X0 : ∀ w ∈ wsX00, w ∈ wsX0_nextBehind := fun w h => List.mem_cons_of_mem _ (List.mem_append_left _ (List.mem_append_left _ (List.mem_append_left _ (List.mem_append_right _ (h)))))
theorem iwX0_nextBehind_X3 : ∀ w ∈ wsX30, w ∈ wsX0_nextBehind := fun w h => List.mem_cons_of_mem _ (List.mem_append_left _ (List.mem_append_left _ (List.mem_append_right _ (h))))
theorem lkX0_nextBehind_1 : Cond.fieldLink RX0 30 "InspectionOffice$Course" "state" "I" ∈ wsX0_nextBehind := List.mem_of_getElem? (i := 1) rfl
theorem lkX0_nextBehind_2 : Cond.fieldLink RX0 76 "InspectionOffice$Lot" "bad" "I" ∈ wsX0_nextBehind := List.mem_of_getElem? (i := 2) rfl
theorem lkX0_nextBehind_3 : Cond.fieldLink RX0 79 "InspectionOffice$Lot" "size" "I" ∈ wsX0_nextBehind := List.mem_of_getElem? (i := 3) rfl
set_option maxHeartbeats 4000000 in
set_option maxRecDepth 100000 in
theorem mX0_nextBehind (l : Launch) (X : cxT) (N : Nat) (a_course a_hist a_hr a_hb a_plans a_lot : Nat) (course_steady : Int32) (course_rate : Int32) (course_state : Int32) (course_skipping : Int32) (course_changedAt : Int32) (course_acceptedInRow : Int32) (course_passedInGroup : Int32) (hist_length : Int32) (hr_f : Nat → Int32) (hb_f : Nat → Int32) (plans_level : Int32) (plans_quality : Int32) (plans_twice : Int32) (lot_order : Int32) (lot_size : Int32) (lot_findings : Int64) (lot_verdict : Int32) (lot_state : Int32) (lot_inspected : Int32) (lot_bad : Int32) (r : Int32) (hf0 : fX0_nextBehind N course_steady course_state hist_length hr_f hb_f plans_level plans_quality lot_size lot_bad = some r) : Met l yX0_nextBehind wsX0_nextBehind rmX0_nextBehind (rPre X [(a_course, .inr (0, [.int course_steady, .int course_rate, .int course_state, .int course_skipping, .ref a_hist, .int course_changedAt, .int course_acceptedInRow, .int course_passedInGroup])), (a_hist, .inr (1, [.ref a_hr, .ref a_hb, .int hist_length])), (a_hr, .inl (X.2 2, 60, .inl hr_f)), (a_hb, .inl (X.2 0, 60, .inl hb_f)), (a_plans, .inr (3, [.int plans_level, .int plans_quality, .int plans_twice])), (a_lot, .inr (2, [.int lot_order, .int lot_size, .long lot_findings, .int lot_verdict, .int lot_state, .int lot_inspected, .int lot_bad]))] [.ref a_course, .ref a_lot, .ref a_plans]) (vp_Si (fun v : Int32 => v = r)) 0 0 (fun _ => False) := by
  refine Met.ofW (cc := cX0_nextBehind) (maxL := 4) (ret := (some .int)) (by decide) rfl ?_
  intro p e s m args below meth c s₁ B hml hv
  obtain ⟨rfl, hP, hK, hSt⟩ := hv
  have hx := B.exec
  have hb := B.bytes
  have hr := B.returns
  have hts := atoms_spec (ws := wsX0_nextBehind) B.pre
  have hown : s.vm.findClass RX0 = some m.cls := findClass_of_methodNamed B.named
  have hlocks := B.notSynchronized
  have hS : va_S (fun _ => False) s.heap s.heap [] := va_S.rf
  have hl := lv_entry ([.ref a_course, .ref a_lot, .ref a_plans]) (n := 4) (Nat.le_of_ble_eq_true rfl)
  rw [lg_entry_eq]
  generalize (lg_sl ([.ref a_course, .ref a_lot, .ref a_plans]) ++ List.replicate (4 - (lg_sl ([.ref a_course, .ref a_lot, .ref a_plans])).length) Slot.unset).toArray = ls at hl ⊢
  have hl : lv_has ls 4 [(0, .ref a_course), (1, .ref a_lot), (2, .ref a_plans)] := hl
  have B46 : (∀ (y0 : Int32), fX0_nextBehind_b46 N course_steady course_state hist_length hr_f hb_f plans_level plans_quality lot_size lot_bad y0 = some r → ∀ ls : Array Slot, lv_has ls 4 [] → W p l e (headSpec wsX0_nextBehind rmX0_nextBehind).room s m (([.ref a_course, .ref a_lot, .ref a_plans] : List Value).toArray) below meth c s.heap [] 0 0 (MQ below (vp_Si (fun v : Int32 => v = r)) ([.ref a_course, .ref a_lot, .ref a_plans] : List Value).toArray s 0 0 (fun _ => False)) (F0 m 46 ls [.int y0])) := by
    intro y0 hf ls hl
    unfold fX0_nextBehind_b46 at hf
    refine lv_istore_n (lv' := [(3, .int y0)]) hx hb dX0_nextBehind_46 rfl hl (by decide) rfl (fun ls hl => ?_)
    refine lv_iload_n hx hb dX0_nextBehind_47 rfl (lv_at hl 0 rfl) ?_
    refine lv_if_eq (tgt := 55) hx hb dX0_nextBehind_48 (by decide) (fun c_1 => ?_) (fun c_1 => ?_)
    · rw [if_pos c_1] at hf
      refine lv_iconst (v := 2) hx hb dX0_nextBehind_55 (by decide) ?_
      obtain rfl := Option.some.inj hf
      exact W.iret hx hb hr (fun t ht hW => ⟨_, rfl, rfl, ht⟩) (fun _ h => by cases h) dX0_nextBehind_56
    · rw [if_neg c_1] at hf
      refine lv_iconst (v := 0) hx hb dX0_nextBehind_51 (by decide) ?_
      refine lv_goto (tgt := 56) hx hb dX0_nextBehind_52 (by decide) ?_
      obtain rfl := Option.some.inj hf
      exact W.iret hx hb hr (fun t ht hW => ⟨_, rfl, rfl, ht⟩) (fun _ h => by cases h) dX0_nextBehind_56
  have hf := hf0
  unfold fX0_nextBehind at hf
  refine lv_aload_n hx hb dX0_nextBehind_0 rfl (lv_at hl 0 rfl) ?_
  refine va_get (D := X.1) (ci := 0) (v := .int course_state) (C := RX0) (T := TX0) (N := 8) hx hb hts iwX0_nextBehind_X0 hown hK hP 0 rfl rfl 2 (by decide) (hts _ lkX0_nextBehind_1) (fun _ h9 => h9) rfl dX0_nextBehind_1 ?_
  refine lv_if_ne (tgt := 12) hx hb dX0_nextBehind_4 (by decide) (fun c_2 => ?_) (fun c_2 => ?_)
  · rw [if_neg c_2] at hf
    refine lv_aload_n hx hb dX0_nextBehind_12 rfl (lv_at hl 0 rfl) ?_
    refine va_get (D := X.1) (ci := 0) (v := .int course_state) (C := RX0) (T := TX0) (N := 8) hx hb hts iwX0_nextBehind_X0 hown hK hP 0 rfl rfl 2 (by decide) (hts _ lkX0_nextBehind_1) (fun _ h9 => h9) rfl dX0_nextBehind_13 ?_
    refine lv_iconst (v := 1) hx hb dX0_nextBehind_16 (by decide) ?_
    refine lv_icmp_ne (tgt := 25) hx hb dX0_nextBehind_17 (by decide) (fun c_3 => ?_) (fun c_3 => ?_)
    · rw [if_neg c_3] at hf
      refine lv_aload_n hx hb dX0_nextBehind_25 rfl (lv_at hl 1 rfl) ?_
      refine va_get (D := X.1) (ci := 2) (v := .int lot_bad) (C := RX3) (T := TX3) (N := 7) hx hb hts iwX0_nextBehind_X3 hown hK hP 5 rfl rfl 6 (by decide) (hts _ lkX0_nextBehind_2) (fun _ h9 => h9) rfl dX0_nextBehind_26 ?_
      refine lv_aload_n hx hb dX0_nextBehind_29 rfl (lv_at hl 2 rfl) ?_
      refine lv_aload_n hx hb dX0_nextBehind_30 rfl (lv_at hl 1 rfl) ?_
      refine va_get (D := X.1) (ci := 2) (v := .int lot_size) (C := RX3) (T := TX3) (N := 7) hx hb hts iwX0_nextBehind_X3 hown hK hP 5 rfl rfl 1 (by decide) (hts _ lkX0_nextBehind_3) (fun _ h9 => h9) rfl dX0_nextBehind_31 ?_
      refine lv_iconst (v := 2) hx hb dX0_nextBehind_34 (by decide) ?_
      obtain ⟨r_4, e_5, hf⟩ := bind_some hf
      refine vp_callSi (W.runV (As := [.int lot_size, .int 2]) (rest := [.int lot_bad]) ⟨hx, hb, hml, hown, hts⟩ (mX4_acceptingUnder l X N a_plans plans_level plans_quality plans_twice lot_size 2 r_4 e_5) (cwV 2 hts gX0_nextBehind_X4_acceptingUnder rfl rfl rfl (by decide +kernel) ⟨Nat.le_of_ble_eq_true rfl, Nat.le_of_ble_eq_true rfl⟩) (rPreV hK hP hSt hS [4] rfl 4 rfl rfl) rfl rfl hl.1 rfl (lv_room (Nat.le_of_ble_eq_true rfl)) dX0_nextBehind_35 ⟨Nat.zero_le _, Nat.zero_le _⟩) (fun v9 e9 => ?_)
      rw [e9]
      refine lv_icmp_le (tgt := 45) hx hb dX0_nextBehind_38 (by decide) (fun c_6 => ?_) (fun c_6 => ?_)
      · rw [if_pos c_6] at hf
        refine lv_iconst (v := 0) hx hb dX0_nextBehind_45 (by decide) ?_
        exact B46 0 hf ls (lv_sub hl [] rfl)
      · rw [if_neg c_6] at hf
        refine lv_iconst (v := 1) hx hb dX0_nextBehind_41 (by decide) ?_
        refine lv_goto (tgt := 46) hx hb dX0_nextBehind_42 (by decide) ?_
        exact B46 1 hf ls (lv_sub hl [] rfl)
    · rw [if_pos c_3] at hf
      refine lv_aload_n hx hb dX0_nextBehind_20 rfl (lv_at hl 0 rfl) ?_
      obtain ⟨r_7, e_8, hf⟩ := bind_some hf
      refine vp_callSi (W.runV (As := []) (rest := []) ⟨hx, hb, hml, hown, hts⟩ (mX0_behindTightened l X N a_course a_hist a_hr a_hb course_steady course_rate course_state course_skipping course_changedAt course_acceptedInRow course_passedInGroup hist_length hr_f hb_f r_7 e_8) (cwV 0 hts gX0_nextBehind_X0_behindTightened rfl rfl rfl (by decide +kernel) ⟨Nat.le_of_ble_eq_true rfl, Nat.le_of_ble_eq_true rfl⟩) (rPreV hK hP hSt hS [0, 1, 2, 3] rfl 0 rfl rfl) rfl rfl hl.1 rfl (lv_room (Nat.le_of_ble_eq_true rfl)) dX0_nextBehind_21 ⟨Nat.zero_le _, Nat.zero_le _⟩) (fun v9 e9 => ?_)
      rw [e9]
      obtain rfl := Option.some.inj hf
      exact W.iret hx hb hr (fun t ht hW => ⟨_, rfl, rfl, ht⟩) (fun _ h => by cases h) dX0_nextBehind_24
  · rw [if_pos c_2] at hf
    refine lv_aload_n hx hb dX0_nextBehind_7 rfl (lv_at hl 0 rfl) ?_
    obtain ⟨r_9, e_10, hf⟩ := bind_some hf
    refine vp_callSi (W.runV (As := []) (rest := []) ⟨hx, hb, hml, hown, hts⟩ (mX0_behindNormal l X N a_course a_hist a_hr a_hb course_steady course_rate course_state course_skipping course_changedAt course_acceptedInRow course_passedInGroup hist_length hr_f hb_f r_9 e_10) (cwV 0 hts gX0_nextBehind_X0_behindNormal rfl rfl rfl (by decide +kernel) ⟨Nat.le_of_ble_eq_true rfl, Nat.le_of_ble_eq_true rfl⟩) (rPreV hK hP hSt hS [0, 1, 2, 3] rfl 0 rfl rfl) rfl rfl hl.1 rfl (lv_room (Nat.le_of_ble_eq_true rfl)) dX0_nextBehind_8 ⟨Nat.zero_le _, Nat.zero_le _⟩) (fun v9 e9 => ?_)
    rw [e9]
    obtain rfl := Option.some.inj hf
    exact W.iret hx hb hr (fun t ht hW => ⟨_, rfl, rfl, ht⟩) (fun _ h => by cases h) dX0_nextBehind_11
