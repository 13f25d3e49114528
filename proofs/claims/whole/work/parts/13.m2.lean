def rmX4_sampleOf : Room := { frames := 0, cells := 0, slots := 0, locals := 0 }
theorem lkX4_sampleOf_1 : Cond.fieldLink RX4 29 "InspectionOffice$Plans" "SAMPLE_OF_LETTER" "[I" ∈ wsX4_sampleOf := List.mem_of_getElem? (i := 1) rfl
set_option maxHeartbeats 4000000 in
set_option maxRecDepth 100000 in
theorem mX4_sampleOf (l : Launch) (X : cxT) (N : Nat) (p0 : Int32) (r : Int32) (hf0 : fX4_sampleOf N p0 = some r) : Met l yX4_sampleOf wsX4_sampleOf rmX4_sampleOf (rPre X [] [.int p0]) (vp_Si (fun v : Int32 => v = r)) 0 0 (fun _ => False) := by
  refine Met.ofW (cc := cX4_sampleOf) (maxL := 2) (ret := (some .int)) (by decide) rfl ?_
  intro p e s m args below meth c s₁ B hml hv
  obtain ⟨rfl, hP, hK, hSt⟩ := hv
  have hx := B.exec
  have hb := B.bytes
  have hr := B.returns
  have hts := atoms_spec (ws := wsX4_sampleOf) B.pre
  have hown : s.vm.findClass RX4 = some m.cls := findClass_of_methodNamed B.named
  have hlocks := B.notSynchronized
  have hS : va_S (fun _ => False) s.heap s.heap [] := va_S.rf
  obtain ⟨⟨⟨t_tabL, hZ_tabL, hT_tabL⟩, ⟨t_tabS, hZ_tabS, hT_tabS⟩⟩, -⟩ := id hSt
  have hl := lv_entry ([.int p0]) (n := 2) (Nat.le_of_ble_eq_true rfl)
  rw [lg_entry_eq]
  generalize (lg_sl ([.int p0]) ++ List.replicate (2 - (lg_sl ([.int p0])).length) Slot.unset).toArray = ls at hl ⊢
  have hl : lv_has ls 2 [(0, .int p0)] := hl
  have B17 : (∀ (x0 : Int32) (y0 : Int32), fX4_sampleOf_b17 N x0 y0 = some r → ∀ ls : Array Slot, lv_has ls 2 [(0, .int x0)] → W p l e (headSpec wsX4_sampleOf rmX4_sampleOf).room s m (([.int p0] : List Value).toArray) below meth c s.heap [] 0 0 (MQ below (vp_Si (fun v : Int32 => v = r)) ([.int p0] : List Value).toArray s 0 0 (fun _ => False)) (F0 m 17 ls [.int y0])) := by
    intro x0 y0 hf ls hl
    unfold fX4_sampleOf_b17 at hf
    refine lv_istore_n (lv' := [(1, .int y0), (0, .int x0)]) hx hb dX4_sampleOf_17 rfl hl (by decide) rfl (fun ls hl => ?_)
    refine va_gets hx hb hZ_tabS hS hown (hts _ lkX4_sampleOf_1) (fun _ h9 => h9) dX4_sampleOf_18 ?_
    refine lv_iload_n hx hb dX4_sampleOf_21 rfl (lv_at hl 0 rfl) ?_
    refine lv_if_eq (tgt := 29) hx hb dX4_sampleOf_22 (by decide) (fun c_1 => ?_) (fun c_1 => ?_)
    · rw [if_pos c_1] at hf
      refine lv_iconst (v := 0) hx hb dX4_sampleOf_29 (by decide) ?_
      obtain ⟨g_2, hf⟩ := ite_some hf
      refine va_ti hx hb hT_tabS hS (i := (0 : Int32)) g_2 rfl dX4_sampleOf_30 ?_
      obtain rfl := Option.some.inj hf
      exact W.iret hx hb hr (fun t ht hW => ⟨_, rfl, rfl, ht⟩) (fun _ h => by cases h) dX4_sampleOf_31
    · rw [if_neg c_1] at hf
      refine lv_iload_n hx hb dX4_sampleOf_25 rfl (lv_at hl 1 rfl) ?_
      refine lv_goto (tgt := 30) hx hb dX4_sampleOf_26 (by decide) ?_
      obtain ⟨g_3, hf⟩ := ite_some hf
      refine va_ti hx hb hT_tabS hS (i := x0) g_3 rfl dX4_sampleOf_30 ?_
      obtain rfl := Option.some.inj hf
      exact W.iret hx hb hr (fun t ht hW => ⟨_, rfl, rfl, ht⟩) (fun _ h => by cases h) dX4_sampleOf_31
  have B16 : (∀ (x0 : Int32), fX4_sampleOf_b16 N x0 = some r → ∀ ls : Array Slot, lv_has ls 2 [(0, .int x0)] → W p l e (headSpec wsX4_sampleOf rmX4_sampleOf).room s m (([.int p0] : List Value).toArray) below meth c s.heap [] 0 0 (MQ below (vp_Si (fun v : Int32 => v = r)) ([.int p0] : List Value).toArray s 0 0 (fun _ => False)) (F0 m 16 ls [])) := by
    intro x0 hf ls hl
    unfold fX4_sampleOf_b16 at hf
    refine lv_iconst (v := 0) hx hb dX4_sampleOf_16 (by decide) ?_
    exact B17 x0 0 hf ls (lv_sub hl [0] rfl)
  have hf := hf0
  unfold fX4_sampleOf at hf
  refine lv_iload_n hx hb dX4_sampleOf_0 rfl (lv_at hl 0 rfl) ?_
  refine lv_if_lt (tgt := 16) hx hb dX4_sampleOf_1 (by decide) (fun c_4 => ?_) (fun c_4 => ?_)
  · rw [if_pos c_4] at hf
    exact B16 p0 hf ls (lv_sub hl [0] rfl)
  · rw [if_neg c_4] at hf
    refine lv_iload_n hx hb dX4_sampleOf_4 rfl (lv_at hl 0 rfl) ?_
    refine va_gets hx hb hZ_tabS hS hown (hts _ lkX4_sampleOf_1) (fun _ h9 => h9) dX4_sampleOf_5 ?_
    refine va_tlen (v := 8) hx hb hT_tabS hS (by decide) dX4_sampleOf_8 ?_
    refine lv_icmp_ge (tgt := 16) hx hb dX4_sampleOf_9 (by decide) (fun c_5 => ?_) (fun c_5 => ?_)
    · rw [if_pos c_5] at hf
      exact B16 p0 hf ls (lv_sub hl [0] rfl)
    · rw [if_neg c_5] at hf
      refine lv_iconst (v := 1) hx hb dX4_sampleOf_12 (by decide) ?_
      refine lv_goto (tgt := 17) hx hb dX4_sampleOf_13 (by decide) ?_
      exact B17 p0 1 hf ls (lv_sub hl [0] rfl)
def rmX4_letterFor : Room := { frames := 1, cells := 0, slots := 0, locals := 21 }
theorem iwX4_letterFor_X4 : ∀ w ∈ wsX40, w ∈ wsX4_letterFor := fun w h => List.mem_cons_of_mem _ (List.mem_append_right _ (h))
theorem lkX4_letterFor_1 : Cond.fieldLink RX4 9 "InspectionOffice$Plans" "level" "I" ∈ wsX4_letterFor := List.mem_of_getElem? (i := 1) rfl
theorem lkX4_letterFor_2 : Cond.fieldLink RX4 18 "InspectionOffice$Plans" "LARGEST_OF_CLASS" "[I" ∈ wsX4_letterFor := List.mem_of_getElem? (i := 2) rfl
set_option maxHeartbeats 4000000 in
set_option maxRecDepth 100000 in
theorem mX4_letterFor (l : Launch) (X : cxT) (N : Nat) (a_plans : Nat) (plans_level : Int32) (plans_quality : Int32) (plans_twice : Int32) (p1 : Int32) (r : Int32) (hf0 : fX4_letterFor N p1 plans_level = some r) : Met l yX4_letterFor wsX4_letterFor rmX4_letterFor (rPre X [(a_plans, .inr (3, [.int plans_level, .int plans_quality, .int plans_twice]))] [.ref a_plans, .int p1]) (vp_Si (fun v : Int32 => v = r)) 0 0 (fun _ => False) := by
  refine Met.ofW (cc := cX4_letterFor) (maxL := 7) (ret := (some .int)) (by decide) rfl ?_
  intro p e s m args below meth c s₁ B hml hv
  obtain ⟨rfl, hP, hK, hSt⟩ := hv
  have hx := B.exec
  have hb := B.bytes
  have hr := B.returns
  have hts := atoms_spec (ws := wsX4_letterFor) B.pre
  have hown : s.vm.findClass RX4 = some m.cls := findClass_of_methodNamed B.named
  have hlocks := B.notSynchronized
  have hS : va_S (fun _ => False) s.heap s.heap [] := va_S.rf
  obtain ⟨⟨⟨t_tabL, hZ_tabL, hT_tabL⟩, ⟨t_tabS, hZ_tabS, hT_tabS⟩⟩, -⟩ := id hSt
  have hl := lv_entry ([.ref a_plans, .int p1]) (n := 7) (Nat.le_of_ble_eq_true rfl)
  rw [lg_entry_eq]
  generalize (lg_sl ([.ref a_plans, .int p1]) ++ List.replicate (7 - (lg_sl ([.ref a_plans, .int p1])).length) Slot.unset).toArray = ls at hl ⊢
  have hl : lv_has ls 7 [(0, .ref a_plans), (1, .int p1)] := hl
  have B44 : ∀ k : Nat, (∀ (x1 : Int32) (x2 : Int32), fX4_letterFor_b44 N plans_level k x1 x2 = some r → ∀ ls : Array Slot, lv_has ls 7 [(1, .int x1), (2, .int x2)] → W p l e (headSpec wsX4_letterFor rmX4_letterFor).room s m (([.ref a_plans, .int p1] : List Value).toArray) below meth c s.heap [] 0 0 (MQ below (vp_Si (fun v : Int32 => v = r)) ([.ref a_plans, .int p1] : List Value).toArray s 0 0 (fun _ => False)) (F0 m 44 ls [])) := by
    intro k
    induction k with
    | zero =>
      intro x1 x2 hf ls hl
      exact nomatch (show (none : Option (Int32)) = some r from hf)
    | succ k ih =>
      intro x1 x2 hf ls hl
      unfold fX4_letterFor_b44 at hf
      refine lv_iload_n hx hb dX4_letterFor_44 rfl (lv_at hl 1 rfl) ?_
      refine lv_if_le (tgt := 62) hx hb dX4_letterFor_45 (by decide) (fun c_4 => ?_) (fun c_4 => ?_)
      · rw [if_pos c_4] at hf
        refine lv_iload_n hx hb dX4_letterFor_62 rfl (lv_at hl 1 rfl) ?_
        obtain rfl := Option.some.inj hf
        exact W.iret hx hb hr (fun t ht hW => ⟨_, rfl, rfl, ht⟩) (fun _ h => by cases h) dX4_letterFor_63
      · rw [if_neg c_4] at hf
        refine lv_iload_n hx hb dX4_letterFor_48 rfl (lv_at hl 1 rfl) ?_
        obtain ⟨r_5, e_6, hf⟩ := bind_some hf
        refine vp_callSi (W.runS (As := [.int x2]) (rest := []) ⟨hx, hb, hml, hown, hts⟩ (mX4_sampleOf l X N x2 r_5 e_6) (va_cwS 1 hts gX4_letterFor_X4_sampleOf rfl rfl rfl (by decide +kernel) ⟨Nat.le_of_ble_eq_true rfl, Nat.le_of_ble_eq_true rfl⟩) (rPreS hK hP hSt hS [] rfl) rfl rfl hl.1 rfl (lv_room (Nat.le_of_ble_eq_true rfl)) dX4_letterFor_49 ⟨Nat.zero_le _, Nat.zero_le _⟩) (fun v9 e9 => ?_)
        rw [e9]
        refine lv_iload_n hx hb dX4_letterFor_52 rfl (lv_at hl 0 rfl) ?_
        refine lv_icmp_le (tgt := 62) hx hb dX4_letterFor_53 (by decide) (fun c_7 => ?_) (fun c_7 => ?_)
        · rw [if_pos c_7] at hf
          refine lv_iload_n hx hb dX4_letterFor_62 rfl (lv_at hl 1 rfl) ?_
          obtain rfl := Option.some.inj hf
          exact W.iret hx hb hr (fun t ht hW => ⟨_, rfl, rfl, ht⟩) (fun _ h => by cases h) dX4_letterFor_63
        · rw [if_neg c_7] at hf
          refine lv_iinc (v := x2 + (-1)) (lv' := [(2, .int (x2 + (-1))), (1, .int x1)]) hx hb dX4_letterFor_56 hl (k := 1) rfl rfl (by decide) rfl (fun ls hl => ?_)
          refine lv_goto (tgt := 44) hx hb dX4_letterFor_59 (by decide) ?_
          exact ih x1 (x2 + (-1)) hf ls (lv_sub hl [1, 0] rfl)
  have B38 : ∀ (rec_16 : Int32 → Int32 → Int32 → Int32 → Option (Int32)), (∀ (x1 : Int32) (x2 : Int32) (x4 : Int32) (x5 : Int32), rec_16 x1 x2 x4 x5 = some r → ∀ ls : Array Slot, lv_has ls 7 [(1, .int x1), (2, .int x2), (3, .ref t_tabL), (4, .int x4), (5, .int x5)] → W p l e (headSpec wsX4_letterFor rmX4_letterFor).room s m (([.ref a_plans, .int p1] : List Value).toArray) below meth c s.heap [] 0 0 (MQ below (vp_Si (fun v : Int32 => v = r)) ([.ref a_plans, .int p1] : List Value).toArray s 0 0 (fun _ => False)) (F0 m 16 ls [])) → (∀ (x1 : Int32) (x2 : Int32) (x4 : Int32) (x5 : Int32), fX4_letterFor_b38 N plans_level rec_16 x1 x2 x4 x5 = some r → ∀ ls : Array Slot, lv_has ls 7 [(1, .int x1), (2, .int x2), (3, .ref t_tabL), (4, .int x4), (5, .int x5)] → W p l e (headSpec wsX4_letterFor rmX4_letterFor).room s m (([.ref a_plans, .int p1] : List Value).toArray) below meth c s.heap [] 0 0 (MQ below (vp_Si (fun v : Int32 => v = r)) ([.ref a_plans, .int p1] : List Value).toArray s 0 0 (fun _ => False)) (F0 m 38 ls [])) := by
    intro rec_16 hrec_16 x1 x2 x4 x5 hf ls hl
    unfold fX4_letterFor_b38 at hf
    refine lv_iinc (v := x5 + 1) (lv' := [(5, .int (x5 + 1)), (1, .int x1), (2, .int x2), (3, .ref t_tabL), (4, .int x4)]) hx hb dX4_letterFor_38 hl (k := 4) rfl rfl (by decide) rfl (fun ls hl => ?_)
    refine lv_goto (tgt := 16) hx hb dX4_letterFor_41 (by decide) ?_
    exact hrec_16 x1 x2 x4 (x5 + 1) hf ls (lv_sub hl [1, 2, 3, 4, 0] rfl)
  have B16 : ∀ k : Nat, (∀ (x1 : Int32) (x2 : Int32) (x4 : Int32) (x5 : Int32), fX4_letterFor_b16 N plans_level k x1 x2 x4 x5 = some r → ∀ ls : Array Slot, lv_has ls 7 [(1, .int x1), (2, .int x2), (3, .ref t_tabL), (4, .int x4), (5, .int x5)] → W p l e (headSpec wsX4_letterFor rmX4_letterFor).room s m (([.ref a_plans, .int p1] : List Value).toArray) below meth c s.heap [] 0 0 (MQ below (vp_Si (fun v : Int32 => v = r)) ([.ref a_plans, .int p1] : List Value).toArray s 0 0 (fun _ => False)) (F0 m 16 ls [])) := by
    intro k
    induction k with
    | zero =>
      intro x1 x2 x4 x5 hf ls hl
      exact nomatch (show (none : Option (Int32)) = some r from hf)
    | succ k ih =>
      intro x1 x2 x4 x5 hf ls hl
      unfold fX4_letterFor_b16 at hf
      refine lv_iload hx hb dX4_letterFor_16 (lv_at hl 4 rfl) ?_
      refine lv_iload hx hb dX4_letterFor_18 (lv_at hl 3 rfl) ?_
      refine lv_icmp_ge (tgt := 44) hx hb dX4_letterFor_20 (by decide) (fun c_1 => ?_) (fun c_1 => ?_)
      · rw [if_pos c_1] at hf
        exact B44 N x1 x2 hf ls (lv_sub hl [0, 1] rfl)
      · rw [if_neg c_1] at hf
        refine lv_aload_n hx hb dX4_letterFor_23 rfl (lv_at hl 2 rfl) ?_
        refine lv_iload hx hb dX4_letterFor_24 (lv_at hl 4 rfl) ?_
        obtain ⟨g_2, hf⟩ := ite_some hf
        refine va_ti hx hb hT_tabL hS (i := x5) g_2 rfl dX4_letterFor_26 ?_
        refine lv_istore (lv' := [(6, .int (tabL x5.toNatClampNeg)), (1, .int x1), (2, .int x2), (3, .ref t_tabL), (4, .int x4), (5, .int x5)]) hx hb dX4_letterFor_27 hl (by decide) rfl (fun ls hl => ?_)
        refine lv_iload_n hx hb dX4_letterFor_29 rfl (lv_at hl 1 rfl) ?_
        refine lv_iload hx hb dX4_letterFor_30 (lv_at hl 0 rfl) ?_
        refine lv_icmp_le (tgt := 38) hx hb dX4_letterFor_32 (by decide) (fun c_3 => ?_) (fun c_3 => ?_)
        · rw [if_pos c_3] at hf
          exact B38 (fun x1 x2 x4 x5 => fX4_letterFor_b16 N plans_level k x1 x2 x4 x5) ih x1 x2 x4 x5 hf ls (lv_sub hl [1, 2, 3, 4, 5] rfl)
        · rw [if_neg c_3] at hf
          refine lv_iinc (v := x2 + 1) (lv' := [(2, .int (x2 + 1)), (6, .int (tabL x5.toNatClampNeg)), (1, .int x1), (3, .ref t_tabL), (4, .int x4), (5, .int x5)]) hx hb dX4_letterFor_35 hl (k := 2) rfl rfl (by decide) rfl (fun ls hl => ?_)
          exact B38 (fun x1 x2 x4 x5 => fX4_letterFor_b16 N plans_level k x1 x2 x4 x5) ih x1 (x2 + 1) x4 x5 hf ls (lv_sub hl [2, 0, 3, 4, 5] rfl)
  have hf := hf0
  unfold fX4_letterFor at hf
  refine lv_aload_n hx hb dX4_letterFor_0 rfl (lv_at hl 0 rfl) ?_
  refine va_get (D := X.1) (ci := 3) (v := .int plans_level) (C := RX4) (T := TX4) (N := 3) hx hb hts iwX4_letterFor_X4 hown hK hP 0 rfl rfl 0 (by decide) (hts _ lkX4_letterFor_1) (fun _ h9 => h9) rfl dX4_letterFor_1 ?_
  refine lv_istore_n (lv' := [(2, .int plans_level), (0, .ref a_plans), (1, .int p1)]) hx hb dX4_letterFor_4 rfl hl (by decide) rfl (fun ls hl => ?_)
  refine va_gets hx hb hZ_tabL hS hown (hts _ lkX4_letterFor_2) (fun _ h9 => h9) dX4_letterFor_5 ?_
  refine lv_astore_n (lv' := [(3, .ref t_tabL), (2, .int plans_level), (0, .ref a_plans), (1, .int p1)]) hx hb dX4_letterFor_8 rfl hl (by decide) rfl (fun ls hl => ?_)
  refine lv_aload_n hx hb dX4_letterFor_9 rfl (lv_at hl 0 rfl) ?_
  refine va_tlen (v := 5) hx hb hT_tabL hS (by decide) dX4_letterFor_10 ?_
  refine lv_istore (lv' := [(4, .int 5), (3, .ref t_tabL), (2, .int plans_level), (0, .ref a_plans), (1, .int p1)]) hx hb dX4_letterFor_11 hl (by decide) rfl (fun ls hl => ?_)
  refine lv_iconst (v := 0) hx hb dX4_letterFor_13 (by decide) ?_
  refine lv_istore (lv' := [(5, .int 0), (4, .int 5), (3, .ref t_tabL), (2, .int plans_level), (0, .ref a_plans), (1, .int p1)]) hx hb dX4_letterFor_14 hl (by decide) rfl (fun ls hl => ?_)
  exact B16 N p1 plans_level 5 0 hf ls (lv_sub hl [5, 3, 2, 1, 0] rfl)
def rmX4_sampleUnder : Room := { frames := 2, cells := 0, slots := 0, locals := 47 }
set_option maxHeartbeats 4000000 in
set_option maxRecDepth 100000 in
theorem mX4_sampleUnder (l : Launch) (X : cxT) (N : Nat) (a_plans : Nat) (plans_level : Int32) (plans_quality : Int32) (plans_twice : Int32) (p1 : Int32) (p2 : Int32) (r : Int32) (hf0 : fX4_sampleUnder N p1 p2 plans_level = some r) : Met l yX4_sampleUnder wsX4_sampleUnder rmX4_sampleUnder (rPre X [(a_plans, .inr (3, [.int plans_level, .int plans_quality, .int plans_twice]))] [.ref a_plans, .int p1, .int p2]) (vp_Si (fun v : Int32 => v = r)) 0 0 (fun _ => False) := by
  refine Met.ofW (cc := cX4_sampleUnder) (maxL := 4) (ret := (some .int)) (by decide) rfl ?_
  intro p e s m args below meth c s₁ B hml hv
  obtain ⟨rfl, hP, hK, hSt⟩ := hv
  have hx := B.exec
  have hb := B.bytes
  have hr := B.returns
  have hts := atoms_spec (ws := wsX4_sampleUnder) B.pre
  have hown : s.vm.findClass RX4 = some m.cls := findClass_of_methodNamed B.named
  have hlocks := B.notSynchronized
  have hS : va_S (fun _ => False) s.heap s.heap [] := va_S.rf
  have hl := lv_entry ([.ref a_plans, .int p1, .int p2]) (n := 4) (Nat.le_of_ble_eq_true rfl)
  rw [lg_entry_eq]
  generalize (lg_sl ([.ref a_plans, .int p1, .int p2]) ++ List.replicate (4 - (lg_sl ([.ref a_plans, .int p1, .int p2])).length) Slot.unset).toArray = ls at hl ⊢
  have hl : lv_has ls 4 [(0, .ref a_plans), (1, .int p1), (2, .int p2)] := hl
  have B18 : (∀ (y0 : Int32), fX4_sampleUnder_b18 N plans_level y0 = some r → ∀ ls : Array Slot, lv_has ls 4 [] → W p l e (headSpec wsX4_sampleUnder rmX4_sampleUnder).room s m (([.ref a_plans, .int p1, .int p2] : List Value).toArray) below meth c s.heap [] 0 0 (MQ below (vp_Si (fun v : Int32 => v = r)) ([.ref a_plans, .int p1, .int p2] : List Value).toArray s 0 0 (fun _ => False)) (F0 m 18 ls [.int y0])) := by
    intro y0 hf ls hl
    unfold fX4_sampleUnder_b18 at hf
    obtain ⟨r_1, e_2, hf⟩ := bind_some hf
    refine vp_callSi (W.runS (As := [.int y0]) (rest := []) ⟨hx, hb, hml, hown, hts⟩ (mX4_sampleOf l X N y0 r_1 e_2) (va_cwS 1 hts gX4_sampleUnder_X4_sampleOf rfl rfl rfl (by decide +kernel) ⟨Nat.le_of_ble_eq_true rfl, Nat.le_of_ble_eq_true rfl⟩) (rPreS hK hP hSt hS [] rfl) rfl rfl hl.1 rfl (lv_room (Nat.le_of_ble_eq_true rfl)) dX4_sampleUnder_18 ⟨Nat.zero_le _, Nat.zero_le _⟩) (fun v9 e9 => ?_)
    rw [e9]
    obtain rfl := Option.some.inj hf
    exact W.iret hx hb hr (fun t ht hW => ⟨_, rfl, rfl, ht⟩) (fun _ h => by cases h) dX4_sampleUnder_21
  have hf := hf0
  unfold fX4_sampleUnder at hf
  refine lv_aload_n hx hb dX4_sampleUnder_0 rfl (lv_at hl 0 rfl) ?_
  refine lv_iload_n hx hb dX4_sampleUnder_1 rfl (lv_at hl 1 rfl) ?_
  obtain ⟨r_3, e_4, hf⟩ := bind_some hf
  refine vp_callSi (W.runV (As := [.int p1]) (rest := []) ⟨hx, hb, hml, hown, hts⟩ (mX4_letterFor l X N a_plans plans_level plans_quality plans_twice p1 r_3 e_4) (cwV 1 hts gX4_sampleUnder_X4_letterFor rfl rfl rfl (by decide +kernel) ⟨Nat.le_of_ble_eq_true rfl, Nat.le_of_ble_eq_true rfl⟩) (rPreV hK hP hSt hS [0] rfl 0 rfl rfl) rfl rfl hl.1 rfl (lv_room (Nat.le_of_ble_eq_true rfl)) dX4_sampleUnder_2 ⟨Nat.zero_le _, Nat.zero_le _⟩) (fun v9 e9 => ?_)
  rw [e9]
  refine lv_istore_n (lv' := [(3, .int r_3), (0, .ref a_plans), (1, .int p1), (2, .int p2)]) hx hb dX4_sampleUnder_5 rfl hl (by decide) rfl (fun ls hl => ?_)
  refine lv_iload_n hx hb dX4_sampleUnder_6 rfl (lv_at hl 3 rfl) ?_
  refine lv_iconst (v := 2) hx hb dX4_sampleUnder_7 (by decide) ?_
  refine lv_icmp_ne (tgt := 17) hx hb dX4_sampleUnder_8 (by decide) (fun c_5 => ?_) (fun c_5 => ?_)
  · rw [if_neg c_5] at hf
    refine lv_iload_n hx hb dX4_sampleUnder_17 rfl (lv_at hl 0 rfl) ?_
    exact B18 r_3 hf ls (lv_sub hl [] rfl)
  · rw [if_pos c_5] at hf
    refine lv_iload_n hx hb dX4_sampleUnder_11 rfl (lv_at hl 0 rfl) ?_
    refine lv_iconst (v := 2) hx hb dX4_sampleUnder_12 (by decide) ?_
    refine lv_isub hx hb dX4_sampleUnder_13 ?_
    refine lv_goto (tgt := 18) hx hb dX4_sampleUnder_14 (by decide) ?_
    exact B18 (r_3 - 2) hf ls (lv_sub hl [] rfl)
def rmX4_acceptingUnder : Room := { frames := 2, cells := 0, slots := 0, locals := 47 }
theorem iwX4_acceptingUnder_X4 : ∀ w ∈ wsX40, w ∈ wsX4_acceptingUnder := fun w h => List.mem_cons_of_mem _ (List.mem_append_right _ (h))
theorem lkX4_acceptingUnder_1 : Cond.fieldLink RX4 15 "InspectionOffice$Plans" "quality" "I" ∈ wsX4_acceptingUnder := List.mem_of_getElem? (i := 1) rfl
set_option maxHeartbeats 4000000 in
set_option maxRecDepth 100000 in
theorem mX4_acceptingUnder (l : Launch) (X : cxT) (N : Nat) (a_plans : Nat) (plans_level : Int32) (plans_quality : Int32) (plans_twice : Int32) (p1 : Int32) (p2 : Int32) (r : Int32) (hf0 : fX4_acceptingUnder N p1 p2 plans_level plans_quality = some r) : Met l yX4_acceptingUnder wsX4_acceptingUnder rmX4_acceptingUnder (rPre X [(a_plans, .inr (3, [.int plans_level, .int plans_quality, .int plans_twice]))] [.ref a_plans, .int p1, .int p2]) (vp_Si (fun v : Int32 => v = r)) 0 0 (fun _ => False) := by
  refine Met.ofW (cc := cX4_acceptingUnder) (maxL := 4) (ret := (some .int)) (by decide) rfl ?_
  intro p e s m args below meth c s₁ B hml hv
  obtain ⟨rfl, hP, hK, hSt⟩ := hv
  have hx := B.exec
  have hb := B.bytes
  have hr := B.returns
  have hts := atoms_spec (ws := wsX4_acceptingUnder) B.pre
  have hown : s.vm.findClass RX4 = some m.cls := findClass_of_methodNamed B.named
  have hlocks := B.notSynchronized
  have hS : va_S (fun _ => False) s.heap s.heap [] := va_S.rf
  have hl := lv_entry ([.ref a_plans, .int p1, .int p2]) (n := 4) (Nat.le_of_ble_eq_true rfl)
  rw [lg_entry_eq]
  generalize (lg_sl ([.ref a_plans, .int p1, .int p2]) ++ List.replicate (4 - (lg_sl ([.ref a_plans, .int p1, .int p2])).length) Slot.unset).toArray = ls at hl ⊢
  have hl : lv_has ls 4 [(0, .ref a_plans), (1, .int p1), (2, .int p2)] := hl
  have B29 : (∀ (x3 : Int32), fX4_acceptingUnder_b29 N plans_level plans_quality x3 = some r → ∀ ls : Array Slot, lv_has ls 4 [(3, .int x3)] → W p l e (headSpec wsX4_acceptingUnder rmX4_acceptingUnder).room s m (([.ref a_plans, .int p1, .int p2] : List Value).toArray) below meth c s.heap [] 0 0 (MQ below (vp_Si (fun v : Int32 => v = r)) ([.ref a_plans, .int p1, .int p2] : List Value).toArray s 0 0 (fun _ => False)) (F0 m 29 ls [])) := by
    intro x3 hf ls hl
    unfold fX4_acceptingUnder_b29 at hf
    refine lv_iload_n hx hb dX4_acceptingUnder_29 rfl (lv_at hl 0 rfl) ?_
    refine lv_goto (tgt := 36) hx hb dX4_acceptingUnder_30 (by decide) ?_
    obtain rfl := Option.some.inj hf
    exact W.iret hx hb hr (fun t ht hW => ⟨_, rfl, rfl, ht⟩) (fun _ h => by cases h) dX4_acceptingUnder_36
  have hf := hf0
  unfold fX4_acceptingUnder at hf
  refine lv_aload_n hx hb dX4_acceptingUnder_0 rfl (lv_at hl 0 rfl) ?_
  refine lv_iload_n hx hb dX4_acceptingUnder_1 rfl (lv_at hl 1 rfl) ?_
  obtain ⟨r_1, e_2, hf⟩ := bind_some hf
  refine vp_callSi (W.runV (As := [.int p1]) (rest := []) ⟨hx, hb, hml, hown, hts⟩ (mX4_letterFor l X N a_plans plans_level plans_quality plans_twice p1 r_1 e_2) (cwV 1 hts gX4_acceptingUnder_X4_letterFor rfl rfl rfl (by decide +kernel) ⟨Nat.le_of_ble_eq_true rfl, Nat.le_of_ble_eq_true rfl⟩) (rPreV hK hP hSt hS [0] rfl 0 rfl rfl) rfl rfl hl.1 rfl (lv_room (Nat.le_of_ble_eq_true rfl)) dX4_acceptingUnder_2 ⟨Nat.zero_le _, Nat.zero_le _⟩) (fun v9 e9 => ?_)
  rw [e9]
  obtain ⟨r_3, e_4, hf⟩ := bind_some hf
  refine vp_callSi (W.runS (As := [.int r_1]) (rest := []) ⟨hx, hb, hml, hown, hts⟩ (mX4_sampleOf l X N r_1 r_3 e_4) (va_cwS 1 hts gX4_acceptingUnder_X4_sampleOf rfl rfl rfl (by decide +kernel) ⟨Nat.le_of_ble_eq_true rfl, Nat.le_of_ble_eq_true rfl⟩) (rPreS hK hP hSt hS [] rfl) rfl rfl hl.1 rfl (lv_room (Nat.le_of_ble_eq_true rfl)) dX4_acceptingUnder_5 ⟨Nat.zero_le _, Nat.zero_le _⟩) (fun v9 e9 => ?_)
  rw [e9]
  refine lv_iconst (v := 2) hx hb dX4_acceptingUnder_8 (by decide) ?_
  refine lv_aload_n hx hb dX4_acceptingUnder_9 rfl (lv_at hl 0 rfl) ?_
  refine va_get (D := X.1) (ci := 3) (v := .int plans_quality) (C := RX4) (T := TX4) (N := 3) hx hb hts iwX4_acceptingUnder_X4 hown hK hP 0 rfl rfl 1 (by decide) (hts _ lkX4_acceptingUnder_1) (fun _ h9 => h9) rfl dX4_acceptingUnder_10 ?_
  refine lv_imul hx hb dX4_acceptingUnder_13 ?_
  refine lv_iconst (v := 1) hx hb dX4_acceptingUnder_14 (by decide) ?_
  refine lv_iadd hx hb dX4_acceptingUnder_15 ?_
  refine lv_imul hx hb dX4_acceptingUnder_16 ?_
  refine lv_bipush (v := 40) hx hb dX4_acceptingUnder_17 (by decide) ?_
  refine lv_idiv hx hb dX4_acceptingUnder_19 (by decide) ?_
  obtain ⟨z_5, e_6, hf⟩ := bind_some hf
  refine lv_eqi (Option.some.inj e_6) ?_
  refine lv_istore_n (lv' := [(3, .int z_5), (0, .ref a_plans), (1, .int p1), (2, .int p2)]) hx hb dX4_acceptingUnder_20 rfl hl (by decide) rfl (fun ls hl => ?_)
  refine lv_iload_n hx hb dX4_acceptingUnder_21 rfl (lv_at hl 3 rfl) ?_
  refine lv_if_eq (tgt := 29) hx hb dX4_acceptingUnder_22 (by decide) (fun c_7 => ?_) (fun c_7 => ?_)
  · rw [if_pos c_7] at hf
    exact B29 z_5 hf ls (lv_sub hl [0] rfl)
  · rw [if_neg c_7] at hf
    refine lv_iload_n hx hb dX4_acceptingUnder_25 rfl (lv_at hl 0 rfl) ?_
    refine lv_if_ne (tgt := 33) hx hb dX4_acceptingUnder_26 (by decide) (fun c_8 => ?_) (fun c_8 => ?_)
    · rw [if_neg c_8] at hf
      refine lv_iload_n hx hb dX4_acceptingUnder_33 rfl (lv_at hl 0 rfl) ?_
      refine lv_iconst (v := 1) hx hb dX4_acceptingUnder_34 (by decide) ?_
      refine lv_isub hx hb dX4_acceptingUnder_35 ?_
      obtain rfl := Option.some.inj hf
      exact W.iret hx hb hr (fun t ht hW => ⟨_, rfl, rfl, ht⟩) (fun _ h => by cases h) dX4_acceptingUnder_36
    · rw [if_pos c_8] at hf
      exact B29 z_5 hf ls (lv_sub hl [0] rfl)
def rmX2_refusedInLast : Room := { frames := 0, cells := 0, slots := 0, locals := 0 }
theorem iwX2_refusedInLast_X2 : ∀ w ∈ wsX20, w ∈ wsX2_refusedInLast := fun w h => List.mem_cons_of_mem _ (List.mem_append_right _ (h))
theorem lkX2_refusedInLast_1 : Cond.fieldLink RX2 19 "InspectionOffice$History" "length" "I" ∈ wsX2_refusedInLast := List.mem_of_getElem? (i := 1) rfl
theorem lkX2_refusedInLast_2 : Cond.fieldLink RX2 9 "InspectionOffice$History" "refused" "[Z" ∈ wsX2_refusedInLast := List.mem_of_getElem? (i := 2) rfl
set_option maxHeartbeats 4000000 in
set_option maxRecDepth 100000 in
theorem mX2_refusedInLast (l : Launch) (X : cxT) (N : Nat) (a_hist a_hr a_hb : Nat) (hist_length : Int32) (hr_f : Nat → Int32) (hb_f : Nat → Int32) (p1 : Int32) (r : Int32) (hf0 : fX2_refusedInLast N p1 hist_length hr_f = some r) : Met l yX2_refusedInLast wsX2_refusedInLast rmX2_refusedInLast (rPre X [(a_hist, .inr (1, [.ref a_hr, .ref a_hb, .int hist_length])), (a_hr, .inl (X.2 2, 60, .inl hr_f)), (a_hb, .inl (X.2 0, 60, .inl hb_f))] [.ref a_hist, .int p1]) (vp_Si (fun v : Int32 => v = r)) 0 0 (fun _ => False) := by
  refine Met.ofW (cc := cX2_refusedInLast) (maxL := 5) (ret := (some .int)) (by decide) rfl ?_
  intro p e s m args below meth c s₁ B hml hv
  obtain ⟨rfl, hP, hK, hSt⟩ := hv
  have hx := B.exec
  have hb := B.bytes
  have hr := B.returns
  have hts := atoms_spec (ws := wsX2_refusedInLast) B.pre
  have hown : s.vm.findClass RX2 = some m.cls := findClass_of_methodNamed B.named
  have hlocks := B.notSynchronized
  have hS : va_S (fun _ => False) s.heap s.heap [] := va_S.rf
  have hl := lv_entry ([.ref a_hist, .int p1]) (n := 5) (Nat.le_of_ble_eq_true rfl)
  rw [lg_entry_eq]
  generalize (lg_sl ([.ref a_hist, .int p1]) ++ List.replicate (5 - (lg_sl ([.ref a_hist, .int p1])).length) Slot.unset).toArray = ls at hl ⊢
  have hl : lv_has ls 5 [(0, .ref a_hist), (1, .int p1)] := hl
  have B58 : ∀ (rec_24 : Int32 → Int32 → Option (Int32)), (∀ (x2 : Int32) (x4 : Int32), rec_24 x2 x4 = some r → ∀ ls : Array Slot, lv_has ls 5 [(0, .ref a_hist), (2, .int x2), (4, .int x4)] → W p l e (headSpec wsX2_refusedInLast rmX2_refusedInLast).room s m (([.ref a_hist, .int p1] : List Value).toArray) below meth c s.heap [] 0 0 (MQ below (vp_Si (fun v : Int32 => v = r)) ([.ref a_hist, .int p1] : List Value).toArray s 0 0 (fun _ => False)) (F0 m 24 ls [])) → (∀ (x2 : Int32) (x4 : Int32), fX2_refusedInLast_b58 N hist_length hr_f rec_24 x2 x4 = some r → ∀ ls : Array Slot, lv_has ls 5 [(0, .ref a_hist), (2, .int x2), (4, .int x4)] → W p l e (headSpec wsX2_refusedInLast rmX2_refusedInLast).room s m (([.ref a_hist, .int p1] : List Value).toArray) below meth c s.heap [] 0 0 (MQ below (vp_Si (fun v : Int32 => v = r)) ([.ref a_hist, .int p1] : List Value).toArray s 0 0 (fun _ => False)) (F0 m 58 ls [])) := by
    intro rec_24 hrec_24 x2 x4 hf ls hl
    unfold fX2_refusedInLast_b58 at hf
    refine lv_iinc (v := x4 + 1) (lv' := [(4, .int (x4 + 1)), (0, .ref a_hist), (2, .int x2)]) hx hb dX2_refusedInLast_58 hl (k := 2) rfl rfl (by decide) rfl (fun ls hl => ?_)
    refine lv_goto (tgt := 24) hx hb dX2_refusedInLast_61 (by decide) ?_
    exact hrec_24 x2 (x4 + 1) hf ls (lv_sub hl [1, 2, 0] rfl)
  have B24 : ∀ k : Nat, (∀ (x2 : Int32) (x4 : Int32), fX2_refusedInLast_b24 N hist_length hr_f k x2 x4 = some r → ∀ ls : Array Slot, lv_has ls 5 [(0, .ref a_hist), (2, .int x2), (4, .int x4)] → W p l e (headSpec wsX2_refusedInLast rmX2_refusedInLast).room s m (([.ref a_hist, .int p1] : List Value).toArray) below meth c s.heap [] 0 0 (MQ below (vp_Si (fun v : Int32 => v = r)) ([.ref a_hist, .int p1] : List Value).toArray s 0 0 (fun _ => False)) (F0 m 24 ls [])) := by
    intro k
    induction k with
    | zero =>
      intro x2 x4 hf ls hl
      exact nomatch (show (none : Option (Int32)) = some r from hf)
    | succ k ih =>
      intro x2 x4 hf ls hl
      unfold fX2_refusedInLast_b24 at hf
      refine lv_iload hx hb dX2_refusedInLast_24 (lv_at hl 2 rfl) ?_
      refine lv_if_lt (tgt := 64) hx hb dX2_refusedInLast_26 (by decide) (fun c_1 => ?_) (fun c_1 => ?_)
      · rw [if_pos c_1] at hf
        refine lv_iload_n hx hb dX2_refusedInLast_64 rfl (lv_at hl 1 rfl) ?_
        obtain rfl := Option.some.inj hf
        exact W.iret hx hb hr (fun t ht hW => ⟨_, rfl, rfl, ht⟩) (fun _ h => by cases h) dX2_refusedInLast_65
      · rw [if_neg c_1] at hf
        refine lv_iload hx hb dX2_refusedInLast_29 (lv_at hl 2 rfl) ?_
        refine lv_aload_n hx hb dX2_refusedInLast_31 rfl (lv_at hl 0 rfl) ?_
        refine va_get (D := X.1) (ci := 1) (v := .int hist_length) (C := RX2) (T := TX2) (N := 3) hx hb hts iwX2_refusedInLast_X2 hown hK hP 0 rfl rfl 2 (by decide) (hts _ lkX2_refusedInLast_1) (fun _ h9 => h9) rfl dX2_refusedInLast_32 ?_
        refine lv_icmp_ge (tgt := 64) hx hb dX2_refusedInLast_35 (by decide) (fun c_2 => ?_) (fun c_2 => ?_)
        · rw [if_pos c_2] at hf
          refine lv_iload_n hx hb dX2_refusedInLast_64 rfl (lv_at hl 1 rfl) ?_
          obtain rfl := Option.some.inj hf
          exact W.iret hx hb hr (fun t ht hW => ⟨_, rfl, rfl, ht⟩) (fun _ h => by cases h) dX2_refusedInLast_65
        · rw [if_neg c_2] at hf
          refine lv_iload hx hb dX2_refusedInLast_38 (lv_at hl 2 rfl) ?_
          refine lv_bipush (v := 60) hx hb dX2_refusedInLast_40 (by decide) ?_
          refine lv_icmp_ge (tgt := 64) hx hb dX2_refusedInLast_42 (by decide) (fun c_3 => ?_) (fun c_3 => ?_)
          · rw [if_pos c_3] at hf
            refine lv_iload_n hx hb dX2_refusedInLast_64 rfl (lv_at hl 1 rfl) ?_
            obtain rfl := Option.some.inj hf
            exact W.iret hx hb hr (fun t ht hW => ⟨_, rfl, rfl, ht⟩) (fun _ h => by cases h) dX2_refusedInLast_65
          · rw [if_neg c_3] at hf
            refine lv_aload_n hx hb dX2_refusedInLast_45 rfl (lv_at hl 0 rfl) ?_
            refine va_get (D := X.1) (ci := 1) (v := .ref a_hr) (C := RX2) (T := TX2) (N := 3) hx hb hts iwX2_refusedInLast_X2 hown hK hP 0 rfl rfl 0 (by decide) (hts _ lkX2_refusedInLast_2) (fun _ h9 => h9) rfl dX2_refusedInLast_46 ?_
            refine lv_iload hx hb dX2_refusedInLast_49 (lv_at hl 2 rfl) ?_
            obtain ⟨g_4, hf⟩ := ite_some hf
            refine va_zald hx hb hK hP 1 2 rfl rfl (i := x4) g_4 dX2_refusedInLast_51 ?_
            refine lv_if_eq (tgt := 58) hx hb dX2_refusedInLast_52 (by decide) (fun c_5 => ?_) (fun c_5 => ?_)
            · rw [if_pos c_5] at hf
              exact B58 (fun x2 x4 => fX2_refusedInLast_b24 N hist_length hr_f k x2 x4) ih x2 x4 hf ls (lv_sub hl [0, 1, 2] rfl)
            · rw [if_neg c_5] at hf
              refine lv_iinc (v := x2 + 1) (lv' := [(2, .int (x2 + 1)), (0, .ref a_hist), (4, .int x4)]) hx hb dX2_refusedInLast_55 hl (k := 1) rfl rfl (by decide) rfl (fun ls hl => ?_)
              exact B58 (fun x2 x4 => fX2_refusedInLast_b24 N hist_length hr_f k x2 x4) ih (x2 + 1) x4 hf ls (lv_sub hl [1, 0, 2] rfl)
  have B20 : (∀ (x2 : Int32) (y0 : Int32), fX2_refusedInLast_b20 N hist_length hr_f x2 y0 = some r → ∀ ls : Array Slot, lv_has ls 5 [(0, .ref a_hist), (2, .int x2)] → W p l e (headSpec wsX2_refusedInLast rmX2_refusedInLast).room s m (([.ref a_hist, .int p1] : List Value).toArray) below meth c s.heap [] 0 0 (MQ below (vp_Si (fun v : Int32 => v = r)) ([.ref a_hist, .int p1] : List Value).toArray s 0 0 (fun _ => False)) (F0 m 20 ls [.int y0])) := by
    intro x2 y0 hf ls hl
    unfold fX2_refusedInLast_b20 at hf
    refine lv_istore_n (lv' := [(3, .int y0), (0, .ref a_hist), (2, .int x2)]) hx hb dX2_refusedInLast_20 rfl hl (by decide) rfl (fun ls hl => ?_)
    refine lv_iload_n hx hb dX2_refusedInLast_21 rfl (lv_at hl 0 rfl) ?_
    refine lv_istore (lv' := [(4, .int y0), (3, .int y0), (0, .ref a_hist), (2, .int x2)]) hx hb dX2_refusedInLast_22 hl (by decide) rfl (fun ls hl => ?_)
    exact B24 N x2 y0 hf ls (lv_sub hl [2, 3, 0] rfl)
  have hf := hf0
  unfold fX2_refusedInLast at hf
  refine lv_iconst (v := 0) hx hb dX2_refusedInLast_0 (by decide) ?_
  refine lv_istore_n (lv' := [(2, .int 0), (0, .ref a_hist), (1, .int p1)]) hx hb dX2_refusedInLast_1 rfl hl (by decide) rfl (fun ls hl => ?_)
  refine lv_aload_n hx hb dX2_refusedInLast_2 rfl (lv_at hl 1 rfl) ?_
  refine va_get (D := X.1) (ci := 1) (v := .int hist_length) (C := RX2) (T := TX2) (N := 3) hx hb hts iwX2_refusedInLast_X2 hown hK hP 0 rfl rfl 2 (by decide) (hts _ lkX2_refusedInLast_1) (fun _ h9 => h9) rfl dX2_refusedInLast_3 ?_
  refine lv_iload_n hx hb dX2_refusedInLast_6 rfl (lv_at hl 2 rfl) ?_
  refine lv_icmp_le (tgt := 19) hx hb dX2_refusedInLast_7 (by decide) (fun c_6 => ?_) (fun c_6 => ?_)
  · rw [if_pos c_6] at hf
    refine lv_iconst (v := 0) hx hb dX2_refusedInLast_19 (by decide) ?_
    exact B20 0 0 hf ls (lv_sub hl [1, 0] rfl)
  · rw [if_neg c_6] at hf
    refine lv_aload_n hx hb dX2_refusedInLast_10 rfl (lv_at hl 1 rfl) ?_
    refine va_get (D := X.1) (ci := 1) (v := .int hist_length) (C := RX2) (T := TX2) (N := 3) hx hb hts iwX2_refusedInLast_X2 hown hK hP 0 rfl rfl 2 (by decide) (hts _ lkX2_refusedInLast_1) (fun _ h9 => h9) rfl dX2_refusedInLast_11 ?_
    refine lv_iload_n hx hb dX2_refusedInLast_14 rfl (lv_at hl 2 rfl) ?_
    refine lv_isub hx hb dX2_refusedInLast_15 ?_
    refine lv_goto (tgt := 20) hx hb dX2_refusedInLast_16 (by decide) ?_
    exact B20 0 (hist_length - p1) hf ls (lv_sub hl [1, 0] rfl)
def rmX2_badInLast : Room := { frames := 0, cells := 0, slots := 0, locals := 0 }
theorem iwX2_badInLast_X2 : ∀ w ∈ wsX20, w ∈ wsX2_badInLast := fun w h => List.mem_cons_of_mem _ (List.mem_append_right _ (h))
theorem lkX2_badInLast_1 : Cond.fieldLink RX2 19 "InspectionOffice$History" "length" "I" ∈ wsX2_badInLast := List.mem_of_getElem? (i := 1) rfl
theorem lkX2_badInLast_2 : Cond.fieldLink RX2 15 "InspectionOffice$History" "bad" "[I" ∈ wsX2_badInLast := List.mem_of_getElem? (i := 2) rfl
set_option maxHeartbeats 4000000 in
set_option maxRecDepth 100000 in
theorem mX2_badInLast (l : Launch) (X : cxT) (N : Nat) (a_hist a_hr a_hb : Nat) (hist_length : Int32) (hr_f : Nat → Int32) (hb_f : Nat → Int32) (p1 : Int32) (r : Int32) (hf0 : fX2_badInLast N p1 hist_length hb_f = some r) : Met l yX2_badInLast wsX2_badInLast rmX2_badInLast (rPre X [(a_hist, .inr (1, [.ref a_hr, .ref a_hb, .int hist_length])), (a_hr, .inl (X.2 2, 60, .inl hr_f)), (a_hb, .inl (X.2 0, 60, .inl hb_f))] [.ref a_hist, .int p1]) (vp_Si (fun v : Int32 => v = r)) 0 0 (fun _ => False) := by
  refine Met.ofW (cc := cX2_badInLast) (maxL := 5) (ret := (some .int)) (by decide) rfl ?_
  intro p e s m args below meth c s₁ B hml hv
  obtain ⟨rfl, hP, hK, hSt⟩ := hv
  have hx := B.exec
  have hb := B.bytes
  have hr := B.returns
  have hts := atoms_spec (ws := wsX2_badInLast) B.pre
  have hown : s.vm.findClass RX2 = some m.cls := findClass_of_methodNamed B.named
  have hlocks := B.notSynchronized
  have hS : va_S (fun _ => False) s.heap s.heap [] := va_S.rf
  have hl := lv_entry ([.ref a_hist, .int p1]) (n := 5) (Nat.le_of_ble_eq_true rfl)
  rw [lg_entry_eq]
  generalize (lg_sl ([.ref a_hist, .int p1]) ++ List.replicate (5 - (lg_sl ([.ref a_hist, .int p1])).length) Slot.unset).toArray = ls at hl ⊢
  have hl : lv_has ls 5 [(0, .ref a_hist), (1, .int p1)] := hl
  have B24 : ∀ k : Nat, (∀ (x2 : Int32) (x4 : Int32), fX2_badInLast_b24 N hist_length hb_f k x2 x4 = some r → ∀ ls : Array Slot, lv_has ls 5 [(0, .ref a_hist), (2, .int x2), (4, .int x4)] → W p l e (headSpec wsX2_badInLast rmX2_badInLast).room s m (([.ref a_hist, .int p1] : List Value).toArray) below meth c s.heap [] 0 0 (MQ below (vp_Si (fun v : Int32 => v = r)) ([.ref a_hist, .int p1] : List Value).toArray s 0 0 (fun _ => False)) (F0 m 24 ls [])) := by
    intro k
    induction k with
    | zero =>
      intro x2 x4 hf ls hl
      exact nomatch (show (none : Option (Int32)) = some r from hf)
    | succ k ih =>
      intro x2 x4 hf ls hl
      unfold fX2_badInLast_b24 at hf
      refine lv_iload hx hb dX2_badInLast_24 (lv_at hl 2 rfl) ?_
      refine lv_if_lt (tgt := 61) hx hb dX2_badInLast_26 (by decide) (fun c_1 => ?_) (fun c_1 => ?_)
      · rw [if_pos c_1] at hf
        refine lv_iload_n hx hb dX2_badInLast_61 rfl (lv_at hl 1 rfl) ?_
        obtain rfl := Option.some.inj hf
        exact W.iret hx hb hr (fun t ht hW => ⟨_, rfl, rfl, ht⟩) (fun _ h => by cases h) dX2_badInLast_62
      · rw [if_neg c_1] at hf
        refine lv_iload hx hb dX2_badInLast_29 (lv_at hl 2 rfl) ?_
        refine lv_aload_n hx hb dX2_badInLast_31 rfl (lv_at hl 0 rfl) ?_
        refine va_get (D := X.1) (ci := 1) (v := .int hist_length) (C := RX2) (T := TX2) (N := 3) hx hb hts iwX2_badInLast_X2 hown hK hP 0 rfl rfl 2 (by decide) (hts _ lkX2_badInLast_1) (fun _ h9 => h9) rfl dX2_badInLast_32 ?_
        refine lv_icmp_ge (tgt := 61) hx hb dX2_badInLast_35 (by decide) (fun c_2 => ?_) (fun c_2 => ?_)
        · rw [if_pos c_2] at hf
          refine lv_iload_n hx hb dX2_badInLast_61 rfl (lv_at hl 1 rfl) ?_
          obtain rfl := Option.some.inj hf
          exact W.iret hx hb hr (fun t ht hW => ⟨_, rfl, rfl, ht⟩) (fun _ h => by cases h) dX2_badInLast_62
        · rw [if_neg c_2] at hf
          refine lv_iload hx hb dX2_badInLast_38 (lv_at hl 2 rfl) ?_
          refine lv_bipush (v := 60) hx hb dX2_badInLast_40 (by decide) ?_
          refine lv_icmp_ge (tgt := 61) hx hb dX2_badInLast_42 (by decide) (fun c_3 => ?_) (fun c_3 => ?_)
          · rw [if_pos c_3] at hf
            refine lv_iload_n hx hb dX2_badInLast_61 rfl (lv_at hl 1 rfl) ?_
            obtain rfl := Option.some.inj hf
            exact W.iret hx hb hr (fun t ht hW => ⟨_, rfl, rfl, ht⟩) (fun _ h => by cases h) dX2_badInLast_62
          · rw [if_neg c_3] at hf
            refine lv_iload_n hx hb dX2_badInLast_45 rfl (lv_at hl 1 rfl) ?_
            refine lv_aload_n hx hb dX2_badInLast_46 rfl (lv_at hl 0 rfl) ?_
            refine va_get (D := X.1) (ci := 1) (v := .ref a_hb) (C := RX2) (T := TX2) (N := 3) hx hb hts iwX2_badInLast_X2 hown hK hP 0 rfl rfl 1 (by decide) (hts _ lkX2_badInLast_2) (fun _ h9 => h9) rfl dX2_badInLast_47 ?_
            refine lv_iload hx hb dX2_badInLast_50 (lv_at hl 2 rfl) ?_
            obtain ⟨g_4, hf⟩ := ite_some hf
            refine va_iald hx hb hK hP 2 0 rfl rfl (i := x4) g_4 dX2_badInLast_52 ?_
            refine lv_iadd hx hb dX2_badInLast_53 ?_
            obtain ⟨z_5, e_6, hf⟩ := bind_some hf
            refine lv_eqi (Option.some.inj e_6) ?_
            refine lv_istore_n (lv' := [(2, .int z_5), (0, .ref a_hist), (4, .int x4)]) hx hb dX2_badInLast_54 rfl hl (by decide) rfl (fun ls hl => ?_)
            refine lv_iinc (v := x4 + 1) (lv' := [(4, .int (x4 + 1)), (2, .int z_5), (0, .ref a_hist)]) hx hb dX2_badInLast_55 hl (k := 2) rfl rfl (by decide) rfl (fun ls hl => ?_)
            refine lv_goto (tgt := 24) hx hb dX2_badInLast_58 (by decide) ?_
            exact ih z_5 (x4 + 1) hf ls (lv_sub hl [2, 1, 0] rfl)
  have B20 : (∀ (x2 : Int32) (y0 : Int32), fX2_badInLast_b20 N hist_length hb_f x2 y0 = some r → ∀ ls : Array Slot, lv_has ls 5 [(0, .ref a_hist), (2, .int x2)] → W p l e (headSpec wsX2_badInLast rmX2_badInLast).room s m (([.ref a_hist, .int p1] : List Value).toArray) below meth c s.heap [] 0 0 (MQ below (vp_Si (fun v : Int32 => v = r)) ([.ref a_hist, .int p1] : List Value).toArray s 0 0 (fun _ => False)) (F0 m 20 ls [.int y0])) := by
    intro x2 y0 hf ls hl
    unfold fX2_badInLast_b20 at hf
    refine lv_istore_n (lv' := [(3, .int y0), (0, .ref a_hist), (2, .int x2)]) hx hb dX2_badInLast_20 rfl hl (by decide) rfl (fun ls hl => ?_)
    refine lv_iload_n hx hb dX2_badInLast_21 rfl (lv_at hl 0 rfl) ?_
    refine lv_istore (lv' := [(4, .int y0), (3, .int y0), (0, .ref a_hist), (2, .int x2)]) hx hb dX2_badInLast_22 hl (by decide) rfl (fun ls hl => ?_)
    exact B24 N x2 y0 hf ls (lv_sub hl [2, 3, 0] rfl)
  have hf := hf0
  unfold fX2_badInLast at hf
  refine lv_iconst (v := 0) hx hb dX2_badInLast_0 (by decide) ?_
  refine lv_istore_n (lv' := [(2, .int 0), (0, .ref a_hist), (1, .int p1)]) hx hb dX2_badInLast_1 rfl hl (by decide) rfl (fun ls hl => ?_)
  refine lv_aload_n hx hb dX2_badInLast_2 rfl (lv_at hl 1 rfl) ?_
  refine va_get (D := X.1) (ci := 1) (v := .int hist_length) (C := RX2) (T := TX2) (N := 3) hx hb hts iwX2_badInLast_X2 hown hK hP 0 rfl rfl 2 (by decide) (hts _ lkX2_badInLast_1) (fun _ h9 => h9) rfl dX2_badInLast_3 ?_
  refine lv_iload_n hx hb dX2_badInLast_6 rfl (lv_at hl 2 rfl) ?_
  refine lv_icmp_le (tgt := 19) hx hb dX2_badInLast_7 (by decide) (fun c_7 => ?_) (fun c_7 => ?_)
  · rw [if_pos c_7] at hf
    refine lv_iconst (v := 0) hx hb dX2_badInLast_19 (by decide) ?_
    exact B20 0 0 hf ls (lv_sub hl [1, 0] rfl)
  · rw [if_neg c_7] at hf
    refine lv_aload_n hx hb dX2_badInLast_10 rfl (lv_at hl 1 rfl) ?_
    refine va_get (D := X.1) (ci := 1) (v := .int hist_length) (C := RX2) (T := TX2) (N := 3) hx hb hts iwX2_badInLast_X2 hown hK hP 0 rfl rfl 2 (by decide) (hts _ lkX2_badInLast_1) (fun _ h9 => h9) rfl dX2_badInLast_11 ?_
    refine lv_iload_n hx hb dX2_badInLast_14 rfl (lv_at hl 2 rfl) ?_
    refine lv_isub hx hb dX2_badInLast_15 ?_
    refine lv_goto (tgt := 20) hx hb dX2_badInLast_16 (by decide) ?_
    exact B20 0 (hist_length - p1) hf ls (lv_sub hl [1, 0] rfl)
def rmX2_lastWereAccepted : Room := { frames := 1, cells := 0, slots := 0, locals := 24 }
theorem iwX2_lastWereAccepted_X2 : ∀ w ∈ wsX20, w ∈ wsX2_lastWereAccepted := fun w h => List.mem_cons_of_mem _ (List.mem_append_right _ (h))
theorem lkX2_lastWereAccepted_1 : Cond.fieldLink RX2 19 "InspectionOffice$History" "length" "I" ∈ wsX2_lastWereAccepted := List.mem_of_getElem? (i := 1) rfl
set_option maxHeartbeats 4000000 in
set_option maxRecDepth 100000 in
theorem mX2_lastWereAccepted (l : Launch) (X : cxT) (N : Nat) (a_hist a_hr a_hb : Nat) (hist_length : Int32) (hr_f : Nat → Int32) (hb_f : Nat → Int32) (p1 : Int32) (r : Int32) (hf0 : fX2_lastWereAccepted N p1 hist_length hr_f = some r) : Met l yX2_lastWereAccepted wsX2_lastWereAccepted rmX2_lastWereAccepted (rPre X [(a_hist, .inr (1, [.ref a_hr, .ref a_hb, .int hist_length])), (a_hr, .inl (X.2 2, 60, .inl hr_f)), (a_hb, .inl (X.2 0, 60, .inl hb_f))] [.ref a_hist, .int p1]) (vp_Si (fun v : Int32 => v = r)) 0 0 (fun _ => False) := by
  refine Met.ofW (cc := cX2_lastWereAccepted) (maxL := 2) (ret := (some .boolean)) (by decide) rfl ?_
  intro p e s m args below meth c s₁ B hml hv
  obtain ⟨rfl, hP, hK, hSt⟩ := hv
  have hx := B.exec
  have hb := B.bytes
  have hr := B.returns
  have hts := atoms_spec (ws := wsX2_lastWereAccepted) B.pre
  have hown : s.vm.findClass RX2 = some m.cls := findClass_of_methodNamed B.named
  have hlocks := B.notSynchronized
  have hS : va_S (fun _ => False) s.heap s.heap [] := va_S.rf
  have hl := lv_entry ([.ref a_hist, .int p1]) (n := 2) (Nat.le_of_ble_eq_true rfl)
  rw [lg_entry_eq]
  generalize (lg_sl ([.ref a_hist, .int p1]) ++ List.replicate (2 - (lg_sl ([.ref a_hist, .int p1])).length) Slot.unset).toArray = ls at hl ⊢
  have hl : lv_has ls 2 [(0, .ref a_hist), (1, .int p1)] := hl
  have hf := hf0
  unfold fX2_lastWereAccepted at hf
  refine lv_aload_n hx hb dX2_lastWereAccepted_0 rfl (lv_at hl 0 rfl) ?_
  refine va_get (D := X.1) (ci := 1) (v := .int hist_length) (C := RX2) (T := TX2) (N := 3) hx hb hts iwX2_lastWereAccepted_X2 hown hK hP 0 rfl rfl 2 (by decide) (hts _ lkX2_lastWereAccepted_1) (fun _ h9 => h9) rfl dX2_lastWereAccepted_1 ?_
  refine lv_iload_n hx hb dX2_lastWereAccepted_4 rfl (lv_at hl 1 rfl) ?_
  refine lv_icmp_lt (tgt := 20) hx hb dX2_lastWereAccepted_5 (by decide) (fun c_1 => ?_) (fun c_1 => ?_)
  · rw [if_pos c_1] at hf
    refine lv_iconst (v := 0) hx hb dX2_lastWereAccepted_20 (by decide) ?_
    obtain rfl := Option.some.inj hf
    exact W.zret hx hb hr rfl (fun t ht hW => ⟨_, rfl, rfl, ht⟩) (fun _ h => by cases h) dX2_lastWereAccepted_21
  · rw [if_neg c_1] at hf
    refine lv_aload_n hx hb dX2_lastWereAccepted_8 rfl (lv_at hl 0 rfl) ?_
    refine lv_iload_n hx hb dX2_lastWereAccepted_9 rfl (lv_at hl 1 rfl) ?_
    obtain ⟨r_2, e_3, hf⟩ := bind_some hf
    refine vp_callSi (W.runV (As := [.int p1]) (rest := []) ⟨hx, hb, hml, hown, hts⟩ (mX2_refusedInLast l X N a_hist a_hr a_hb hist_length hr_f hb_f p1 r_2 e_3) (cwV 1 hts gX2_lastWereAccepted_X2_refusedInLast rfl rfl rfl (by decide +kernel) ⟨Nat.le_of_ble_eq_true rfl, Nat.le_of_ble_eq_true rfl⟩) (rPreV hK hP hSt hS [0, 1, 2] rfl 0 rfl rfl) rfl rfl hl.1 rfl (lv_room (Nat.le_of_ble_eq_true rfl)) dX2_lastWereAccepted_10 ⟨Nat.zero_le _, Nat.zero_le _⟩) (fun v9 e9 => ?_)
    rw [e9]
    refine lv_if_ne (tgt := 20) hx hb dX2_lastWereAccepted_13 (by decide) (fun c_4 => ?_) (fun c_4 => ?_)
    · rw [if_neg c_4] at hf
      refine lv_iconst (v := 0) hx hb dX2_lastWereAccepted_20 (by decide) ?_
      obtain rfl := Option.some.inj hf
      exact W.zret hx hb hr rfl (fun t ht hW => ⟨_, rfl, rfl, ht⟩) (fun _ h => by cases h) dX2_lastWereAccepted_21
    · rw [if_pos c_4] at hf
      refine lv_iconst (v := 1) hx hb dX2_lastWereAccepted_16 (by decide) ?_
      refine lv_goto (tgt := 21) hx hb dX2_lastWereAccepted_17 (by decide) ?_
      obtain rfl := Option.some.inj hf
      exact W.zret hx hb hr rfl (fun t ht hW => ⟨_, rfl, rfl, ht⟩) (fun _ h => by cases h) dX2_lastWereAccepted_21
def rmX0_behindNormal : Room := { frames := 2, cells := 0, slots := 0, locals := 45 }
theorem iwX0_behindNormal_X0 : ∀ w ∈ wsX00, w ∈ wsX0_behindNormal := fun w h => List.mem_cons_of_mem _ (List.mem_append_left _ (List.mem_append_right _ (h)))
theorem lkX0_behindNormal_1 : Cond.fieldLink RX0 12 "InspectionOffice$Course" "history" "LInspectionOffice$History;" ∈ wsX0_behindNormal := List.mem_of_getElem? (i := 1) rfl
theorem lkX0_behindNormal_2 : Cond.fieldLink RX0 97 "InspectionOffice$Course" "steady" "Z" ∈ wsX0_behindNormal := List.mem_of_getElem? (i := 2) rfl
set_option maxHeartbeats 4000000 in
set_option maxRecDepth 100000 in
theorem mX0_behindNormal (l : Launch) (X : cxT) (N : Nat) (a_course a_hist a_hr a_hb : Nat) (course_steady : Int32) (course_rate : Int32) (course_state : Int32) (course_skipping : Int32) (course_changedAt : Int32) (course_acceptedInRow : Int32) (course_passedInGroup : Int32) (hist_length : Int32) (hr_f : Nat → Int32) (hb_f : Nat → Int32) (r : Int32) (hf0 : fX0_behindNormal N course_steady hist_length hr_f hb_f = some r) : Met l yX0_behindNormal wsX0_behindNormal rmX0_behindNormal (rPre X [(a_course, .inr (0, [.int course_steady, .int course_rate, .int course_state, .int course_skipping, .ref a_hist, .int course_changedAt, .int course_acceptedInRow, .int course_passedInGroup])), (a_hist, .inr (1, [.ref a_hr, .ref a_hb, .int hist_length])), (a_hr, .inl (X.2 2, 60, .inl hr_f)), (a_hb, .inl (X.2 0, 60, .inl hb_f))] [.ref a_course]) (vp_Si (fun v : Int32 => v = r)) 0 0 (fun _ => False) := by
  refine Met.ofW (cc := cX0_behindNormal) (maxL := 2) (ret := (some .int)) (by decide) rfl ?_
  intro p e s m args below meth c s₁ B hml hv
  obtain ⟨rfl, hP, hK, hSt⟩ := hv
  have hx := B.exec
  have hb := B.bytes
  have hr := B.returns
  have hts := atoms_spec (ws := wsX0_behindNormal) B.pre
  have hown : s.vm.findClass RX0 = some m.cls := findClass_of_methodNamed B.named
  have hlocks := B.notSynchronized
  have hS : va_S (fun _ => False) s.heap s.heap [] := va_S.rf
  have hl := lv_entry ([.ref a_course]) (n := 2) (Nat.le_of_ble_eq_true rfl)
  rw [lg_entry_eq]
  generalize (lg_sl ([.ref a_course]) ++ List.replicate (2 - (lg_sl ([.ref a_course])).length) Slot.unset).toArray = ls at hl ⊢
  have hl : lv_has ls 2 [(0, .ref a_course)] := hl
  have B44 : (∀ (y0 : Int32), fX0_behindNormal_b44 N course_steady hist_length hr_f hb_f y0 = some r → ∀ ls : Array Slot, lv_has ls 2 [(0, .ref a_course)] → W p l e (headSpec wsX0_behindNormal rmX0_behindNormal).room s m (([.ref a_course] : List Value).toArray) below meth c s.heap [] 0 0 (MQ below (vp_Si (fun v : Int32 => v = r)) ([.ref a_course] : List Value).toArray s 0 0 (fun _ => False)) (F0 m 44 ls [.int y0])) := by
    intro y0 hf ls hl
    unfold fX0_behindNormal_b44 at hf
    refine lv_istore_n (lv' := [(1, .int y0), (0, .ref a_course)]) hx hb dX0_behindNormal_44 rfl hl (by decide) rfl (fun ls hl => ?_)
    refine lv_iload_n hx hb dX0_behindNormal_45 rfl (lv_at hl 0 rfl) ?_
    refine lv_if_eq (tgt := 60) hx hb dX0_behindNormal_46 (by decide) (fun c_1 => ?_) (fun c_1 => ?_)
    · rw [if_pos c_1] at hf
      refine lv_iconst (v := 0) hx hb dX0_behindNormal_60 (by decide) ?_
      obtain rfl := Option.some.inj hf
      exact W.iret hx hb hr (fun t ht hW => ⟨_, rfl, rfl, ht⟩) (fun _ h => by cases h) dX0_behindNormal_61
    · rw [if_neg c_1] at hf
      refine lv_aload_n hx hb dX0_behindNormal_49 rfl (lv_at hl 1 rfl) ?_
      refine va_get (D := X.1) (ci := 0) (v := .int course_steady) (C := RX0) (T := TX0) (N := 8) hx hb hts iwX0_behindNormal_X0 hown hK hP 0 rfl rfl 0 (by decide) (hts _ lkX0_behindNormal_2) (fun _ h9 => h9) rfl dX0_behindNormal_50 ?_
      refine lv_if_eq (tgt := 60) hx hb dX0_behindNormal_53 (by decide) (fun c_2 => ?_) (fun c_2 => ?_)
      · rw [if_pos c_2] at hf
        refine lv_iconst (v := 0) hx hb dX0_behindNormal_60 (by decide) ?_
        obtain rfl := Option.some.inj hf
        exact W.iret hx hb hr (fun t ht hW => ⟨_, rfl, rfl, ht⟩) (fun _ h => by cases h) dX0_behindNormal_61
      · rw [if_neg c_2] at hf
        refine lv_iconst (v := 2) hx hb dX0_behindNormal_56 (by decide) ?_
        refine lv_goto (tgt := 61) hx hb dX0_behindNormal_57 (by decide) ?_
        obtain rfl := Option.some.inj hf
        exact W.iret hx hb hr (fun t ht hW => ⟨_, rfl, rfl, ht⟩) (fun _ h => by cases h) dX0_behindNormal_61
  have B43 : (fX0_behindNormal_b43 N course_steady hist_length hr_f hb_f  = some r → ∀ ls : Array Slot, lv_has ls 2 [(0, .ref a_course)] → W p l e (headSpec wsX0_behindNormal rmX0_behindNormal).room s m (([.ref a_course] : List Value).toArray) below meth c s.heap [] 0 0 (MQ below (vp_Si (fun v : Int32 => v = r)) ([.ref a_course] : List Value).toArray s 0 0 (fun _ => False)) (F0 m 43 ls [])) := by
    intro hf ls hl
    unfold fX0_behindNormal_b43 at hf
    refine lv_iconst (v := 0) hx hb dX0_behindNormal_43 (by decide) ?_
    exact B44 0 hf ls (lv_sub hl [0] rfl)
  have hf := hf0
  unfold fX0_behindNormal at hf
  refine lv_aload_n hx hb dX0_behindNormal_0 rfl (lv_at hl 0 rfl) ?_
  refine va_get (D := X.1) (ci := 0) (v := .ref a_hist) (C := RX0) (T := TX0) (N := 8) hx hb hts iwX0_behindNormal_X0 hown hK hP 0 rfl rfl 4 (by decide) (hts _ lkX0_behindNormal_1) (fun _ h9 => h9) rfl dX0_behindNormal_1 ?_
  refine lv_iconst (v := 5) hx hb dX0_behindNormal_4 (by decide) ?_
  obtain ⟨r_3, e_4, hf⟩ := bind_some hf
  refine vp_callSi (W.runV (As := [.int 5]) (rest := []) ⟨hx, hb, hml, hown, hts⟩ (mX2_refusedInLast l X N a_hist a_hr a_hb hist_length hr_f hb_f 5 r_3 e_4) (cwV 1 hts gX0_behindNormal_X2_refusedInLast rfl rfl rfl (by decide +kernel) ⟨Nat.le_of_ble_eq_true rfl, Nat.le_of_ble_eq_true rfl⟩) (rPreV hK hP hSt hS [1, 2, 3] rfl 1 rfl rfl) rfl rfl hl.1 rfl (lv_room (Nat.le_of_ble_eq_true rfl)) dX0_behindNormal_5 ⟨Nat.zero_le _, Nat.zero_le _⟩) (fun v9 e9 => ?_)
  rw [e9]
  refine lv_iconst (v := 2) hx hb dX0_behindNormal_8 (by decide) ?_
  refine lv_icmp_lt (tgt := 14) hx hb dX0_behindNormal_9 (by decide) (fun c_5 => ?_) (fun c_5 => ?_)
  · rw [if_pos c_5] at hf
    refine lv_aload_n hx hb dX0_behindNormal_14 rfl (lv_at hl 0 rfl) ?_
    refine va_get (D := X.1) (ci := 0) (v := .ref a_hist) (C := RX0) (T := TX0) (N := 8) hx hb hts iwX0_behindNormal_X0 hown hK hP 0 rfl rfl 4 (by decide) (hts _ lkX0_behindNormal_1) (fun _ h9 => h9) rfl dX0_behindNormal_15 ?_
    refine lv_bipush (v := 10) hx hb dX0_behindNormal_18 (by decide) ?_
    obtain ⟨r_6, e_7, hf⟩ := bind_some hf
    refine vp_callSi (W.runV (As := [.int 10]) (rest := []) ⟨hx, hb, hml, hown, hts⟩ (mX2_lastWereAccepted l X N a_hist a_hr a_hb hist_length hr_f hb_f 10 r_6 e_7) (cwV 1 hts gX0_behindNormal_X2_lastWereAccepted rfl rfl rfl (by decide +kernel) ⟨Nat.le_of_ble_eq_true rfl, Nat.le_of_ble_eq_true rfl⟩) (rPreV hK hP hSt hS [1, 2, 3] rfl 1 rfl rfl) rfl rfl hl.1 rfl (lv_room (Nat.le_of_ble_eq_true rfl)) dX0_behindNormal_20 ⟨Nat.zero_le _, Nat.zero_le _⟩) (fun v9 e9 => ?_)
    rw [e9]
    refine lv_if_eq (tgt := 43) hx hb dX0_behindNormal_23 (by decide) (fun c_8 => ?_) (fun c_8 => ?_)
    · rw [if_pos c_8] at hf
      exact B43  hf ls (lv_sub hl [0] rfl)
    · rw [if_neg c_8] at hf
      refine lv_aload_n hx hb dX0_behindNormal_26 rfl (lv_at hl 0 rfl) ?_
      refine va_get (D := X.1) (ci := 0) (v := .ref a_hist) (C := RX0) (T := TX0) (N := 8) hx hb hts iwX0_behindNormal_X0 hown hK hP 0 rfl rfl 4 (by decide) (hts _ lkX0_behindNormal_1) (fun _ h9 => h9) rfl dX0_behindNormal_27 ?_
      refine lv_bipush (v := 10) hx hb dX0_behindNormal_30 (by decide) ?_
      obtain ⟨r_9, e_10, hf⟩ := bind_some hf
      refine vp_callSi (W.runV (As := [.int 10]) (rest := []) ⟨hx, hb, hml, hown, hts⟩ (mX2_badInLast l X N a_hist a_hr a_hb hist_length hr_f hb_f 10 r_9 e_10) (cwV 1 hts gX0_behindNormal_X2_badInLast rfl rfl rfl (by decide +kernel) ⟨Nat.le_of_ble_eq_true rfl, Nat.le_of_ble_eq_true rfl⟩) (rPreV hK hP hSt hS [1, 2, 3] rfl 1 rfl rfl) rfl rfl hl.1 rfl (lv_room (Nat.le_of_ble_eq_true rfl)) dX0_behindNormal_32 ⟨Nat.zero_le _, Nat.zero_le _⟩) (fun v9 e9 => ?_)
      rw [e9]
      refine lv_iconst (v := 4) hx hb dX0_behindNormal_35 (by decide) ?_
      refine lv_icmp_gt (tgt := 43) hx hb dX0_behindNormal_36 (by decide) (fun c_11 => ?_) (fun c_11 => ?_)
      · rw [if_pos c_11] at hf
        exact B43  hf ls (lv_sub hl [0] rfl)
      · rw [if_neg c_11] at hf
        refine lv_iconst (v := 1) hx hb dX0_behindNormal_39 (by decide) ?_
        refine lv_goto (tgt := 44) hx hb dX0_behindNormal_40 (by decide) ?_
        exact B44 1 hf ls (lv_sub hl [0] rfl)
  · rw [if_neg c_5] at hf
    refine lv_iconst (v := 1) hx hb dX0_behindNormal_12 (by decide) ?_
    obtain rfl := Option.some.inj hf
    exact W.iret hx hb hr (fun t ht hW => ⟨_, rfl, rfl, ht⟩) (fun _ h => by cases h) dX0_behindNormal_13
def rmX0_behindTightened : Room := { frames := 2, cells := 0, slots := 0, locals := 45 }
theorem iwX0_behindTightened_X0 : ∀ w ∈ wsX00, w ∈ wsX0_behindTightened := fun w h => List.mem_cons_of_mem _ (List.mem_append_left _ (List.mem_append_right _ (h)))
theorem lkX0_behindTightened_1 : Cond.fieldLink RX0 12 "InspectionOffice$Course" "history" "LInspectionOffice$History;" ∈ wsX0_behindTightened := List.mem_of_getElem? (i := 1) rfl
set_option maxHeartbeats 4000000 in
set_option maxRecDepth 100000 in
theorem mX0_behindTightened (l : Launch) (X : cxT) (N : Nat) (a_course a_hist a_hr a_hb : Nat) (course_steady : Int32) (course_rate : Int32) (course_state : Int32) (course_skipping : Int32) (course_changedAt : Int32) (course_acceptedInRow : Int32) (course_passedInGroup : Int32) (hist_length : Int32) (hr_f : Nat → Int32) (hb_f : Nat → Int32) (r : Int32) (hf0 : fX0_behindTightened N hist_length hr_f = some r) : Met l yX0_behindTightened wsX0_behindTightened rmX0_behindTightened (rPre X [(a_course, .inr (0, [.int course_steady, .int course_rate, .int course_state, .int course_skipping, .ref a_hist, .int course_changedAt, .int course_acceptedInRow, .int course_passedInGroup])), (a_hist, .inr (1, [.ref a_hr, .ref a_hb, .int hist_length])), (a_hr, .inl (X.2 2, 60, .inl hr_f)), (a_hb, .inl (X.2 0, 60, .inl hb_f))] [.ref a_course]) (vp_Si (fun v : Int32 => v = r)) 0 0 (fun _ => False) := by
  refine Met.ofW (cc := cX0_behindTightened) (maxL := 1) (ret := (some .int)) (by decide) rfl ?_
  intro p e s m args below meth c s₁ B hml hv
  obtain ⟨rfl, hP, hK, hSt⟩ := hv
  have hx := B.exec
  have hb := B.bytes
  have hr := B.returns
  have hts := atoms_spec (ws := wsX0_behindTightened) B.pre
  have hown : s.vm.findClass RX0 = some m.cls := findClass_of_methodNamed B.named
  have hlocks := B.notSynchronized
  have hS : va_S (fun _ => False) s.heap s.heap [] := va_S.rf
  have hl := lv_entry ([.ref a_course]) (n := 1) (Nat.le_of_ble_eq_true rfl)
  rw [lg_entry_eq]
  generalize (lg_sl ([.ref a_course]) ++ List.replicate (1 - (lg_sl ([.ref a_course])).length) Slot.unset).toArray = ls at hl ⊢
  have hl : lv_has ls 1 [(0, .ref a_course)] := hl
  have hf := hf0
  unfold fX0_behindTightened at hf
  refine lv_aload_n hx hb dX0_behindTightened_0 rfl (lv_at hl 0 rfl) ?_
  refine va_get (D := X.1) (ci := 0) (v := .ref a_hist) (C := RX0) (T := TX0) (N := 8) hx hb hts iwX0_behindTightened_X0 hown hK hP 0 rfl rfl 4 (by decide) (hts _ lkX0_behindTightened_1) (fun _ h9 => h9) rfl dX0_behindTightened_1 ?_
  refine lv_iconst (v := 5) hx hb dX0_behindTightened_4 (by decide) ?_
  obtain ⟨r_1, e_2, hf⟩ := bind_some hf
  refine vp_callSi (W.runV (As := [.int 5]) (rest := []) ⟨hx, hb, hml, hown, hts⟩ (mX2_lastWereAccepted l X N a_hist a_hr a_hb hist_length hr_f hb_f 5 r_1 e_2) (cwV 1 hts gX0_behindTightened_X2_lastWereAccepted rfl rfl rfl (by decide +kernel) ⟨Nat.le_of_ble_eq_true rfl, Nat.le_of_ble_eq_true rfl⟩) (rPreV hK hP hSt hS [1, 2, 3] rfl 1 rfl rfl) rfl rfl hl.1 rfl (lv_room (Nat.le_of_ble_eq_true rfl)) dX0_behindTightened_5 ⟨Nat.zero_le _, Nat.zero_le _⟩) (fun v9 e9 => ?_)
  rw [e9]
  refine lv_if_eq (tgt := 13) hx hb dX0_behindTightened_8 (by decide) (fun c_3 => ?_) (fun c_3 => ?_)
  · rw [if_pos c_3] at hf
    refine lv_aload_n hx hb dX0_behindTightened_13 rfl (lv_at hl 0 rfl) ?_
    refine va_get (D := X.1) (ci := 0) (v := .ref a_hist) (C := RX0) (T := TX0) (N := 8) hx hb hts iwX0_behindTightened_X0 hown hK hP 0 rfl rfl 4 (by decide) (hts _ lkX0_behindTightened_1) (fun _ h9 => h9) rfl dX0_behindTightened_14 ?_
    refine lv_bipush (v := 60) hx hb dX0_behindTightened_17 (by decide) ?_
    obtain ⟨r_4, e_5, hf⟩ := bind_some hf
    refine vp_callSi (W.runV (As := [.int 60]) (rest := []) ⟨hx, hb, hml, hown, hts⟩ (mX2_refusedInLast l X N a_hist a_hr a_hb hist_length hr_f hb_f 60 r_4 e_5) (cwV 1 hts gX0_behindTightened_X2_refusedInLast rfl rfl rfl (by decide +kernel) ⟨Nat.le_of_ble_eq_true rfl, Nat.le_of_ble_eq_true rfl⟩) (rPreV hK hP hSt hS [1, 2, 3] rfl 1 rfl rfl) rfl rfl hl.1 rfl (lv_room (Nat.le_of_ble_eq_true rfl)) dX0_behindTightened_19 ⟨Nat.zero_le _, Nat.zero_le _⟩) (fun v9 e9 => ?_)
    rw [e9]
    refine lv_iconst (v := 5) hx hb dX0_behindTightened_22 (by decide) ?_
    refine lv_icmp_lt (tgt := 30) hx hb dX0_behindTightened_23 (by decide) (fun c_6 => ?_) (fun c_6 => ?_)
    · rw [if_pos c_6] at hf
      refine lv_iconst (v := 1) hx hb dX0_behindTightened_30 (by decide) ?_
      obtain rfl := Option.some.inj hf
      exact W.iret hx hb hr (fun t ht hW => ⟨_, rfl, rfl, ht⟩) (fun _ h => by cases h) dX0_behindTightened_31
    · rw [if_neg c_6] at hf
      refine lv_iconst (v := 3) hx hb dX0_behindTightened_26 (by decide) ?_
      refine lv_goto (tgt := 31) hx hb dX0_behindTightened_27 (by decide) ?_
      obtain rfl := Option.some.inj hf
      exact W.iret hx hb hr (fun t ht hW => ⟨_, rfl, rfl, ht⟩) (fun _ h => by cases h) dX0_behindTightened_31
  · rw [if_neg c_3] at hf
    refine lv_iconst (v := 0) hx hb dX0_behindTightened_11 (by decide) ?_
    obtain rfl := Option.some.inj hf
    exact W.iret hx hb hr (fun t ht hW => ⟨_, rfl, rfl, ht⟩) (fun _ h => by cases h) dX0_behindTightened_12
def rmX0_nextBehind : Room := { frames := 3, cells := 0, slots := 0, locals := 70 }
theorem iwX0_nextBehind_X0 : ∀ w ∈ wsX00, w ∈ wsX0_nextBehind := fun w h => List.mem_cons_of_mem _ (List.mem_append_left _ (List.mem_append_left _ (List.mem_append_left _ (List.mem_append_right _ (h)))))
theorem iwX0_nextBehind_X3 : ∀ w ∈ wsX30, w ∈ wsX0_nextBehind := fun w h => List.mem_cons_of_mem _ (List.mem_append_left _ (List.mem_append_left _ (List.mem_append_right _ (h))))
theorem lkX0_nextBehind_1 : Cond.fieldLink RX0 30 "InspectionOffice$Course" "state" "I" ∈ wsX0_nextBehind := List.mem_of_getElem? (i := 1) rfl
theorem lkX0_nextBehind_2 : Cond.fieldLink RX0 76 "InspectionOffice$Lot" "bad" "I" ∈ wsX0_nextBehind := List.mem_of_getElem? (i := 2) rfl
theorem lkX0_nextBehind_3 : Cond.fieldLink RX0 79 "InspectionOffice$Lot" "size" "I" ∈ wsX0_nextBehind := List.mem_of_getElem? (i := 3) rfl
set_option maxHeartbeats 4000000 in
set_option maxRecDepth 100000 in
theorem mX0_nextBehind (l : Launch) (X : cxT) (N : Nat) (a_course a_hist a_hr a_hb a_plans a_lot : Nat) (course_steady : Int32) (course_rate : Int32) (course_state : Int32) (course_skipping : Int32) (course_changedAt : Int32) (course_acceptedInRow : Int32) (course_passedInGroup : Int32) (hist_length : Int32) (hr_f : Nat → Int32) (hb_f : Nat → Int32) (plans_level : Int32) (plans_quality : Int32) (plans_twice : Int32) (lot_order : Int32) (lot_size : Int32) (lot_findings : Int64) (lot_verdict : Int32) (lot_state : Int32) (lot_inspected : Int32) (lot_bad : Int32) (r : Int32) (hf0 : fX0_nextBehind N course_steady course_state hist_length hr_f hb_f plans_level plans_quality lot_size lot_bad = some r) : Met l yX0_nextBehind wsX0_nextBehind rmX0_nextBehind (rPre X [(a_course, .inr (0, [.int course_steady, .int course_rate, .int course_state, .int course_skipping, .ref a_hist, .int course_changedAt, .int course_acceptedInRow, .int course_passedInGroup])), (a_hist, .inr (1, [.ref a_hr, .ref a_hb, .int hist_length])), (a_hr, .inl (X.2 2, 60, .inl hr_f)), (a_hb, .inl (X.2 0, 60, .inl hb_f)), (a_plans, .inr (3, [.int plans_level, .int plans_quality, .int plans_twice])), (a_lot, .inr (2, [.int lot_order, .int lot_size, .long lot_findings, .int lot_verdict, .int lot_state, .int lot_inspected, .int lot_bad]))] [.ref a_course, .ref a_lot, .ref a_plans]) (vp_Si (fun v : Int32 => v = r)) 0 0 (fun _ => False) := by
  refine Met.ofW (cc := cX0_nextBehind) (maxL := 4) (ret := (some .int)) (by decide) rfl ?_
  intro p e s m args below meth c s₁ B hml hv
  obtain ⟨rfl, hP, hK, hSt⟩ := hv
  have hx := B.exec
  have hb := B.bytes
  have hr := B.returns
  have hts := atoms_spec (ws := wsX0_nextBehind) B.pre
  have hown : s.vm.findClass RX0 = some m.cls := findClass_of_methodNamed B.named
  have hlocks := B.notSynchronized
  have hS : va_S (fun _ => False) s.heap s.heap [] := va_S.rf
  have hl := lv_entry ([.ref a_course, .ref a_lot, .ref a_plans]) (n := 4) (Nat.le_of_ble_eq_true rfl)
  rw [lg_entry_eq]
  generalize (lg_sl ([.ref a_course, .ref a_lot, .ref a_plans]) ++ List.replicate (4 - (lg_sl ([.ref a_course, .ref a_lot, .ref a_plans])).length) Slot.unset).toArray = ls at hl ⊢
  have hl : lv_has ls 4 [(0, .ref a_course), (1, .ref a_lot), (2, .ref a_plans)] := hl
  have B46 : (∀ (y0 : Int32), fX0_nextBehind_b46 N course_steady course_state hist_length hr_f hb_f plans_level plans_quality lot_size lot_bad y0 = some r → ∀ ls : Array Slot, lv_has ls 4 [] → W p l e (headSpec wsX0_nextBehind rmX0_nextBehind).room s m (([.ref a_course, .ref a_lot, .ref a_plans] : List Value).toArray) below meth c s.heap [] 0 0 (MQ below (vp_Si (fun v : Int32 => v = r)) ([.ref a_course, .ref a_lot, .ref a_plans] : List Value).toArray s 0 0 (fun _ => False)) (F0 m 46 ls [.int y0])) := by
    intro y0 hf ls hl
    unfold fX0_nextBehind_b46 at hf
    refine lv_istore_n (lv' := [(3, .int y0)]) hx hb dX0_nextBehind_46 rfl hl (by decide) rfl (fun ls hl => ?_)
    refine lv_iload_n hx hb dX0_nextBehind_47 rfl (lv_at hl 0 rfl) ?_
    refine lv_if_eq (tgt := 55) hx hb dX0_nextBehind_48 (by decide) (fun c_1 => ?_) (fun c_1 => ?_)
    · rw [if_pos c_1] at hf
      refine lv_iconst (v := 2) hx hb dX0_nextBehind_55 (by decide) ?_
      obtain rfl := Option.some.inj hf
      exact W.iret hx hb hr (fun t ht hW => ⟨_, rfl, rfl, ht⟩) (fun _ h => by cases h) dX0_nextBehind_56
    · rw [if_neg c_1] at hf
      refine lv_iconst (v := 0) hx hb dX0_nextBehind_51 (by decide) ?_
      refine lv_goto (tgt := 56) hx hb dX0_nextBehind_52 (by decide) ?_
      obtain rfl := Option.some.inj hf
      exact W.iret hx hb hr (fun t ht hW => ⟨_, rfl, rfl, ht⟩) (fun _ h => by cases h) dX0_nextBehind_56
  have hf := hf0
  unfold fX0_nextBehind at hf
  refine lv_aload_n hx hb dX0_nextBehind_0 rfl (lv_at hl 0 rfl) ?_
  refine va_get (D := X.1) (ci := 0) (v := .int course_state) (C := RX0) (T := TX0) (N := 8) hx hb hts iwX0_nextBehind_X0 hown hK hP 0 rfl rfl 2 (by decide) (hts _ lkX0_nextBehind_1) (fun _ h9 => h9) rfl dX0_nextBehind_1 ?_
  refine lv_if_ne (tgt := 12) hx hb dX0_nextBehind_4 (by decide) (fun c_2 => ?_) (fun c_2 => ?_)
  · rw [if_neg c_2] at hf
    refine lv_aload_n hx hb dX0_nextBehind_12 rfl (lv_at hl 0 rfl) ?_
    refine va_get (D := X.1) (ci := 0) (v := .int course_state) (C := RX0) (T := TX0) (N := 8) hx hb hts iwX0_nextBehind_X0 hown hK hP 0 rfl rfl 2 (by decide) (hts _ lkX0_nextBehind_1) (fun _ h9 => h9) rfl dX0_nextBehind_13 ?_
    refine lv_iconst (v := 1) hx hb dX0_nextBehind_16 (by decide) ?_
    refine lv_icmp_ne (tgt := 25) hx hb dX0_nextBehind_17 (by decide) (fun c_3 => ?_) (fun c_3 => ?_)
    · rw [if_neg c_3] at hf
      refine lv_aload_n hx hb dX0_nextBehind_25 rfl (lv_at hl 1 rfl) ?_
      refine va_get (D := X.1) (ci := 2) (v := .int lot_bad) (C := RX3) (T := TX3) (N := 7) hx hb hts iwX0_nextBehind_X3 hown hK hP 5 rfl rfl 6 (by decide) (hts _ lkX0_nextBehind_2) (fun _ h9 => h9) rfl dX0_nextBehind_26 ?_
      refine lv_aload_n hx hb dX0_nextBehind_29 rfl (lv_at hl 2 rfl) ?_
      refine lv_aload_n hx hb dX0_nextBehind_30 rfl (lv_at hl 1 rfl) ?_
      refine va_get (D := X.1) (ci := 2) (v := .int lot_size) (C := RX3) (T := TX3) (N := 7) hx hb hts iwX0_nextBehind_X3 hown hK hP 5 rfl rfl 1 (by decide) (hts _ lkX0_nextBehind_3) (fun _ h9 => h9) rfl dX0_nextBehind_31 ?_
      refine lv_iconst (v := 2) hx hb dX0_nextBehind_34 (by decide) ?_
      obtain ⟨r_4, e_5, hf⟩ := bind_some hf
      refine vp_callSi (W.runV (As := [.int lot_size, .int 2]) (rest := [.int lot_bad]) ⟨hx, hb, hml, hown, hts⟩ (mX4_acceptingUnder l X N a_plans plans_level plans_quality plans_twice lot_size 2 r_4 e_5) (cwV 2 hts gX0_nextBehind_X4_acceptingUnder rfl rfl rfl (by decide +kernel) ⟨Nat.le_of_ble_eq_true rfl, Nat.le_of_ble_eq_true rfl⟩) (rPreV hK hP hSt hS [4] rfl 4 rfl rfl) rfl rfl hl.1 rfl (lv_room (Nat.le_of_ble_eq_true rfl)) dX0_nextBehind_35 ⟨Nat.zero_le _, Nat.zero_le _⟩) (fun v9 e9 => ?_)
      rw [e9]
      refine lv_icmp_le (tgt := 45) hx hb dX0_nextBehind_38 (by decide) (fun c_6 => ?_) (fun c_6 => ?_)
      · rw [if_pos c_6] at hf
        refine lv_iconst (v := 0) hx hb dX0_nextBehind_45 (by decide) ?_
        exact B46 0 hf ls (lv_sub hl [] rfl)
      · rw [if_neg c_6] at hf
        refine lv_iconst (v := 1) hx hb dX0_nextBehind_41 (by decide) ?_
        refine lv_goto (tgt := 46) hx hb dX0_nextBehind_42 (by decide) ?_
        exact B46 1 hf ls (lv_sub hl [] rfl)
    · rw [if_pos c_3] at hf
      refine lv_aload_n hx hb dX0_nextBehind_20 rfl (lv_at hl 0 rfl) ?_
      obtain ⟨r_7, e_8, hf⟩ := bind_some hf
      refine vp_callSi (W.runV (As := []) (rest := []) ⟨hx, hb, hml, hown, hts⟩ (mX0_behindTightened l X N a_course a_hist a_hr a_hb course_steady course_rate course_state course_skipping course_changedAt course_acceptedInRow course_passedInGroup hist_length hr_f hb_f r_7 e_8) (cwV 0 hts gX0_nextBehind_X0_behindTightened rfl rfl rfl (by decide +kernel) ⟨Nat.le_of_ble_eq_true rfl, Nat.le_of_ble_eq_true rfl⟩) (rPreV hK hP hSt hS [0, 1, 2, 3] rfl 0 rfl rfl) rfl rfl hl.1 rfl (lv_room (Nat.le_of_ble_eq_true rfl)) dX0_nextBehind_21 ⟨Nat.zero_le _, Nat.zero_le _⟩) (fun v9 e9 => ?_)
      rw [e9]
      obtain rfl := Option.some.inj hf
      exact W.iret hx hb hr (fun t ht hW => ⟨_, rfl, rfl, ht⟩) (fun _ h => by cases h) dX0_nextBehind_24
  · rw [if_pos c_2] at hf
    refine lv_aload_n hx hb dX0_nextBehind_7 rfl (lv_at hl 0 rfl) ?_
    obtain ⟨r_9, e_10, hf⟩ := bind_some hf
    refine vp_callSi (W.runV (As := []) (rest := []) ⟨hx, hb, hml, hown, hts⟩ (mX0_behindNormal l X N a_course a_hist a_hr a_hb course_steady course_rate course_state course_skipping course_changedAt course_acceptedInRow course_passedInGroup hist_length hr_f hb_f r_9 e_10) (cwV 0 hts gX0_nextBehind_X0_behindNormal rfl rfl rfl (by decide +kernel) ⟨Nat.le_of_ble_eq_true rfl, Nat.le_of_ble_eq_true rfl⟩) (rPreV hK hP hSt hS [0, 1, 2, 3] rfl 0 rfl rfl) rfl rfl hl.1 rfl (lv_room (Nat.le_of_ble_eq_true rfl)) dX0_nextBehind_8 ⟨Nat.zero_le _, Nat.zero_le _⟩) (fun v9 e9 => ?_)
    rw [e9]
    obtain rfl := Option.some.inj hf
    exact W.iret hx hb hr (fun t ht hW => ⟨_, rfl, rfl, ht⟩) (fun _ h => by cases h) dX0_nextBehind_11
def rmX6_place : Room := { frames := 0, cells := 0, slots := 0, locals := 0 }
theorem iwX6_place_X6 : ∀ w ∈ wsX60, w ∈ wsX6_place := fun w h => List.mem_cons_of_mem _ (List.mem_append_right _ (h))
theorem lkX6_place_1 : Cond.fieldLink RX6 62 "InspectionOfficeModel" "many" "I" ∈ wsX6_place := List.mem_of_getElem? (i := 1) rfl
theorem lkX6_place_2 : Cond.fieldLink RX6 20 "InspectionOfficeModel" "orders" "[I" ∈ wsX6_place := List.mem_of_getElem? (i := 2) rfl
set_option maxHeartbeats 4000000 in
set_option maxRecDepth 100000 in
theorem mX6_place (l : Launch) (X : cxT) (N : Nat) (a_model a_mk a_mo a_ms a_mf a_mv a_mt a_mi a_mb a_mr : Nat) (model_level : Int32) (model_quality : Int32) (model_twice : Int32) (model_steady : Int32) (model_rate : Int32) (model_many : Int32) (model_state : Int32) (model_skipping : Int32) (model_since : Int32) (model_thrown : Int32) (mk_f : Nat → Int32) (mo_f : Nat → Int32) (ms_f : Nat → Int32) (mf_f : Nat → Int64) (mv_f : Nat → Int32) (mt_f : Nat → Int32) (mi_f : Nat → Int32) (mb_f : Nat → Int32) (mr_f : Nat → Int32) (p1 : Int32) (r : Int32) (hf0 : fX6_place N p1 model_many mo_f = some r) : Met l yX6_place wsX6_place rmX6_place (rPre X [(a_model, .inr (5, [.int model_level, .int model_quality, .int model_twice, .int model_steady, .int model_rate, .ref a_mk, .int model_many, .ref a_mo, .ref a_ms, .ref a_mf, .ref a_mv, .ref a_mt, .ref a_mi, .ref a_mb, .int model_state, .int model_skipping, .int model_since, .ref a_mr, .int model_thrown])), (a_mk, .inl (X.2 0, 200, .inl mk_f)), (a_mo, .inl (X.2 0, 60, .inl mo_f)), (a_ms, .inl (X.2 0, 60, .inl ms_f)), (a_mf, .inl (X.2 1, 60, .inr (.inl mf_f))), (a_mv, .inl (X.2 0, 60, .inl mv_f)), (a_mt, .inl (X.2 0, 60, .inl mt_f)), (a_mi, .inl (X.2 0, 60, .inl mi_f)), (a_mb, .inl (X.2 0, 60, .inl mb_f)), (a_mr, .inl (X.2 0, 60, .inl mr_f))] [.ref a_model, .int p1]) (vp_Si (fun v : Int32 => v = r)) 0 0 (fun _ => False) := by
  refine Met.ofW (cc := cX6_place) (maxL := 3) (ret := (some .int)) (by decide) rfl ?_
  intro p e s m args below meth c s₁ B hml hv
  obtain ⟨rfl, hP, hK, hSt⟩ := hv
  have hx := B.exec
  have hb := B.bytes
  have hr := B.returns
  have hts := atoms_spec (ws := wsX6_place) B.pre
  have hown : s.vm.findClass RX6 = some m.cls := findClass_of_methodNamed B.named
  have hlocks := B.notSynchronized
  have hS : va_S (fun _ => False) s.heap s.heap [] := va_S.rf
  have hl := lv_entry ([.ref a_model, .int p1]) (n := 3) (Nat.le_of_ble_eq_true rfl)
  rw [lg_entry_eq]
  generalize (lg_sl ([.ref a_model, .int p1]) ++ List.replicate (3 - (lg_sl ([.ref a_model, .int p1])).length) Slot.unset).toArray = ls at hl ⊢
  have hl : lv_has ls 3 [(0, .ref a_model), (1, .int p1)] := hl
  have B2 : ∀ k : Nat, (∀ (x1 : Int32) (x2 : Int32), fX6_place_b2 N model_many mo_f k x1 x2 = some r → ∀ ls : Array Slot, lv_has ls 3 [(0, .ref a_model), (1, .int x1), (2, .int x2)] → W p l e (headSpec wsX6_place rmX6_place).room s m (([.ref a_model, .int p1] : List Value).toArray) below meth c s.heap [] 0 0 (MQ below (vp_Si (fun v : Int32 => v = r)) ([.ref a_model, .int p1] : List Value).toArray s 0 0 (fun _ => False)) (F0 m 2 ls [])) := by
    intro k
    induction k with
    | zero =>
      intro x1 x2 hf ls hl
      exact nomatch (show (none : Option (Int32)) = some r from hf)
    | succ k ih =>
      intro x1 x2 hf ls hl
      unfold fX6_place_b2 at hf
      refine lv_iload_n hx hb dX6_place_2 rfl (lv_at hl 2 rfl) ?_
      refine lv_aload_n hx hb dX6_place_3 rfl (lv_at hl 0 rfl) ?_
      refine va_get (D := X.1) (ci := 5) (v := .int model_many) (C := RX6) (T := TX6) (N := 19) hx hb hts iwX6_place_X6 hown hK hP 0 rfl rfl 6 (by decide) (hts _ lkX6_place_1) (fun _ h9 => h9) rfl dX6_place_4 ?_
      refine lv_icmp_ge (tgt := 26) hx hb dX6_place_7 (by decide) (fun c_1 => ?_) (fun c_1 => ?_)
      · rw [if_pos c_1] at hf
        refine lv_iload_n hx hb dX6_place_26 rfl (lv_at hl 2 rfl) ?_
        obtain rfl := Option.some.inj hf
        exact W.iret hx hb hr (fun t ht hW => ⟨_, rfl, rfl, ht⟩) (fun _ h => by cases h) dX6_place_27
      · rw [if_neg c_1] at hf
        refine lv_aload_n hx hb dX6_place_10 rfl (lv_at hl 0 rfl) ?_
        refine va_get (D := X.1) (ci := 5) (v := .ref a_mo) (C := RX6) (T := TX6) (N := 19) hx hb hts iwX6_place_X6 hown hK hP 0 rfl rfl 7 (by decide) (hts _ lkX6_place_2) (fun _ h9 => h9) rfl dX6_place_11 ?_
        refine lv_iload_n hx hb dX6_place_14 rfl (lv_at hl 2 rfl) ?_
        obtain ⟨g_2, hf⟩ := ite_some hf
        refine va_iald hx hb hK hP 2 0 rfl rfl (i := x2) g_2 dX6_place_15 ?_
        refine lv_iload_n hx hb dX6_place_16 rfl (lv_at hl 1 rfl) ?_
        refine lv_icmp_eq (tgt := 26) hx hb dX6_place_17 (by decide) (fun c_3 => ?_) (fun c_3 => ?_)
        · rw [if_pos c_3] at hf
          refine lv_iload_n hx hb dX6_place_26 rfl (lv_at hl 2 rfl) ?_
          obtain rfl := Option.some.inj hf
          exact W.iret hx hb hr (fun t ht hW => ⟨_, rfl, rfl, ht⟩) (fun _ h => by cases h) dX6_place_27
        · rw [if_neg c_3] at hf
          refine lv_iinc (v := x2 + 1) (lv' := [(2, .int (x2 + 1)), (0, .ref a_model), (1, .int x1)]) hx hb dX6_place_20 hl (k := 2) rfl rfl (by decide) rfl (fun ls hl => ?_)
          refine lv_goto (tgt := 2) hx hb dX6_place_23 (by decide) ?_
          exact ih x1 (x2 + 1) hf ls (lv_sub hl [1, 2, 0] rfl)
  have hf := hf0
  unfold fX6_place at hf
  refine lv_iconst (v := 0) hx hb dX6_place_0 (by decide) ?_
  refine lv_istore_n (lv' := [(2, .int 0), (0, .ref a_model), (1, .int p1)]) hx hb dX6_place_1 rfl hl (by decide) rfl (fun ls hl => ?_)
  exact B2 N p1 0 hf ls (lv_sub hl [1, 2, 0] rfl)
def rmX6_letterOf : Room := { frames := 1, cells := 0, slots := 0, locals := 20 }
theorem iwX6_letterOf_X6 : ∀ w ∈ wsX60, w ∈ wsX6_letterOf := fun w h => List.mem_cons_of_mem _ (List.mem_append_right _ (h))
theorem lkX6_letterOf_1 : Cond.fieldLink RX6 7 "InspectionOfficeModel" "level" "I" ∈ wsX6_letterOf := List.mem_of_getElem? (i := 1) rfl
set_option maxHeartbeats 4000000 in
set_option maxRecDepth 100000 in
theorem mX6_letterOf (l : Launch) (X : cxT) (N : Nat) (a_model a_mk a_mo a_ms a_mf a_mv a_mt a_mi a_mb a_mr : Nat) (model_level : Int32) (model_quality : Int32) (model_twice : Int32) (model_steady : Int32) (model_rate : Int32) (model_many : Int32) (model_state : Int32) (model_skipping : Int32) (model_since : Int32) (model_thrown : Int32) (mk_f : Nat → Int32) (mo_f : Nat → Int32) (ms_f : Nat → Int32) (mf_f : Nat → Int64) (mv_f : Nat → Int32) (mt_f : Nat → Int32) (mi_f : Nat → Int32) (mb_f : Nat → Int32) (mr_f : Nat → Int32) (p1 : Int32) (r : Int32) (hf0 : fX6_letterOf N p1 model_level = some r) : Met l yX6_letterOf wsX6_letterOf rmX6_letterOf (rPre X [(a_model, .inr (5, [.int model_level, .int model_quality, .int model_twice, .int model_steady, .int model_rate, .ref a_mk, .int model_many, .ref a_mo, .ref a_ms, .ref a_mf, .ref a_mv, .ref a_mt, .ref a_mi, .ref a_mb, .int model_state, .int model_skipping, .int model_since, .ref a_mr, .int model_thrown])), (a_mk, .inl (X.2 0, 200, .inl mk_f)), (a_mo, .inl (X.2 0, 60, .inl mo_f)), (a_ms, .inl (X.2 0, 60, .inl ms_f)), (a_mf, .inl (X.2 1, 60, .inr (.inl mf_f))), (a_mv, .inl (X.2 0, 60, .inl mv_f)), (a_mt, .inl (X.2 0, 60, .inl mt_f)), (a_mi, .inl (X.2 0, 60, .inl mi_f)), (a_mb, .inl (X.2 0, 60, .inl mb_f)), (a_mr, .inl (X.2 0, 60, .inl mr_f))] [.ref a_model, .int p1]) (vp_Si (fun v : Int32 => v = r)) 0 0 (fun _ => False) := by
  refine Met.ofW (cc := cX6_letterOf) (maxL := 4) (ret := (some .int)) (by decide) rfl ?_
  intro p e s m args below meth c s₁ B hml hv
  obtain ⟨rfl, hP, hK, hSt⟩ := hv
  have hx := B.exec
  have hb := B.bytes
  have hr := B.returns
  have hts := atoms_spec (ws := wsX6_letterOf) B.pre
  have hown : s.vm.findClass RX6 = some m.cls := findClass_of_methodNamed B.named
  have hlocks := B.notSynchronized
  have hS : va_S (fun _ => False) s.heap s.heap [] := va_S.rf
  have hl := lv_entry ([.ref a_model, .int p1]) (n := 4) (Nat.le_of_ble_eq_true rfl)
  rw [lg_entry_eq]
  generalize (lg_sl ([.ref a_model, .int p1]) ++ List.replicate (4 - (lg_sl ([.ref a_model, .int p1])).length) Slot.unset).toArray = ls at hl ⊢
  have hl : lv_has ls 4 [(0, .ref a_model), (1, .int p1)] := hl
  have B61 : ∀ k : Nat, (∀ (x1 : Int32) (x3 : Int32), fX6_letterOf_b61 N model_level k x1 x3 = some r → ∀ ls : Array Slot, lv_has ls 4 [(1, .int x1), (3, .int x3)] → W p l e (headSpec wsX6_letterOf rmX6_letterOf).room s m (([.ref a_model, .int p1] : List Value).toArray) below meth c s.heap [] 0 0 (MQ below (vp_Si (fun v : Int32 => v = r)) ([.ref a_model, .int p1] : List Value).toArray s 0 0 (fun _ => False)) (F0 m 61 ls [])) := by
    intro k
    induction k with
    | zero =>
      intro x1 x3 hf ls hl
      exact nomatch (show (none : Option (Int32)) = some r from hf)
    | succ k ih =>
      intro x1 x3 hf ls hl
      unfold fX6_letterOf_b61 at hf
      refine lv_iload_n hx hb dX6_letterOf_61 rfl (lv_at hl 1 rfl) ?_
      obtain ⟨r_1, e_2, hf⟩ := bind_some hf
      refine vp_callSi (W.runS (As := [.int x3]) (rest := []) ⟨hx, hb, hml, hown, hts⟩ (mX6_sizeOf l X N x3 r_1 e_2) (va_cwS 1 hts gX6_letterOf_X6_sizeOf rfl rfl rfl (by decide +kernel) ⟨Nat.le_of_ble_eq_true rfl, Nat.le_of_ble_eq_true rfl⟩) (rPreS hK hP hSt hS [] rfl) rfl rfl hl.1 rfl (lv_room (Nat.le_of_ble_eq_true rfl)) dX6_letterOf_62 ⟨Nat.zero_le _, Nat.zero_le _⟩) (fun v9 e9 => ?_)
      rw [e9]
      refine lv_iload_n hx hb dX6_letterOf_65 rfl (lv_at hl 0 rfl) ?_
      refine lv_icmp_le (tgt := 75) hx hb dX6_letterOf_66 (by decide) (fun c_3 => ?_) (fun c_3 => ?_)
      · rw [if_pos c_3] at hf
        refine lv_iload_n hx hb dX6_letterOf_75 rfl (lv_at hl 1 rfl) ?_
        obtain rfl := Option.some.inj hf
        exact W.iret hx hb hr (fun t ht hW => ⟨_, rfl, rfl, ht⟩) (fun _ h => by cases h) dX6_letterOf_76
      · rw [if_neg c_3] at hf
        refine lv_iinc (v := x3 + (-1)) (lv' := [(3, .int (x3 + (-1))), (1, .int x1)]) hx hb dX6_letterOf_69 hl (k := 1) rfl rfl (by decide) rfl (fun ls hl => ?_)
        refine lv_goto (tgt := 61) hx hb dX6_letterOf_72 (by decide) ?_
        exact ih x1 (x3 + (-1)) hf ls (lv_sub hl [1, 0] rfl)
  have B53 : (∀ (x1 : Int32) (y0 : Int32), fX6_letterOf_b53 N model_level x1 y0 = some r → ∀ ls : Array Slot, lv_has ls 4 [(0, .ref a_model), (1, .int x1)] → W p l e (headSpec wsX6_letterOf rmX6_letterOf).room s m (([.ref a_model, .int p1] : List Value).toArray) below meth c s.heap [] 0 0 (MQ below (vp_Si (fun v : Int32 => v = r)) ([.ref a_model, .int p1] : List Value).toArray s 0 0 (fun _ => False)) (F0 m 53 ls [.int y0])) := by
    intro x1 y0 hf ls hl
    unfold fX6_letterOf_b53 at hf
    refine lv_istore_n (lv' := [(2, .int y0), (0, .ref a_model), (1, .int x1)]) hx hb dX6_letterOf_53 rfl hl (by decide) rfl (fun ls hl => ?_)
    refine lv_iload_n hx hb dX6_letterOf_54 rfl (lv_at hl 0 rfl) ?_
    refine lv_aload_n hx hb dX6_letterOf_55 rfl (lv_at hl 1 rfl) ?_
    refine va_get (D := X.1) (ci := 5) (v := .int model_level) (C := RX6) (T := TX6) (N := 19) hx hb hts iwX6_letterOf_X6 hown hK hP 0 rfl rfl 0 (by decide) (hts _ lkX6_letterOf_1) (fun _ h9 => h9) rfl dX6_letterOf_56 ?_
    refine lv_iadd hx hb dX6_letterOf_59 ?_
    refine lv_istore_n (lv' := [(3, .int (y0 + model_level)), (2, .int y0), (0, .ref a_model), (1, .int x1)]) hx hb dX6_letterOf_60 rfl hl (by decide) rfl (fun ls hl => ?_)
    exact B61 N x1 (y0 + model_level) hf ls (lv_sub hl [3, 0] rfl)
  have hf := hf0
  unfold fX6_letterOf at hf
  refine lv_iload_n hx hb dX6_letterOf_0 rfl (lv_at hl 1 rfl) ?_
  refine lv_bipush (v := 8) hx hb dX6_letterOf_1 (by decide) ?_
  refine lv_icmp_gt (tgt := 10) hx hb dX6_letterOf_3 (by decide) (fun c_4 => ?_) (fun c_4 => ?_)
  · rw [if_pos c_4] at hf
    refine lv_iload_n hx hb dX6_letterOf_10 rfl (lv_at hl 1 rfl) ?_
    refine lv_bipush (v := 15) hx hb dX6_letterOf_11 (by decide) ?_
    refine lv_icmp_gt (tgt := 20) hx hb dX6_letterOf_13 (by decide) (fun c_5 => ?_) (fun c_5 => ?_)
    · rw [if_pos c_5] at hf
      refine lv_iload_n hx hb dX6_letterOf_20 rfl (lv_at hl 1 rfl) ?_
      refine lv_bipush (v := 50) hx hb dX6_letterOf_21 (by decide) ?_
      refine lv_icmp_gt (tgt := 30) hx hb dX6_letterOf_23 (by decide) (fun c_6 => ?_) (fun c_6 => ?_)
      · rw [if_pos c_6] at hf
        refine lv_iload_n hx hb dX6_letterOf_30 rfl (lv_at hl 1 rfl) ?_
        refine lv_sipush (v := 150) hx hb dX6_letterOf_31 (by decide) ?_
        refine lv_icmp_gt (tgt := 41) hx hb dX6_letterOf_34 (by decide) (fun c_7 => ?_) (fun c_7 => ?_)
        · rw [if_pos c_7] at hf
          refine lv_iload_n hx hb dX6_letterOf_41 rfl (lv_at hl 1 rfl) ?_
          refine lv_sipush (v := 500) hx hb dX6_letterOf_42 (by decide) ?_
          refine lv_icmp_gt (tgt := 52) hx hb dX6_letterOf_45 (by decide) (fun c_8 => ?_) (fun c_8 => ?_)
          · rw [if_pos c_8] at hf
            refine lv_iconst (v := 5) hx hb dX6_letterOf_52 (by decide) ?_
            exact B53 p1 5 hf ls (lv_sub hl [0, 1] rfl)
          · rw [if_neg c_8] at hf
            refine lv_iconst (v := 4) hx hb dX6_letterOf_48 (by decide) ?_
            refine lv_goto (tgt := 53) hx hb dX6_letterOf_49 (by decide) ?_
            exact B53 p1 4 hf ls (lv_sub hl [0, 1] rfl)
        · rw [if_neg c_7] at hf
          refine lv_iconst (v := 3) hx hb dX6_letterOf_37 (by decide) ?_
          refine lv_goto (tgt := 53) hx hb dX6_letterOf_38 (by decide) ?_
          exact B53 p1 3 hf ls (lv_sub hl [0, 1] rfl)
      · rw [if_neg c_6] at hf
        refine lv_iconst (v := 2) hx hb dX6_letterOf_26 (by decide) ?_
        refine lv_goto (tgt := 53) hx hb dX6_letterOf_27 (by decide) ?_
        exact B53 p1 2 hf ls (lv_sub hl [0, 1] rfl)
    · rw [if_neg c_5] at hf
      refine lv_iconst (v := 1) hx hb dX6_letterOf_16 (by decide) ?_
      refine lv_goto (tgt := 53) hx hb dX6_letterOf_17 (by decide) ?_
      exact B53 p1 1 hf ls (lv_sub hl [0, 1] rfl)
  · rw [if_neg c_4] at hf
    refine lv_iconst (v := 0) hx hb dX6_letterOf_6 (by decide) ?_
    refine lv_goto (tgt := 53) hx hb dX6_letterOf_7 (by decide) ?_
    exact B53 p1 0 hf ls (lv_sub hl [0, 1] rfl)
def rmX6_sampleOf : Room := { frames := 2, cells := 0, slots := 0, locals := 43 }
set_option maxHeartbeats 4000000 in
set_option maxRecDepth 100000 in
theorem mX6_sampleOf (l : Launch) (X : cxT) (N : Nat) (a_model a_mk a_mo a_ms a_mf a_mv a_mt a_mi a_mb a_mr : Nat) (model_level : Int32) (model_quality : Int32) (model_twice : Int32) (model_steady : Int32) (model_rate : Int32) (model_many : Int32) (model_state : Int32) (model_skipping : Int32) (model_since : Int32) (model_thrown : Int32) (mk_f : Nat → Int32) (mo_f : Nat → Int32) (ms_f : Nat → Int32) (mf_f : Nat → Int64) (mv_f : Nat → Int32) (mt_f : Nat → Int32) (mi_f : Nat → Int32) (mb_f : Nat → Int32) (mr_f : Nat → Int32) (p1 : Int32) (p2 : Int32) (r : Int32) (hf0 : fX6_sampleOf N p1 p2 model_level = some r) : Met l yX6_sampleOf wsX6_sampleOf rmX6_sampleOf (rPre X [(a_model, .inr (5, [.int model_level, .int model_quality, .int model_twice, .int model_steady, .int model_rate, .ref a_mk, .int model_many, .ref a_mo, .ref a_ms, .ref a_mf, .ref a_mv, .ref a_mt, .ref a_mi, .ref a_mb, .int model_state, .int model_skipping, .int model_since, .ref a_mr, .int model_thrown])), (a_mk, .inl (X.2 0, 200, .inl mk_f)), (a_mo, .inl (X.2 0, 60, .inl mo_f)), (a_ms, .inl (X.2 0, 60, .inl ms_f)), (a_mf, .inl (X.2 1, 60, .inr (.inl mf_f))), (a_mv, .inl (X.2 0, 60, .inl mv_f)), (a_mt, .inl (X.2 0, 60, .inl mt_f)), (a_mi, .inl (X.2 0, 60, .inl mi_f)), (a_mb, .inl (X.2 0, 60, .inl mb_f)), (a_mr, .inl (X.2 0, 60, .inl mr_f))] [.ref a_model, .int p1, .int p2]) (vp_Si (fun v : Int32 => v = r)) 0 0 (fun _ => False) := by
  refine Met.ofW (cc := cX6_sampleOf) (maxL := 4) (ret := (some .int)) (by decide) rfl ?_
  intro p e s m args below meth c s₁ B hml hv
  obtain ⟨rfl, hP, hK, hSt⟩ := hv
  have hx := B.exec
  have hb := B.bytes
  have hr := B.returns
  have hts := atoms_spec (ws := wsX6_sampleOf) B.pre
  have hown : s.vm.findClass RX6 = some m.cls := findClass_of_methodNamed B.named
  have hlocks := B.notSynchronized
  have hS : va_S (fun _ => False) s.heap s.heap [] := va_S.rf
  have hl := lv_entry ([.ref a_model, .int p1, .int p2]) (n := 4) (Nat.le_of_ble_eq_true rfl)
  rw [lg_entry_eq]
  generalize (lg_sl ([.ref a_model, .int p1, .int p2]) ++ List.replicate (4 - (lg_sl ([.ref a_model, .int p1, .int p2])).length) Slot.unset).toArray = ls at hl ⊢
  have hl : lv_has ls 4 [(0, .ref a_model), (1, .int p1), (2, .int p2)] := hl
  have B26 : (∀ (y0 : Int32), fX6_sampleOf_b26 N model_level y0 = some r → ∀ ls : Array Slot, lv_has ls 4 [] → W p l e (headSpec wsX6_sampleOf rmX6_sampleOf).room s m (([.ref a_model, .int p1, .int p2] : List Value).toArray) below meth c s.heap [] 0 0 (MQ below (vp_Si (fun v : Int32 => v = r)) ([.ref a_model, .int p1, .int p2] : List Value).toArray s 0 0 (fun _ => False)) (F0 m 26 ls [.int y0])) := by
    intro y0 hf ls hl
    unfold fX6_sampleOf_b26 at hf
    obtain ⟨r_2, e_3, hf⟩ := bind_some hf
    refine vp_callSi (W.runS (As := [.int y0]) (rest := []) ⟨hx, hb, hml, hown, hts⟩ (mX6_sizeOf l X N y0 r_2 e_3) (va_cwS 1 hts gX6_sampleOf_X6_sizeOf rfl rfl rfl (by decide +kernel) ⟨Nat.le_of_ble_eq_true rfl, Nat.le_of_ble_eq_true rfl⟩) (rPreS hK hP hSt hS [] rfl) rfl rfl hl.1 rfl (lv_room (Nat.le_of_ble_eq_true rfl)) dX6_sampleOf_26 ⟨Nat.zero_le _, Nat.zero_le _⟩) (fun v9 e9 => ?_)
    rw [e9]
    obtain rfl := Option.some.inj hf
    exact W.iret hx hb hr (fun t ht hW => ⟨_, rfl, rfl, ht⟩) (fun _ h => by cases h) dX6_sampleOf_29
  have B15 : (∀ (y0 : Int32) (y1 : Int32), fX6_sampleOf_b15 N model_level y0 y1 = some r → ∀ ls : Array Slot, lv_has ls 4 [] → W p l e (headSpec wsX6_sampleOf rmX6_sampleOf).room s m (([.ref a_model, .int p1, .int p2] : List Value).toArray) below meth c s.heap [] 0 0 (MQ below (vp_Si (fun v : Int32 => v = r)) ([.ref a_model, .int p1, .int p2] : List Value).toArray s 0 0 (fun _ => False)) (F0 m 15 ls [.int y1, .int y0])) := by
    intro y0 y1 hf ls hl
    unfold fX6_sampleOf_b15 at hf
    refine lv_isub hx hb dX6_sampleOf_15 ?_
    refine lv_istore_n (lv' := [(3, .int (y0 - y1))]) hx hb dX6_sampleOf_16 rfl hl (by decide) rfl (fun ls hl => ?_)
    refine lv_iload_n hx hb dX6_sampleOf_17 rfl (lv_at hl 0 rfl) ?_
    refine lv_if_ge (tgt := 25) hx hb dX6_sampleOf_18 (by decide) (fun c_1 => ?_) (fun c_1 => ?_)
    · rw [if_pos c_1] at hf
      refine lv_iload_n hx hb dX6_sampleOf_25 rfl (lv_at hl 0 rfl) ?_
      exact B26 (y0 - y1) hf ls (lv_sub hl [] rfl)
    · rw [if_neg c_1] at hf
      refine lv_iconst (v := 0) hx hb dX6_sampleOf_21 (by decide) ?_
      refine lv_goto (tgt := 26) hx hb dX6_sampleOf_22 (by decide) ?_
      exact B26 0 hf ls (lv_sub hl [] rfl)
  have hf := hf0
  unfold fX6_sampleOf at hf
  refine lv_aload_n hx hb dX6_sampleOf_0 rfl (lv_at hl 0 rfl) ?_
  refine lv_iload_n hx hb dX6_sampleOf_1 rfl (lv_at hl 1 rfl) ?_
  obtain ⟨r_4, e_5, hf⟩ := bind_some hf
  refine vp_callSi (W.runV (As := [.int p1]) (rest := []) ⟨hx, hb, hml, hown, hts⟩ (mX6_letterOf l X N a_model a_mk a_mo a_ms a_mf a_mv a_mt a_mi a_mb a_mr model_level model_quality model_twice model_steady model_rate model_many model_state model_skipping model_since model_thrown mk_f mo_f ms_f mf_f mv_f mt_f mi_f mb_f mr_f p1 r_4 e_5) (cwV 1 hts gX6_sampleOf_X6_letterOf rfl rfl rfl (by decide +kernel) ⟨Nat.le_of_ble_eq_true rfl, Nat.le_of_ble_eq_true rfl⟩) (rPreV hK hP hSt hS [0, 1, 2, 3, 4, 5, 6, 7, 8, 9] rfl 0 rfl rfl) rfl rfl hl.1 rfl (lv_room (Nat.le_of_ble_eq_true rfl)) dX6_sampleOf_2 ⟨Nat.zero_le _, Nat.zero_le _⟩) (fun v9 e9 => ?_)
  rw [e9]
  refine lv_iload_n hx hb dX6_sampleOf_5 rfl (lv_at hl 2 rfl) ?_
  refine lv_iconst (v := 2) hx hb dX6_sampleOf_6 (by decide) ?_
  refine lv_icmp_ne (tgt := 14) hx hb dX6_sampleOf_7 (by decide) (fun c_6 => ?_) (fun c_6 => ?_)
  · rw [if_neg c_6] at hf
    refine lv_iconst (v := 0) hx hb dX6_sampleOf_14 (by decide) ?_
    exact B15 r_4 0 hf ls (lv_sub hl [] rfl)
  · rw [if_pos c_6] at hf
    refine lv_iconst (v := 2) hx hb dX6_sampleOf_10 (by decide) ?_
    refine lv_goto (tgt := 15) hx hb dX6_sampleOf_11 (by decide) ?_
    exact B15 r_4 2 hf ls (lv_sub hl [] rfl)
def rmX6_acceptingOf : Room := { frames := 2, cells := 0, slots := 0, locals := 43 }
theorem iwX6_acceptingOf_X6 : ∀ w ∈ wsX60, w ∈ wsX6_acceptingOf := fun w h => List.mem_cons_of_mem _ (List.mem_append_right _ (h))
theorem lkX6_acceptingOf_1 : Cond.fieldLink RX6 13 "InspectionOfficeModel" "quality" "I" ∈ wsX6_acceptingOf := List.mem_of_getElem? (i := 1) rfl
set_option maxHeartbeats 4000000 in
set_option maxRecDepth 100000 in
theorem mX6_acceptingOf (l : Launch) (X : cxT) (N : Nat) (a_model a_mk a_mo a_ms a_mf a_mv a_mt a_mi a_mb a_mr : Nat) (model_level : Int32) (model_quality : Int32) (model_twice : Int32) (model_steady : Int32) (model_rate : Int32) (model_many : Int32) (model_state : Int32) (model_skipping : Int32) (model_since : Int32) (model_thrown : Int32) (mk_f : Nat → Int32) (mo_f : Nat → Int32) (ms_f : Nat → Int32) (mf_f : Nat → Int64) (mv_f : Nat → Int32) (mt_f : Nat → Int32) (mi_f : Nat → Int32) (mb_f : Nat → Int32) (mr_f : Nat → Int32) (p1 : Int32) (p2 : Int32) (r : Int32) (hf0 : fX6_acceptingOf N p1 p2 model_level model_quality = some r) : Met l yX6_acceptingOf wsX6_acceptingOf rmX6_acceptingOf (rPre X [(a_model, .inr (5, [.int model_level, .int model_quality, .int model_twice, .int model_steady, .int model_rate, .ref a_mk, .int model_many, .ref a_mo, .ref a_ms, .ref a_mf, .ref a_mv, .ref a_mt, .ref a_mi, .ref a_mb, .int model_state, .int model_skipping, .int model_since, .ref a_mr, .int model_thrown])), (a_mk, .inl (X.2 0, 200, .inl mk_f)), (a_mo, .inl (X.2 0, 60, .inl mo_f)), (a_ms, .inl (X.2 0, 60, .inl ms_f)), (a_mf, .inl (X.2 1, 60, .inr (.inl mf_f))), (a_mv, .inl (X.2 0, 60, .inl mv_f)), (a_mt, .inl (X.2 0, 60, .inl mt_f)), (a_mi, .inl (X.2 0, 60, .inl mi_f)), (a_mb, .inl (X.2 0, 60, .inl mb_f)), (a_mr, .inl (X.2 0, 60, .inl mr_f))] [.ref a_model, .int p1, .int p2]) (vp_Si (fun v : Int32 => v = r)) 0 0 (fun _ => False) := by
  refine Met.ofW (cc := cX6_acceptingOf) (maxL := 4) (ret := (some .int)) (by decide) rfl ?_
  intro p e s m args below meth c s₁ B hml hv
  obtain ⟨rfl, hP, hK, hSt⟩ := hv
  have hx := B.exec
  have hb := B.bytes
  have hr := B.returns
  have hts := atoms_spec (ws := wsX6_acceptingOf) B.pre
  have hown : s.vm.findClass RX6 = some m.cls := findClass_of_methodNamed B.named
  have hlocks := B.notSynchronized
  have hS : va_S (fun _ => False) s.heap s.heap [] := va_S.rf
  have hl := lv_entry ([.ref a_model, .int p1, .int p2]) (n := 4) (Nat.le_of_ble_eq_true rfl)
  rw [lg_entry_eq]
  generalize (lg_sl ([.ref a_model, .int p1, .int p2]) ++ List.replicate (4 - (lg_sl ([.ref a_model, .int p1, .int p2])).length) Slot.unset).toArray = ls at hl ⊢
  have hl : lv_has ls 4 [(0, .ref a_model), (1, .int p1), (2, .int p2)] := hl
  have B29 : (∀ (x3 : Int32), fX6_acceptingOf_b29 N model_level model_quality x3 = some r → ∀ ls : Array Slot, lv_has ls 4 [(3, .int x3)] → W p l e (headSpec wsX6_acceptingOf rmX6_acceptingOf).room s m (([.ref a_model, .int p1, .int p2] : List Value).toArray) below meth c s.heap [] 0 0 (MQ below (vp_Si (fun v : Int32 => v = r)) ([.ref a_model, .int p1, .int p2] : List Value).toArray s 0 0 (fun _ => False)) (F0 m 29 ls [])) := by
    intro x3 hf ls hl
    unfold fX6_acceptingOf_b29 at hf
    refine lv_iload_n hx hb dX6_acceptingOf_29 rfl (lv_at hl 0 rfl) ?_
    refine lv_goto (tgt := 36) hx hb dX6_acceptingOf_30 (by decide) ?_
    obtain rfl := Option.some.inj hf
    exact W.iret hx hb hr (fun t ht hW => ⟨_, rfl, rfl, ht⟩) (fun _ h => by cases h) dX6_acceptingOf_36
  have hf := hf0
  unfold fX6_acceptingOf at hf
  refine lv_aload_n hx hb dX6_acceptingOf_0 rfl (lv_at hl 0 rfl) ?_
  refine lv_iload_n hx hb dX6_acceptingOf_1 rfl (lv_at hl 1 rfl) ?_
  obtain ⟨r_1, e_2, hf⟩ := bind_some hf
  refine vp_callSi (W.runV (As := [.int p1]) (rest := []) ⟨hx, hb, hml, hown, hts⟩ (mX6_letterOf l X N a_model a_mk a_mo a_ms a_mf a_mv a_mt a_mi a_mb a_mr model_level model_quality model_twice model_steady model_rate model_many model_state model_skipping model_since model_thrown mk_f mo_f ms_f mf_f mv_f mt_f mi_f mb_f mr_f p1 r_1 e_2) (cwV 1 hts gX6_acceptingOf_X6_letterOf rfl rfl rfl (by decide +kernel) ⟨Nat.le_of_ble_eq_true rfl, Nat.le_of_ble_eq_true rfl⟩) (rPreV hK hP hSt hS [0, 1, 2, 3, 4, 5, 6, 7, 8, 9] rfl 0 rfl rfl) rfl rfl hl.1 rfl (lv_room (Nat.le_of_ble_eq_true rfl)) dX6_acceptingOf_2 ⟨Nat.zero_le _, Nat.zero_le _⟩) (fun v9 e9 => ?_)
  rw [e9]
  obtain ⟨r_3, e_4, hf⟩ := bind_some hf
  refine vp_callSi (W.runS (As := [.int r_1]) (rest := []) ⟨hx, hb, hml, hown, hts⟩ (mX6_sizeOf l X N r_1 r_3 e_4) (va_cwS 1 hts gX6_acceptingOf_X6_sizeOf rfl rfl rfl (by decide +kernel) ⟨Nat.le_of_ble_eq_true rfl, Nat.le_of_ble_eq_true rfl⟩) (rPreS hK hP hSt hS [] rfl) rfl rfl hl.1 rfl (lv_room (Nat.le_of_ble_eq_true rfl)) dX6_acceptingOf_5 ⟨Nat.zero_le _, Nat.zero_le _⟩) (fun v9 e9 => ?_)
  rw [e9]
  refine lv_iconst (v := 2) hx hb dX6_acceptingOf_8 (by decide) ?_
  refine lv_aload_n hx hb dX6_acceptingOf_9 rfl (lv_at hl 0 rfl) ?_
  refine va_get (D := X.1) (ci := 5) (v := .int model_quality) (C := RX6) (T := TX6) (N := 19) hx hb hts iwX6_acceptingOf_X6 hown hK hP 0 rfl rfl 1 (by decide) (hts _ lkX6_acceptingOf_1) (fun _ h9 => h9) rfl dX6_acceptingOf_10 ?_
  refine lv_imul hx hb dX6_acceptingOf_13 ?_
  refine lv_iconst (v := 1) hx hb dX6_acceptingOf_14 (by decide) ?_
  refine lv_iadd hx hb dX6_acceptingOf_15 ?_
  refine lv_imul hx hb dX6_acceptingOf_16 ?_
  refine lv_bipush (v := 40) hx hb dX6_acceptingOf_17 (by decide) ?_
  refine lv_idiv hx hb dX6_acceptingOf_19 (by decide) ?_
  obtain ⟨z_5, e_6, hf⟩ := bind_some hf
  refine lv_eqi (Option.some.inj e_6) ?_
  refine lv_istore_n (lv' := [(3, .int z_5), (0, .ref a_model), (1, .int p1), (2, .int p2)]) hx hb dX6_acceptingOf_20 rfl hl (by decide) rfl (fun ls hl => ?_)
  refine lv_iload_n hx hb dX6_acceptingOf_21 rfl (lv_at hl 3 rfl) ?_
  refine lv_if_eq (tgt := 29) hx hb dX6_acceptingOf_22 (by decide) (fun c_7 => ?_) (fun c_7 => ?_)
  · rw [if_pos c_7] at hf
    exact B29 z_5 hf ls (lv_sub hl [0] rfl)
  · rw [if_neg c_7] at hf
    refine lv_iload_n hx hb dX6_acceptingOf_25 rfl (lv_at hl 0 rfl) ?_
    refine lv_if_ne (tgt := 33) hx hb dX6_acceptingOf_26 (by decide) (fun c_8 => ?_) (fun c_8 => ?_)
    · rw [if_neg c_8] at hf
      refine lv_iload_n hx hb dX6_acceptingOf_33 rfl (lv_at hl 0 rfl) ?_
      refine lv_iconst (v := 1) hx hb dX6_acceptingOf_34 (by decide) ?_
      refine lv_isub hx hb dX6_acceptingOf_35 ?_
      obtain rfl := Option.some.inj hf
      exact W.iret hx hb hr (fun t ht hW => ⟨_, rfl, rfl, ht⟩) (fun _ h => by cases h) dX6_acceptingOf_36
    · rw [if_pos c_8] at hf
      exact B29 z_5 hf ls (lv_sub hl [0] rfl)
def rmX6_badAmong : Room := { frames := 0, cells := 0, slots := 0, locals := 0 }
theorem iwX6_badAmong_X6 : ∀ w ∈ wsX60, w ∈ wsX6_badAmong := fun w h => List.mem_cons_of_mem _ (List.mem_append_right _ (h))
theorem lkX6_badAmong_1 : Cond.fieldLink RX6 26 "InspectionOfficeModel" "findings" "[J" ∈ wsX6_badAmong := List.mem_of_getElem? (i := 1) rfl
set_option maxHeartbeats 4000000 in
set_option maxRecDepth 100000 in
theorem mX6_badAmong (l : Launch) (X : cxT) (N : Nat) (a_model a_mk a_mo a_ms a_mf a_mv a_mt a_mi a_mb a_mr : Nat) (model_level : Int32) (model_quality : Int32) (model_twice : Int32) (model_steady : Int32) (model_rate : Int32) (model_many : Int32) (model_state : Int32) (model_skipping : Int32) (model_since : Int32) (model_thrown : Int32) (mk_f : Nat → Int32) (mo_f : Nat → Int32) (ms_f : Nat → Int32) (mf_f : Nat → Int64) (mv_f : Nat → Int32) (mt_f : Nat → Int32) (mi_f : Nat → Int32) (mb_f : Nat → Int32) (mr_f : Nat → Int32) (p1 : Int32) (p2 : Int32) (r : Int32) (hf0 : fX6_badAmong N p1 p2 mf_f = some r) : Met l yX6_badAmong wsX6_badAmong rmX6_badAmong (rPre X [(a_model, .inr (5, [.int model_level, .int model_quality, .int model_twice, .int model_steady, .int model_rate, .ref a_mk, .int model_many, .ref a_mo, .ref a_ms, .ref a_mf, .ref a_mv, .ref a_mt, .ref a_mi, .ref a_mb, .int model_state, .int model_skipping, .int model_since, .ref a_mr, .int model_thrown])), (a_mk, .inl (X.2 0, 200, .inl mk_f)), (a_mo, .inl (X.2 0, 60, .inl mo_f)), (a_ms, .inl (X.2 0, 60, .inl ms_f)), (a_mf, .inl (X.2 1, 60, .inr (.inl mf_f))), (a_mv, .inl (X.2 0, 60, .inl mv_f)), (a_mt, .inl (X.2 0, 60, .inl mt_f)), (a_mi, .inl (X.2 0, 60, .inl mi_f)), (a_mb, .inl (X.2 0, 60, .inl mb_f)), (a_mr, .inl (X.2 0, 60, .inl mr_f))] [.ref a_model, .int p1, .int p2]) (vp_Si (fun v : Int32 => v = r)) 0 0 (fun _ => False) := by
  refine Met.ofW (cc := cX6_badAmong) (maxL := 5) (ret := (some .int)) (by decide) rfl ?_
  intro p e s m args below meth c s₁ B hml hv
  obtain ⟨rfl, hP, hK, hSt⟩ := hv
  have hx := B.exec
  have hb := B.bytes
  have hr := B.returns
  have hts := atoms_spec (ws := wsX6_badAmong) B.pre
  have hown : s.vm.findClass RX6 = some m.cls := findClass_of_methodNamed B.named
  have hlocks := B.notSynchronized
  have hS : va_S (fun _ => False) s.heap s.heap [] := va_S.rf
  have hl := lv_entry ([.ref a_model, .int p1, .int p2]) (n := 5) (Nat.le_of_ble_eq_true rfl)
  rw [lg_entry_eq]
  generalize (lg_sl ([.ref a_model, .int p1, .int p2]) ++ List.replicate (5 - (lg_sl ([.ref a_model, .int p1, .int p2])).length) Slot.unset).toArray = ls at hl ⊢
  have hl : lv_has ls 5 [(0, .ref a_model), (1, .int p1), (2, .int p2)] := hl
  have B5 : ∀ k : Nat, (∀ (x1 : Int32) (x2 : Int32) (x3 : Int32) (x4 : Int32), fX6_badAmong_b5 N mf_f k x1 x2 x3 x4 = some r → ∀ ls : Array Slot, lv_has ls 5 [(0, .ref a_model), (1, .int x1), (2, .int x2), (3, .int x3), (4, .int x4)] → W p l e (headSpec wsX6_badAmong rmX6_badAmong).room s m (([.ref a_model, .int p1, .int p2] : List Value).toArray) below meth c s.heap [] 0 0 (MQ below (vp_Si (fun v : Int32 => v = r)) ([.ref a_model, .int p1, .int p2] : List Value).toArray s 0 0 (fun _ => False)) (F0 m 5 ls [])) := by
    intro k
    induction k with
    | zero =>
      intro x1 x2 x3 x4 hf ls hl
      exact nomatch (show (none : Option (Int32)) = some r from hf)
    | succ k ih =>
      intro x1 x2 x3 x4 hf ls hl
      unfold fX6_badAmong_b5 at hf
      refine lv_iload hx hb dX6_badAmong_5 (lv_at hl 4 rfl) ?_
      refine lv_iload_n hx hb dX6_badAmong_7 rfl (lv_at hl 2 rfl) ?_
      refine lv_icmp_ge (tgt := 32) hx hb dX6_badAmong_8 (by decide) (fun c_1 => ?_) (fun c_1 => ?_)
      · rw [if_pos c_1] at hf
        refine lv_iload_n hx hb dX6_badAmong_32 rfl (lv_at hl 3 rfl) ?_
        obtain rfl := Option.some.inj hf
        exact W.iret hx hb hr (fun t ht hW => ⟨_, rfl, rfl, ht⟩) (fun _ h => by cases h) dX6_badAmong_33
      · rw [if_neg c_1] at hf
        refine lv_iload_n hx hb dX6_badAmong_11 rfl (lv_at hl 3 rfl) ?_
        refine lv_aload_n hx hb dX6_badAmong_12 rfl (lv_at hl 0 rfl) ?_
        refine va_get (D := X.1) (ci := 5) (v := .ref a_mf) (C := RX6) (T := TX6) (N := 19) hx hb hts iwX6_badAmong_X6 hown hK hP 0 rfl rfl 9 (by decide) (hts _ lkX6_badAmong_1) (fun _ h9 => h9) rfl dX6_badAmong_13 ?_
        refine lv_iload_n hx hb dX6_badAmong_16 rfl (lv_at hl 1 rfl) ?_
        obtain ⟨g_2, hf⟩ := ite_some hf
        refine va_lald hx hb hK hP 4 1 rfl rfl (i := x1) g_2 dX6_badAmong_17 ?_
        refine lv_iload hx hb dX6_badAmong_18 (lv_at hl 4 rfl) ?_
        refine lv_lshr hx hb dX6_badAmong_20 rfl ?_
        refine lv_lconst (v := 1) hx hb dX6_badAmong_21 (by decide) ?_
        refine lv_land hx hb dX6_badAmong_22 ?_
        refine lv_l2i hx hb dX6_badAmong_23 rfl ?_
        refine lv_iadd hx hb dX6_badAmong_24 ?_
        obtain ⟨z_3, e_4, hf⟩ := bind_some hf
        refine lv_eqi (Option.some.inj e_4) ?_
        refine lv_istore_n (lv' := [(3, .int z_3), (0, .ref a_model), (1, .int x1), (2, .int x2), (4, .int x4)]) hx hb dX6_badAmong_25 rfl hl (by decide) rfl (fun ls hl => ?_)
        refine lv_iinc (v := x4 + 1) (lv' := [(4, .int (x4 + 1)), (3, .int z_3), (0, .ref a_model), (1, .int x1), (2, .int x2)]) hx hb dX6_badAmong_26 hl (k := 4) rfl rfl (by decide) rfl (fun ls hl => ?_)
        refine lv_goto (tgt := 5) hx hb dX6_badAmong_29 (by decide) ?_
        exact ih x1 x2 z_3 (x4 + 1) hf ls (lv_sub hl [2, 3, 4, 1, 0] rfl)
  have hf := hf0
  unfold fX6_badAmong at hf
  refine lv_iconst (v := 0) hx hb dX6_badAmong_0 (by decide) ?_
  refine lv_istore_n (lv' := [(3, .int 0), (0, .ref a_model), (1, .int p1), (2, .int p2)]) hx hb dX6_badAmong_1 rfl hl (by decide) rfl (fun ls hl => ?_)
  refine lv_iconst (v := 0) hx hb dX6_badAmong_2 (by decide) ?_
  refine lv_istore (lv' := [(4, .int 0), (3, .int 0), (0, .ref a_model), (1, .int p1), (2, .int p2)]) hx hb dX6_badAmong_3 hl (by decide) rfl (fun ls hl => ?_)
  exact B5 N p1 p2 0 0 hf ls (lv_sub hl [2, 3, 4, 1, 0] rfl)
def rmX6_refused : Room := { frames := 0, cells := 0, slots := 0, locals := 0 }
theorem iwX6_refused_X6 : ∀ w ∈ wsX60, w ∈ wsX6_refused := fun w h => List.mem_cons_of_mem _ (List.mem_append_right _ (h))
theorem lkX6_refused_1 : Cond.fieldLink RX6 95 "InspectionOfficeModel" "since" "I" ∈ wsX6_refused := List.mem_of_getElem? (i := 1) rfl
theorem lkX6_refused_2 : Cond.fieldLink RX6 30 "InspectionOfficeModel" "verdicts" "[I" ∈ wsX6_refused := List.mem_of_getElem? (i := 2) rfl
theorem lkX6_refused_3 : Cond.fieldLink RX6 42 "InspectionOfficeModel" "recent" "[I" ∈ wsX6_refused := List.mem_of_getElem? (i := 3) rfl
set_option maxHeartbeats 4000000 in
set_option maxRecDepth 100000 in
theorem mX6_refused (l : Launch) (X : cxT) (N : Nat) (a_model a_mk a_mo a_ms a_mf a_mv a_mt a_mi a_mb a_mr : Nat) (model_level : Int32) (model_quality : Int32) (model_twice : Int32) (model_steady : Int32) (model_rate : Int32) (model_many : Int32) (model_state : Int32) (model_skipping : Int32) (model_since : Int32) (model_thrown : Int32) (mk_f : Nat → Int32) (mo_f : Nat → Int32) (ms_f : Nat → Int32) (mf_f : Nat → Int64) (mv_f : Nat → Int32) (mt_f : Nat → Int32) (mi_f : Nat → Int32) (mb_f : Nat → Int32) (mr_f : Nat → Int32) (p1 : Int32) (r : Int32) (hf0 : fX6_refused N p1 model_since mv_f mr_f = some r) : Met l yX6_refused wsX6_refused rmX6_refused (rPre X [(a_model, .inr (5, [.int model_level, .int model_quality, .int model_twice, .int model_steady, .int model_rate, .ref a_mk, .int model_many, .ref a_mo, .ref a_ms, .ref a_mf, .ref a_mv, .ref a_mt, .ref a_mi, .ref a_mb, .int model_state, .int model_skipping, .int model_since, .ref a_mr, .int model_thrown])), (a_mk, .inl (X.2 0, 200, .inl mk_f)), (a_mo, .inl (X.2 0, 60, .inl mo_f)), (a_ms, .inl (X.2 0, 60, .inl ms_f)), (a_mf, .inl (X.2 1, 60, .inr (.inl mf_f))), (a_mv, .inl (X.2 0, 60, .inl mv_f)), (a_mt, .inl (X.2 0, 60, .inl mt_f)), (a_mi, .inl (X.2 0, 60, .inl mi_f)), (a_mb, .inl (X.2 0, 60, .inl mb_f)), (a_mr, .inl (X.2 0, 60, .inl mr_f))] [.ref a_model, .int p1]) (vp_Si (fun v : Int32 => v = r)) 0 0 (fun _ => False) := by
  refine Met.ofW (cc := cX6_refused) (maxL := 4) (ret := (some .int)) (by decide) rfl ?_
  intro p e s m args below meth c s₁ B hml hv
  obtain ⟨rfl, hP, hK, hSt⟩ := hv
  have hx := B.exec
  have hb := B.bytes
  have hr := B.returns
  have hts := atoms_spec (ws := wsX6_refused) B.pre
  have hown : s.vm.findClass RX6 = some m.cls := findClass_of_methodNamed B.named
  have hlocks := B.notSynchronized
  have hS : va_S (fun _ => False) s.heap s.heap [] := va_S.rf
  have hl := lv_entry ([.ref a_model, .int p1]) (n := 4) (Nat.le_of_ble_eq_true rfl)
  rw [lg_entry_eq]
  generalize (lg_sl ([.ref a_model, .int p1]) ++ List.replicate (4 - (lg_sl ([.ref a_model, .int p1])).length) Slot.unset).toArray = ls at hl ⊢
  have hl : lv_has ls 4 [(0, .ref a_model), (1, .int p1)] := hl
  have B43 : ∀ (rec_9 : Int32 → Int32 → Int32 → Option (Int32)), (∀ (x1 : Int32) (x2 : Int32) (x3 : Int32), rec_9 x1 x2 x3 = some r → ∀ ls : Array Slot, lv_has ls 4 [(0, .ref a_model), (1, .int x1), (2, .int x2), (3, .int x3)] → W p l e (headSpec wsX6_refused rmX6_refused).room s m (([.ref a_model, .int p1] : List Value).toArray) below meth c s.heap [] 0 0 (MQ below (vp_Si (fun v : Int32 => v = r)) ([.ref a_model, .int p1] : List Value).toArray s 0 0 (fun _ => False)) (F0 m 9 ls [])) → (∀ (x1 : Int32) (x3 : Int32) (y0 : Int32) (y1 : Int32), fX6_refused_b43 N model_since mv_f mr_f rec_9 x1 x3 y0 y1 = some r → ∀ ls : Array Slot, lv_has ls 4 [(0, .ref a_model), (1, .int x1), (3, .int x3)] → W p l e (headSpec wsX6_refused rmX6_refused).room s m (([.ref a_model, .int p1] : List Value).toArray) below meth c s.heap [] 0 0 (MQ below (vp_Si (fun v : Int32 => v = r)) ([.ref a_model, .int p1] : List Value).toArray s 0 0 (fun _ => False)) (F0 m 43 ls [.int y1, .int y0])) := by
    intro rec_9 hrec_9 x1 x3 y0 y1 hf ls hl
    unfold fX6_refused_b43 at hf
    refine lv_iadd hx hb dX6_refused_43 ?_
    refine lv_istore_n (lv' := [(2, .int (y0 + y1)), (0, .ref a_model), (1, .int x1), (3, .int x3)]) hx hb dX6_refused_44 rfl hl (by decide) rfl (fun ls hl => ?_)
    refine lv_iinc (v := x3 + (-1)) (lv' := [(3, .int (x3 + (-1))), (2, .int (y0 + y1)), (0, .ref a_model), (1, .int x1)]) hx hb dX6_refused_45 hl (k := 3) rfl rfl (by decide) rfl (fun ls hl => ?_)
    refine lv_goto (tgt := 9) hx hb dX6_refused_48 (by decide) ?_
    exact hrec_9 x1 (y0 + y1) (x3 + (-1)) hf ls (lv_sub hl [2, 3, 1, 0] rfl)
  have B9 : ∀ k : Nat, (∀ (x1 : Int32) (x2 : Int32) (x3 : Int32), fX6_refused_b9 N model_since mv_f mr_f k x1 x2 x3 = some r → ∀ ls : Array Slot, lv_has ls 4 [(0, .ref a_model), (1, .int x1), (2, .int x2), (3, .int x3)] → W p l e (headSpec wsX6_refused rmX6_refused).room s m (([.ref a_model, .int p1] : List Value).toArray) below meth c s.heap [] 0 0 (MQ below (vp_Si (fun v : Int32 => v = r)) ([.ref a_model, .int p1] : List Value).toArray s 0 0 (fun _ => False)) (F0 m 9 ls [])) := by
    intro k
    induction k with
    | zero =>
      intro x1 x2 x3 hf ls hl
      exact nomatch (show (none : Option (Int32)) = some r from hf)
    | succ k ih =>
      intro x1 x2 x3 hf ls hl
      unfold fX6_refused_b9 at hf
      refine lv_iload_n hx hb dX6_refused_9 rfl (lv_at hl 3 rfl) ?_
      refine lv_if_lt (tgt := 51) hx hb dX6_refused_10 (by decide) (fun c_1 => ?_) (fun c_1 => ?_)
      · rw [if_pos c_1] at hf
        refine lv_iload_n hx hb dX6_refused_51 rfl (lv_at hl 2 rfl) ?_
        obtain rfl := Option.some.inj hf
        exact W.iret hx hb hr (fun t ht hW => ⟨_, rfl, rfl, ht⟩) (fun _ h => by cases h) dX6_refused_52
      · rw [if_neg c_1] at hf
        refine lv_iload_n hx hb dX6_refused_13 rfl (lv_at hl 3 rfl) ?_
        refine lv_aload_n hx hb dX6_refused_14 rfl (lv_at hl 0 rfl) ?_
        refine va_get (D := X.1) (ci := 5) (v := .int model_since) (C := RX6) (T := TX6) (N := 19) hx hb hts iwX6_refused_X6 hown hK hP 0 rfl rfl 16 (by decide) (hts _ lkX6_refused_1) (fun _ h9 => h9) rfl dX6_refused_15 ?_
        refine lv_iload_n hx hb dX6_refused_18 rfl (lv_at hl 1 rfl) ?_
        refine lv_isub hx hb dX6_refused_19 ?_
        refine lv_icmp_lt (tgt := 51) hx hb dX6_refused_20 (by decide) (fun c_2 => ?_) (fun c_2 => ?_)
        · rw [if_pos c_2] at hf
          refine lv_iload_n hx hb dX6_refused_51 rfl (lv_at hl 2 rfl) ?_
          obtain rfl := Option.some.inj hf
          exact W.iret hx hb hr (fun t ht hW => ⟨_, rfl, rfl, ht⟩) (fun _ h => by cases h) dX6_refused_52
        · rw [if_neg c_2] at hf
          refine lv_iload_n hx hb dX6_refused_23 rfl (lv_at hl 2 rfl) ?_
          refine lv_aload_n hx hb dX6_refused_24 rfl (lv_at hl 0 rfl) ?_
          refine va_get (D := X.1) (ci := 5) (v := .ref a_mv) (C := RX6) (T := TX6) (N := 19) hx hb hts iwX6_refused_X6 hown hK hP 0 rfl rfl 10 (by decide) (hts _ lkX6_refused_2) (fun _ h9 => h9) rfl dX6_refused_25 ?_
          refine lv_aload_n hx hb dX6_refused_28 rfl (lv_at hl 0 rfl) ?_
          refine va_get (D := X.1) (ci := 5) (v := .ref a_mr) (C := RX6) (T := TX6) (N := 19) hx hb hts iwX6_refused_X6 hown hK hP 0 rfl rfl 17 (by decide) (hts _ lkX6_refused_3) (fun _ h9 => h9) rfl dX6_refused_29 ?_
          refine lv_iload_n hx hb dX6_refused_32 rfl (lv_at hl 3 rfl) ?_
          obtain ⟨g_3, hf⟩ := ite_some hf
          refine va_iald hx hb hK hP 9 0 rfl rfl (i := x3) g_3 dX6_refused_33 ?_
          obtain ⟨g_4, hf⟩ := ite_some hf
          refine va_iald hx hb hK hP 5 0 rfl rfl (i := mr_f x3.toNatClampNeg) g_4 dX6_refused_34 ?_
          refine lv_if_ne (tgt := 42) hx hb dX6_refused_35 (by decide) (fun c_5 => ?_) (fun c_5 => ?_)
          · rw [if_neg c_5] at hf
            refine lv_iconst (v := 0) hx hb dX6_refused_42 (by decide) ?_
            exact B43 (fun x1 x2 x3 => fX6_refused_b9 N model_since mv_f mr_f k x1 x2 x3) ih x1 x3 x2 0 hf ls (lv_sub hl [0, 1, 3] rfl)
          · rw [if_pos c_5] at hf
            refine lv_iconst (v := 1) hx hb dX6_refused_38 (by decide) ?_
            refine lv_goto (tgt := 43) hx hb dX6_refused_39 (by decide) ?_
            exact B43 (fun x1 x2 x3 => fX6_refused_b9 N model_since mv_f mr_f k x1 x2 x3) ih x1 x3 x2 1 hf ls (lv_sub hl [0, 1, 3] rfl)
  have hf := hf0
  unfold fX6_refused at hf
  refine lv_iconst (v := 0) hx hb dX6_refused_0 (by decide) ?_
  refine lv_istore_n (lv' := [(2, .int 0), (0, .ref a_model), (1, .int p1)]) hx hb dX6_refused_1 rfl hl (by decide) rfl (fun ls hl => ?_)
  refine lv_aload_n hx hb dX6_refused_2 rfl (lv_at hl 1 rfl) ?_
  refine va_get (D := X.1) (ci := 5) (v := .int model_since) (C := RX6) (T := TX6) (N := 19) hx hb hts iwX6_refused_X6 hown hK hP 0 rfl rfl 16 (by decide) (hts _ lkX6_refused_1) (fun _ h9 => h9) rfl dX6_refused_3 ?_
  refine lv_iconst (v := 1) hx hb dX6_refused_6 (by decide) ?_
  refine lv_isub hx hb dX6_refused_7 ?_
  refine lv_istore_n (lv' := [(3, .int (model_since - 1)), (2, .int 0), (0, .ref a_model), (1, .int p1)]) hx hb dX6_refused_8 rfl hl (by decide) rfl (fun ls hl => ?_)
  exact B9 N p1 0 (model_since - 1) hf ls (lv_sub hl [2, 3, 1, 0] rfl)
def rmX6_badsOf : Room := { frames := 0, cells := 0, slots := 0, locals := 0 }
theorem iwX6_badsOf_X6 : ∀ w ∈ wsX60, w ∈ wsX6_badsOf := fun w h => List.mem_cons_of_mem _ (List.mem_append_right _ (h))
theorem lkX6_badsOf_1 : Cond.fieldLink RX6 95 "InspectionOfficeModel" "since" "I" ∈ wsX6_badsOf := List.mem_of_getElem? (i := 1) rfl
theorem lkX6_badsOf_2 : Cond.fieldLink RX6 39 "InspectionOfficeModel" "bads" "[I" ∈ wsX6_badsOf := List.mem_of_getElem? (i := 2) rfl
theorem lkX6_badsOf_3 : Cond.fieldLink RX6 42 "InspectionOfficeModel" "recent" "[I" ∈ wsX6_badsOf := List.mem_of_getElem? (i := 3) rfl
set_option maxHeartbeats 4000000 in
set_option maxRecDepth 100000 in
theorem mX6_badsOf (l : Launch) (X : cxT) (N : Nat) (a_model a_mk a_mo a_ms a_mf a_mv a_mt a_mi a_mb a_mr : Nat) (model_level : Int32) (model_quality : Int32) (model_twice : Int32) (model_steady : Int32) (model_rate : Int32) (model_many : Int32) (model_state : Int32) (model_skipping : Int32) (model_since : Int32) (model_thrown : Int32) (mk_f : Nat → Int32) (mo_f : Nat → Int32) (ms_f : Nat → Int32) (mf_f : Nat → Int64) (mv_f : Nat → Int32) (mt_f : Nat → Int32) (mi_f : Nat → Int32) (mb_f : Nat → Int32) (mr_f : Nat → Int32) (p1 : Int32) (r : Int32) (hf0 : fX6_badsOf N p1 model_since mb_f mr_f = some r) : Met l yX6_badsOf wsX6_badsOf rmX6_badsOf (rPre X [(a_model, .inr (5, [.int model_level, .int model_quality, .int model_twice, .int model_steady, .int model_rate, .ref a_mk, .int model_many, .ref a_mo, .ref a_ms, .ref a_mf, .ref a_mv, .ref a_mt, .ref a_mi, .ref a_mb, .int model_state, .int model_skipping, .int model_since, .ref a_mr, .int model_thrown])), (a_mk, .inl (X.2 0, 200, .inl mk_f)), (a_mo, .inl (X.2 0, 60, .inl mo_f)), (a_ms, .inl (X.2 0, 60, .inl ms_f)), (a_mf, .inl (X.2 1, 60, .inr (.inl mf_f))), (a_mv, .inl (X.2 0, 60, .inl mv_f)), (a_mt, .inl (X.2 0, 60, .inl mt_f)), (a_mi, .inl (X.2 0, 60, .inl mi_f)), (a_mb, .inl (X.2 0, 60, .inl mb_f)), (a_mr, .inl (X.2 0, 60, .inl mr_f))] [.ref a_model, .int p1]) (vp_Si (fun v : Int32 => v = r)) 0 0 (fun _ => False) := by
  refine Met.ofW (cc := cX6_badsOf) (maxL := 4) (ret := (some .int)) (by decide) rfl ?_
  intro p e s m args below meth c s₁ B hml hv
  obtain ⟨rfl, hP, hK, hSt⟩ := hv
  have hx := B.exec
  have hb := B.bytes
  have hr := B.returns
  have hts := atoms_spec (ws := wsX6_badsOf) B.pre
  have hown : s.vm.findClass RX6 = some m.cls := findClass_of_methodNamed B.named
  have hlocks := B.notSynchronized
  have hS : va_S (fun _ => False) s.heap s.heap [] := va_S.rf
  have hl := lv_entry ([.ref a_model, .int p1]) (n := 4) (Nat.le_of_ble_eq_true rfl)
  rw [lg_entry_eq]
  generalize (lg_sl ([.ref a_model, .int p1]) ++ List.replicate (4 - (lg_sl ([.ref a_model, .int p1])).length) Slot.unset).toArray = ls at hl ⊢
  have hl : lv_has ls 4 [(0, .ref a_model), (1, .int p1)] := hl
  have B9 : ∀ k : Nat, (∀ (x1 : Int32) (x2 : Int32) (x3 : Int32), fX6_badsOf_b9 N model_since mb_f mr_f k x1 x2 x3 = some r → ∀ ls : Array Slot, lv_has ls 4 [(0, .ref a_model), (1, .int x1), (2, .int x2), (3, .int x3)] → W p l e (headSpec wsX6_badsOf rmX6_badsOf).room s m (([.ref a_model, .int p1] : List Value).toArray) below meth c s.heap [] 0 0 (MQ below (vp_Si (fun v : Int32 => v = r)) ([.ref a_model, .int p1] : List Value).toArray s 0 0 (fun _ => False)) (F0 m 9 ls [])) := by
    intro k
    induction k with
    | zero =>
      intro x1 x2 x3 hf ls hl
      exact nomatch (show (none : Option (Int32)) = some r from hf)
    | succ k ih =>
      intro x1 x2 x3 hf ls hl
      unfold fX6_badsOf_b9 at hf
      refine lv_iload_n hx hb dX6_badsOf_9 rfl (lv_at hl 3 rfl) ?_
      refine lv_if_lt (tgt := 43) hx hb dX6_badsOf_10 (by decide) (fun c_1 => ?_) (fun c_1 => ?_)
      · rw [if_pos c_1] at hf
        refine lv_iload_n hx hb dX6_badsOf_43 rfl (lv_at hl 2 rfl) ?_
        obtain rfl := Option.some.inj hf
        exact W.iret hx hb hr (fun t ht hW => ⟨_, rfl, rfl, ht⟩) (fun _ h => by cases h) dX6_badsOf_44
      · rw [if_neg c_1] at hf
        refine lv_iload_n hx hb dX6_badsOf_13 rfl (lv_at hl 3 rfl) ?_
        refine lv_aload_n hx hb dX6_badsOf_14 rfl (lv_at hl 0 rfl) ?_
        refine va_get (D := X.1) (ci := 5) (v := .int model_since) (C := RX6) (T := TX6) (N := 19) hx hb hts iwX6_badsOf_X6 hown hK hP 0 rfl rfl 16 (by decide) (hts _ lkX6_badsOf_1) (fun _ h9 => h9) rfl dX6_badsOf_15 ?_
        refine lv_iload_n hx hb dX6_badsOf_18 rfl (lv_at hl 1 rfl) ?_
        refine lv_isub hx hb dX6_badsOf_19 ?_
        refine lv_icmp_lt (tgt := 43) hx hb dX6_badsOf_20 (by decide) (fun c_2 => ?_) (fun c_2 => ?_)
        · rw [if_pos c_2] at hf
          refine lv_iload_n hx hb dX6_badsOf_43 rfl (lv_at hl 2 rfl) ?_
          obtain rfl := Option.some.inj hf
          exact W.iret hx hb hr (fun t ht hW => ⟨_, rfl, rfl, ht⟩) (fun _ h => by cases h) dX6_badsOf_44
        · rw [if_neg c_2] at hf
          refine lv_iload_n hx hb dX6_badsOf_23 rfl (lv_at hl 2 rfl) ?_
          refine lv_aload_n hx hb dX6_badsOf_24 rfl (lv_at hl 0 rfl) ?_
          refine va_get (D := X.1) (ci := 5) (v := .ref a_mb) (C := RX6) (T := TX6) (N := 19) hx hb hts iwX6_badsOf_X6 hown hK hP 0 rfl rfl 13 (by decide) (hts _ lkX6_badsOf_2) (fun _ h9 => h9) rfl dX6_badsOf_25 ?_
          refine lv_aload_n hx hb dX6_badsOf_28 rfl (lv_at hl 0 rfl) ?_
          refine va_get (D := X.1) (ci := 5) (v := .ref a_mr) (C := RX6) (T := TX6) (N := 19) hx hb hts iwX6_badsOf_X6 hown hK hP 0 rfl rfl 17 (by decide) (hts _ lkX6_badsOf_3) (fun _ h9 => h9) rfl dX6_badsOf_29 ?_
          refine lv_iload_n hx hb dX6_badsOf_32 rfl (lv_at hl 3 rfl) ?_
          obtain ⟨g_3, hf⟩ := ite_some hf
          refine va_iald hx hb hK hP 9 0 rfl rfl (i := x3) g_3 dX6_badsOf_33 ?_
          obtain ⟨g_4, hf⟩ := ite_some hf
          refine va_iald hx hb hK hP 8 0 rfl rfl (i := mr_f x3.toNatClampNeg) g_4 dX6_badsOf_34 ?_
          refine lv_iadd hx hb dX6_badsOf_35 ?_
          obtain ⟨z_5, e_6, hf⟩ := bind_some hf
          refine lv_eqi (Option.some.inj e_6) ?_
          refine lv_istore_n (lv' := [(2, .int z_5), (0, .ref a_model), (1, .int x1), (3, .int x3)]) hx hb dX6_badsOf_36 rfl hl (by decide) rfl (fun ls hl => ?_)
          refine lv_iinc (v := x3 + (-1)) (lv' := [(3, .int (x3 + (-1))), (2, .int z_5), (0, .ref a_model), (1, .int x1)]) hx hb dX6_badsOf_37 hl (k := 3) rfl rfl (by decide) rfl (fun ls hl => ?_)
          refine lv_goto (tgt := 9) hx hb dX6_badsOf_40 (by decide) ?_
          exact ih x1 z_5 (x3 + (-1)) hf ls (lv_sub hl [2, 3, 1, 0] rfl)
  have hf := hf0
  unfold fX6_badsOf at hf
  refine lv_iconst (v := 0) hx hb dX6_badsOf_0 (by decide) ?_
  refine lv_istore_n (lv' := [(2, .int 0), (0, .ref a_model), (1, .int p1)]) hx hb dX6_badsOf_1 rfl hl (by decide) rfl (fun ls hl => ?_)
  refine lv_aload_n hx hb dX6_badsOf_2 rfl (lv_at hl 1 rfl) ?_
  refine va_get (D := X.1) (ci := 5) (v := .int model_since) (C := RX6) (T := TX6) (N := 19) hx hb hts iwX6_badsOf_X6 hown hK hP 0 rfl rfl 16 (by decide) (hts _ lkX6_badsOf_1) (fun _ h9 => h9) rfl dX6_badsOf_3 ?_
  refine lv_iconst (v := 1) hx hb dX6_badsOf_6 (by decide) ?_
  refine lv_isub hx hb dX6_badsOf_7 ?_
  refine lv_istore_n (lv' := [(3, .int (model_since - 1)), (2, .int 0), (0, .ref a_model), (1, .int p1)]) hx hb dX6_badsOf_8 rfl hl (by decide) rfl (fun ls hl => ?_)
  exact B9 N p1 0 (model_since - 1) hf ls (lv_sub hl [2, 3, 1, 0] rfl)
def rmX6_behind : Room := { frames := 1, cells := 0, slots := 0, locals := 23 }
theorem iwX6_behind_X6 : ∀ w ∈ wsX60, w ∈ wsX6_behind := fun w h => List.mem_cons_of_mem _ (List.mem_append_right _ (h))
theorem lkX6_behind_1 : Cond.fieldLink RX6 82 "InspectionOfficeModel" "state" "I" ∈ wsX6_behind := List.mem_of_getElem? (i := 1) rfl
theorem lkX6_behind_2 : Cond.fieldLink RX6 56 "InspectionOfficeModel" "steady" "Z" ∈ wsX6_behind := List.mem_of_getElem? (i := 2) rfl
theorem lkX6_behind_3 : Cond.fieldLink RX6 95 "InspectionOfficeModel" "since" "I" ∈ wsX6_behind := List.mem_of_getElem? (i := 3) rfl
set_option maxHeartbeats 4000000 in
set_option maxRecDepth 100000 in
theorem mX6_behind (l : Launch) (X : cxT) (N : Nat) (a_model a_mk a_mo a_ms a_mf a_mv a_mt a_mi a_mb a_mr : Nat) (model_level : Int32) (model_quality : Int32) (model_twice : Int32) (model_steady : Int32) (model_rate : Int32) (model_many : Int32) (model_state : Int32) (model_skipping : Int32) (model_since : Int32) (model_thrown : Int32) (mk_f : Nat → Int32) (mo_f : Nat → Int32) (ms_f : Nat → Int32) (mf_f : Nat → Int64) (mv_f : Nat → Int32) (mt_f : Nat → Int32) (mi_f : Nat → Int32) (mb_f : Nat → Int32) (mr_f : Nat → Int32) (p1 : Int32) (r : Int32) (hf0 : fX6_behind N p1 model_steady model_state model_since mv_f mb_f mr_f = some r) : Met l yX6_behind wsX6_behind rmX6_behind (rPre X [(a_model, .inr (5, [.int model_level, .int model_quality, .int model_twice, .int model_steady, .int model_rate, .ref a_mk, .int model_many, .ref a_mo, .ref a_ms, .ref a_mf, .ref a_mv, .ref a_mt, .ref a_mi, .ref a_mb, .int model_state, .int model_skipping, .int model_since, .ref a_mr, .int model_thrown])), (a_mk, .inl (X.2 0, 200, .inl mk_f)), (a_mo, .inl (X.2 0, 60, .inl mo_f)), (a_ms, .inl (X.2 0, 60, .inl ms_f)), (a_mf, .inl (X.2 1, 60, .inr (.inl mf_f))), (a_mv, .inl (X.2 0, 60, .inl mv_f)), (a_mt, .inl (X.2 0, 60, .inl mt_f)), (a_mi, .inl (X.2 0, 60, .inl mi_f)), (a_mb, .inl (X.2 0, 60, .inl mb_f)), (a_mr, .inl (X.2 0, 60, .inl mr_f))] [.ref a_model, .int p1]) (vp_Si (fun v : Int32 => v = r)) 0 0 (fun _ => False) := by
  refine Met.ofW (cc := cX6_behind) (maxL := 2) (ret := (some .int)) (by decide) rfl ?_
  intro p e s m args below meth c s₁ B hml hv
  obtain ⟨rfl, hP, hK, hSt⟩ := hv
  have hx := B.exec
  have hb := B.bytes
  have hr := B.returns
  have hts := atoms_spec (ws := wsX6_behind) B.pre
  have hown : s.vm.findClass RX6 = some m.cls := findClass_of_methodNamed B.named
  have hlocks := B.notSynchronized
  have hS : va_S (fun _ => False) s.heap s.heap [] := va_S.rf
  have hl := lv_entry ([.ref a_model, .int p1]) (n := 2) (Nat.le_of_ble_eq_true rfl)
  rw [lg_entry_eq]
  generalize (lg_sl ([.ref a_model, .int p1]) ++ List.replicate (2 - (lg_sl ([.ref a_model, .int p1])).length) Slot.unset).toArray = ls at hl ⊢
  have hl : lv_has ls 2 [(0, .ref a_model), (1, .int p1)] := hl
  have hf := hf0
  unfold fX6_behind at hf
  refine lv_aload_n hx hb dX6_behind_0 rfl (lv_at hl 0 rfl) ?_
  refine va_get (D := X.1) (ci := 5) (v := .int model_state) (C := RX6) (T := TX6) (N := 19) hx hb hts iwX6_behind_X6 hown hK hP 0 rfl rfl 14 (by decide) (hts _ lkX6_behind_1) (fun _ h9 => h9) rfl dX6_behind_1 ?_
  refine lv_if_ne (tgt := 59) hx hb dX6_behind_4 (by decide) (fun c_1 => ?_) (fun c_1 => ?_)
  · rw [if_neg c_1] at hf
    refine lv_aload_n hx hb dX6_behind_59 rfl (lv_at hl 0 rfl) ?_
    refine va_get (D := X.1) (ci := 5) (v := .int model_state) (C := RX6) (T := TX6) (N := 19) hx hb hts iwX6_behind_X6 hown hK hP 0 rfl rfl 14 (by decide) (hts _ lkX6_behind_1) (fun _ h9 => h9) rfl dX6_behind_60 ?_
    refine lv_iconst (v := 1) hx hb dX6_behind_63 (by decide) ?_
    refine lv_icmp_ne (tgt := 101) hx hb dX6_behind_64 (by decide) (fun c_2 => ?_) (fun c_2 => ?_)
    · rw [if_neg c_2] at hf
      refine lv_iload_n hx hb dX6_behind_101 rfl (lv_at hl 1 rfl) ?_
      refine lv_if_eq (tgt := 109) hx hb dX6_behind_102 (by decide) (fun c_3 => ?_) (fun c_3 => ?_)
      · rw [if_pos c_3] at hf
        refine lv_iconst (v := 2) hx hb dX6_behind_109 (by decide) ?_
        obtain rfl := Option.some.inj hf
        exact W.iret hx hb hr (fun t ht hW => ⟨_, rfl, rfl, ht⟩) (fun _ h => by cases h) dX6_behind_110
      · rw [if_neg c_3] at hf
        refine lv_iconst (v := 0) hx hb dX6_behind_105 (by decide) ?_
        refine lv_goto (tgt := 110) hx hb dX6_behind_106 (by decide) ?_
        obtain rfl := Option.some.inj hf
        exact W.iret hx hb hr (fun t ht hW => ⟨_, rfl, rfl, ht⟩) (fun _ h => by cases h) dX6_behind_110
    · rw [if_pos c_2] at hf
      refine lv_aload_n hx hb dX6_behind_67 rfl (lv_at hl 0 rfl) ?_
      refine lv_bipush (v := 60) hx hb dX6_behind_68 (by decide) ?_
      obtain ⟨r_4, e_5, hf⟩ := bind_some hf
      refine vp_callSi (W.runV (As := [.int 60]) (rest := []) ⟨hx, hb, hml, hown, hts⟩ (mX6_refused l X N a_model a_mk a_mo a_ms a_mf a_mv a_mt a_mi a_mb a_mr model_level model_quality model_twice model_steady model_rate model_many model_state model_skipping model_since model_thrown mk_f mo_f ms_f mf_f mv_f mt_f mi_f mb_f mr_f 60 r_4 e_5) (cwV 1 hts gX6_behind_X6_refused rfl rfl rfl (by decide +kernel) ⟨Nat.le_of_ble_eq_true rfl, Nat.le_of_ble_eq_true rfl⟩) (rPreV hK hP hSt hS [0, 1, 2, 3, 4, 5, 6, 7, 8, 9] rfl 0 rfl rfl) rfl rfl hl.1 rfl (lv_room (Nat.le_of_ble_eq_true rfl)) dX6_behind_70 ⟨Nat.zero_le _, Nat.zero_le _⟩) (fun v9 e9 => ?_)
      rw [e9]
      refine lv_iconst (v := 5) hx hb dX6_behind_73 (by decide) ?_
      refine lv_icmp_lt (tgt := 79) hx hb dX6_behind_74 (by decide) (fun c_6 => ?_) (fun c_6 => ?_)
      · rw [if_pos c_6] at hf
        refine lv_aload_n hx hb dX6_behind_79 rfl (lv_at hl 0 rfl) ?_
        refine va_get (D := X.1) (ci := 5) (v := .int model_since) (C := RX6) (T := TX6) (N := 19) hx hb hts iwX6_behind_X6 hown hK hP 0 rfl rfl 16 (by decide) (hts _ lkX6_behind_3) (fun _ h9 => h9) rfl dX6_behind_80 ?_
        refine lv_iconst (v := 5) hx hb dX6_behind_83 (by decide) ?_
        refine lv_icmp_lt (tgt := 99) hx hb dX6_behind_84 (by decide) (fun c_7 => ?_) (fun c_7 => ?_)
        · rw [if_pos c_7] at hf
          refine lv_iconst (v := 1) hx hb dX6_behind_99 (by decide) ?_
          obtain rfl := Option.some.inj hf
          exact W.iret hx hb hr (fun t ht hW => ⟨_, rfl, rfl, ht⟩) (fun _ h => by cases h) dX6_behind_100
        · rw [if_neg c_7] at hf
          refine lv_aload_n hx hb dX6_behind_87 rfl (lv_at hl 0 rfl) ?_
          refine lv_iconst (v := 5) hx hb dX6_behind_88 (by decide) ?_
          obtain ⟨r_8, e_9, hf⟩ := bind_some hf
          refine vp_callSi (W.runV (As := [.int 5]) (rest := []) ⟨hx, hb, hml, hown, hts⟩ (mX6_refused l X N a_model a_mk a_mo a_ms a_mf a_mv a_mt a_mi a_mb a_mr model_level model_quality model_twice model_steady model_rate model_many model_state model_skipping model_since model_thrown mk_f mo_f ms_f mf_f mv_f mt_f mi_f mb_f mr_f 5 r_8 e_9) (cwV 1 hts gX6_behind_X6_refused rfl rfl rfl (by decide +kernel) ⟨Nat.le_of_ble_eq_true rfl, Nat.le_of_ble_eq_true rfl⟩) (rPreV hK hP hSt hS [0, 1, 2, 3, 4, 5, 6, 7, 8, 9] rfl 0 rfl rfl) rfl rfl hl.1 rfl (lv_room (Nat.le_of_ble_eq_true rfl)) dX6_behind_89 ⟨Nat.zero_le _, Nat.zero_le _⟩) (fun v9 e9 => ?_)
          rw [e9]
          refine lv_if_ne (tgt := 99) hx hb dX6_behind_92 (by decide) (fun c_10 => ?_) (fun c_10 => ?_)
          · rw [if_neg c_10] at hf
            refine lv_iconst (v := 1) hx hb dX6_behind_99 (by decide) ?_
            obtain rfl := Option.some.inj hf
            exact W.iret hx hb hr (fun t ht hW => ⟨_, rfl, rfl, ht⟩) (fun _ h => by cases h) dX6_behind_100
          · rw [if_pos c_10] at hf
            refine lv_iconst (v := 0) hx hb dX6_behind_95 (by decide) ?_
            refine lv_goto (tgt := 100) hx hb dX6_behind_96 (by decide) ?_
            obtain rfl := Option.some.inj hf
            exact W.iret hx hb hr (fun t ht hW => ⟨_, rfl, rfl, ht⟩) (fun _ h => by cases h) dX6_behind_100
      · rw [if_neg c_6] at hf
        refine lv_iconst (v := 3) hx hb dX6_behind_77 (by decide) ?_
        obtain rfl := Option.some.inj hf
        exact W.iret hx hb hr (fun t ht hW => ⟨_, rfl, rfl, ht⟩) (fun _ h => by cases h) dX6_behind_78
  · rw [if_pos c_1] at hf
    refine lv_aload_n hx hb dX6_behind_7 rfl (lv_at hl 0 rfl) ?_
    refine lv_iconst (v := 5) hx hb dX6_behind_8 (by decide) ?_
    obtain ⟨r_11, e_12, hf⟩ := bind_some hf
    refine vp_callSi (W.runV (As := [.int 5]) (rest := []) ⟨hx, hb, hml, hown, hts⟩ (mX6_refused l X N a_model a_mk a_mo a_ms a_mf a_mv a_mt a_mi a_mb a_mr model_level model_quality model_twice model_steady model_rate model_many model_state model_skipping model_since model_thrown mk_f mo_f ms_f mf_f mv_f mt_f mi_f mb_f mr_f 5 r_11 e_12) (cwV 1 hts gX6_behind_X6_refused rfl rfl rfl (by decide +kernel) ⟨Nat.le_of_ble_eq_true rfl, Nat.le_of_ble_eq_true rfl⟩) (rPreV hK hP hSt hS [0, 1, 2, 3, 4, 5, 6, 7, 8, 9] rfl 0 rfl rfl) rfl rfl hl.1 rfl (lv_room (Nat.le_of_ble_eq_true rfl)) dX6_behind_9 ⟨Nat.zero_le _, Nat.zero_le _⟩) (fun v9 e9 => ?_)
    rw [e9]
    refine lv_iconst (v := 2) hx hb dX6_behind_12 (by decide) ?_
    refine lv_icmp_lt (tgt := 18) hx hb dX6_behind_13 (by decide) (fun c_13 => ?_) (fun c_13 => ?_)
    · rw [if_pos c_13] at hf
      refine lv_aload_n hx hb dX6_behind_18 rfl (lv_at hl 0 rfl) ?_
      refine va_get (D := X.1) (ci := 5) (v := .int model_steady) (C := RX6) (T := TX6) (N := 19) hx hb hts iwX6_behind_X6 hown hK hP 0 rfl rfl 3 (by decide) (hts _ lkX6_behind_2) (fun _ h9 => h9) rfl dX6_behind_19 ?_
      refine lv_if_eq (tgt := 57) hx hb dX6_behind_22 (by decide) (fun c_14 => ?_) (fun c_14 => ?_)
      · rw [if_pos c_14] at hf
        refine lv_iconst (v := 0) hx hb dX6_behind_57 (by decide) ?_
        obtain rfl := Option.some.inj hf
        exact W.iret hx hb hr (fun t ht hW => ⟨_, rfl, rfl, ht⟩) (fun _ h => by cases h) dX6_behind_58
      · rw [if_neg c_14] at hf
        refine lv_aload_n hx hb dX6_behind_25 rfl (lv_at hl 0 rfl) ?_
        refine va_get (D := X.1) (ci := 5) (v := .int model_since) (C := RX6) (T := TX6) (N := 19) hx hb hts iwX6_behind_X6 hown hK hP 0 rfl rfl 16 (by decide) (hts _ lkX6_behind_3) (fun _ h9 => h9) rfl dX6_behind_26 ?_
        refine lv_bipush (v := 10) hx hb dX6_behind_29 (by decide) ?_
        refine lv_icmp_lt (tgt := 57) hx hb dX6_behind_31 (by decide) (fun c_15 => ?_) (fun c_15 => ?_)
        · rw [if_pos c_15] at hf
          refine lv_iconst (v := 0) hx hb dX6_behind_57 (by decide) ?_
          obtain rfl := Option.some.inj hf
          exact W.iret hx hb hr (fun t ht hW => ⟨_, rfl, rfl, ht⟩) (fun _ h => by cases h) dX6_behind_58
        · rw [if_neg c_15] at hf
          refine lv_aload_n hx hb dX6_behind_34 rfl (lv_at hl 0 rfl) ?_
          refine lv_bipush (v := 10) hx hb dX6_behind_35 (by decide) ?_
          obtain ⟨r_16, e_17, hf⟩ := bind_some hf
          refine vp_callSi (W.runV (As := [.int 10]) (rest := []) ⟨hx, hb, hml, hown, hts⟩ (mX6_refused l X N a_model a_mk a_mo a_ms a_mf a_mv a_mt a_mi a_mb a_mr model_level model_quality model_twice model_steady model_rate model_many model_state model_skipping model_since model_thrown mk_f mo_f ms_f mf_f mv_f mt_f mi_f mb_f mr_f 10 r_16 e_17) (cwV 1 hts gX6_behind_X6_refused rfl rfl rfl (by decide +kernel) ⟨Nat.le_of_ble_eq_true rfl, Nat.le_of_ble_eq_true rfl⟩) (rPreV hK hP hSt hS [0, 1, 2, 3, 4, 5, 6, 7, 8, 9] rfl 0 rfl rfl) rfl rfl hl.1 rfl (lv_room (Nat.le_of_ble_eq_true rfl)) dX6_behind_37 ⟨Nat.zero_le _, Nat.zero_le _⟩) (fun v9 e9 => ?_)
          rw [e9]
          refine lv_if_ne (tgt := 57) hx hb dX6_behind_40 (by decide) (fun c_18 => ?_) (fun c_18 => ?_)
          · rw [if_neg c_18] at hf
            refine lv_iconst (v := 0) hx hb dX6_behind_57 (by decide) ?_
            obtain rfl := Option.some.inj hf
            exact W.iret hx hb hr (fun t ht hW => ⟨_, rfl, rfl, ht⟩) (fun _ h => by cases h) dX6_behind_58
          · rw [if_pos c_18] at hf
            refine lv_aload_n hx hb dX6_behind_43 rfl (lv_at hl 0 rfl) ?_
            refine lv_bipush (v := 10) hx hb dX6_behind_44 (by decide) ?_
            obtain ⟨r_19, e_20, hf⟩ := bind_some hf
            refine vp_callSi (W.runV (As := [.int 10]) (rest := []) ⟨hx, hb, hml, hown, hts⟩ (mX6_badsOf l X N a_model a_mk a_mo a_ms a_mf a_mv a_mt a_mi a_mb a_mr model_level model_quality model_twice model_steady model_rate model_many model_state model_skipping model_since model_thrown mk_f mo_f ms_f mf_f mv_f mt_f mi_f mb_f mr_f 10 r_19 e_20) (cwV 1 hts gX6_behind_X6_badsOf rfl rfl rfl (by decide +kernel) ⟨Nat.le_of_ble_eq_true rfl, Nat.le_of_ble_eq_true rfl⟩) (rPreV hK hP hSt hS [0, 1, 2, 3, 4, 5, 6, 7, 8, 9] rfl 0 rfl rfl) rfl rfl hl.1 rfl (lv_room (Nat.le_of_ble_eq_true rfl)) dX6_behind_46 ⟨Nat.zero_le _, Nat.zero_le _⟩) (fun v9 e9 => ?_)
            rw [e9]
            refine lv_iconst (v := 4) hx hb dX6_behind_49 (by decide) ?_
            refine lv_icmp_gt (tgt := 57) hx hb dX6_behind_50 (by decide) (fun c_21 => ?_) (fun c_21 => ?_)
            · rw [if_pos c_21] at hf
              refine lv_iconst (v := 0) hx hb dX6_behind_57 (by decide) ?_
              obtain rfl := Option.some.inj hf
              exact W.iret hx hb hr (fun t ht hW => ⟨_, rfl, rfl, ht⟩) (fun _ h => by cases h) dX6_behind_58
            · rw [if_neg c_21] at hf
              refine lv_iconst (v := 2) hx hb dX6_behind_53 (by decide) ?_
              refine lv_goto (tgt := 58) hx hb dX6_behind_54 (by decide) ?_
              obtain rfl := Option.some.inj hf
              exact W.iret hx hb hr (fun t ht hW => ⟨_, rfl, rfl, ht⟩) (fun _ h => by cases h) dX6_behind_58
    · rw [if_neg c_13] at hf
      refine lv_iconst (v := 1) hx hb dX6_behind_16 (by decide) ?_
      obtain rfl := Option.some.inj hf
      exact W.iret hx hb hr (fun t ht hW => ⟨_, rfl, rfl, ht⟩) (fun _ h => by cases h) dX6_behind_17
def rmX6_isMarked : Room := { frames := 0, cells := 0, slots := 0, locals := 0 }
theorem iwX6_isMarked_X6 : ∀ w ∈ wsX60, w ∈ wsX6_isMarked := fun w h => List.mem_cons_of_mem _ (List.mem_append_right _ (h))
theorem lkX6_isMarked_1 : Cond.fieldLink RX6 16 "InspectionOfficeModel" "marks" "[I" ∈ wsX6_isMarked := List.mem_of_getElem? (i := 1) rfl
set_option maxHeartbeats 4000000 in
set_option maxRecDepth 100000 in
theorem mX6_isMarked (l : Launch) (X : cxT) (N : Nat) (a_model a_mk a_mo a_ms a_mf a_mv a_mt a_mi a_mb a_mr : Nat) (model_level : Int32) (model_quality : Int32) (model_twice : Int32) (model_steady : Int32) (model_rate : Int32) (model_many : Int32) (model_state : Int32) (model_skipping : Int32) (model_since : Int32) (model_thrown : Int32) (mk_f : Nat → Int32) (mo_f : Nat → Int32) (ms_f : Nat → Int32) (mf_f : Nat → Int64) (mv_f : Nat → Int32) (mt_f : Nat → Int32) (mi_f : Nat → Int32) (mb_f : Nat → Int32) (mr_f : Nat → Int32) (p1 : Int32) (p2 : Int32) (r : Int32) (hf0 : fX6_isMarked N p1 p2 mk_f = some r) : Met l yX6_isMarked wsX6_isMarked rmX6_isMarked (rPre X [(a_model, .inr (5, [.int model_level, .int model_quality, .int model_twice, .int model_steady, .int model_rate, .ref a_mk, .int model_many, .ref a_mo, .ref a_ms, .ref a_mf, .ref a_mv, .ref a_mt, .ref a_mi, .ref a_mb, .int model_state, .int model_skipping, .int model_since, .ref a_mr, .int model_thrown])), (a_mk, .inl (X.2 0, 200, .inl mk_f)), (a_mo, .inl (X.2 0, 60, .inl mo_f)), (a_ms, .inl (X.2 0, 60, .inl ms_f)), (a_mf, .inl (X.2 1, 60, .inr (.inl mf_f))), (a_mv, .inl (X.2 0, 60, .inl mv_f)), (a_mt, .inl (X.2 0, 60, .inl mt_f)), (a_mi, .inl (X.2 0, 60, .inl mi_f)), (a_mb, .inl (X.2 0, 60, .inl mb_f)), (a_mr, .inl (X.2 0, 60, .inl mr_f))] [.ref a_model, .int p1, .int p2]) (vp_Si (fun v : Int32 => v = r)) 0 0 (fun _ => False) := by
  refine Met.ofW (cc := cX6_isMarked) (maxL := 5) (ret := (some .boolean)) (by decide) rfl ?_
  intro p e s m args below meth c s₁ B hml hv
  obtain ⟨rfl, hP, hK, hSt⟩ := hv
  have hx := B.exec
  have hb := B.bytes
  have hr := B.returns
  have hts := atoms_spec (ws := wsX6_isMarked) B.pre
  have hown : s.vm.findClass RX6 = some m.cls := findClass_of_methodNamed B.named
  have hlocks := B.notSynchronized
  have hS : va_S (fun _ => False) s.heap s.heap [] := va_S.rf
  have hl := lv_entry ([.ref a_model, .int p1, .int p2]) (n := 5) (Nat.le_of_ble_eq_true rfl)
  rw [lg_entry_eq]
  generalize (lg_sl ([.ref a_model, .int p1, .int p2]) ++ List.replicate (5 - (lg_sl ([.ref a_model, .int p1, .int p2])).length) Slot.unset).toArray = ls at hl ⊢
  have hl : lv_has ls 5 [(0, .ref a_model), (1, .int p1), (2, .int p2)] := hl
  have B31 : ∀ (rec_5 : Int32 → Int32 → Int32 → Option (Int32)), (∀ (x2 : Int32) (x3 : Int32) (x4 : Int32), rec_5 x2 x3 x4 = some r → ∀ ls : Array Slot, lv_has ls 5 [(0, .ref a_model), (2, .int x2), (3, .int x3), (4, .int x4)] → W p l e (headSpec wsX6_isMarked rmX6_isMarked).room s m (([.ref a_model, .int p1, .int p2] : List Value).toArray) below meth c s.heap [] 0 0 (MQ below (vp_Si (fun v : Int32 => v = r)) ([.ref a_model, .int p1, .int p2] : List Value).toArray s 0 0 (fun _ => False)) (F0 m 5 ls [])) → (∀ (x2 : Int32) (x4 : Int32) (y0 : Int32), fX6_isMarked_b31 N mk_f rec_5 x2 x4 y0 = some r → ∀ ls : Array Slot, lv_has ls 5 [(0, .ref a_model), (2, .int x2), (4, .int x4)] → W p l e (headSpec wsX6_isMarked rmX6_isMarked).room s m (([.ref a_model, .int p1, .int p2] : List Value).toArray) below meth c s.heap [] 0 0 (MQ below (vp_Si (fun v : Int32 => v = r)) ([.ref a_model, .int p1, .int p2] : List Value).toArray s 0 0 (fun _ => False)) (F0 m 31 ls [.int y0])) := by
    intro rec_5 hrec_5 x2 x4 y0 hf ls hl
    unfold fX6_isMarked_b31 at hf
    refine lv_istore_n (lv' := [(3, .int y0), (0, .ref a_model), (2, .int x2), (4, .int x4)]) hx hb dX6_isMarked_31 rfl hl (by decide) rfl (fun ls hl => ?_)
    refine lv_iinc (v := x4 + 1) (lv' := [(4, .int (x4 + 1)), (3, .int y0), (0, .ref a_model), (2, .int x2)]) hx hb dX6_isMarked_32 hl (k := 3) rfl rfl (by decide) rfl (fun ls hl => ?_)
    refine lv_goto (tgt := 5) hx hb dX6_isMarked_35 (by decide) ?_
    exact hrec_5 x2 y0 (x4 + 1) hf ls (lv_sub hl [2, 3, 1, 0] rfl)
  have B26 : ∀ (rec_5 : Int32 → Int32 → Int32 → Option (Int32)), (∀ (x2 : Int32) (x3 : Int32) (x4 : Int32), rec_5 x2 x3 x4 = some r → ∀ ls : Array Slot, lv_has ls 5 [(0, .ref a_model), (2, .int x2), (3, .int x3), (4, .int x4)] → W p l e (headSpec wsX6_isMarked rmX6_isMarked).room s m (([.ref a_model, .int p1, .int p2] : List Value).toArray) below meth c s.heap [] 0 0 (MQ below (vp_Si (fun v : Int32 => v = r)) ([.ref a_model, .int p1, .int p2] : List Value).toArray s 0 0 (fun _ => False)) (F0 m 5 ls [])) → (∀ (x2 : Int32) (x4 : Int32), fX6_isMarked_b26 N mk_f rec_5 x2 x4 = some r → ∀ ls : Array Slot, lv_has ls 5 [(0, .ref a_model), (2, .int x2), (4, .int x4)] → W p l e (headSpec wsX6_isMarked rmX6_isMarked).room s m (([.ref a_model, .int p1, .int p2] : List Value).toArray) below meth c s.heap [] 0 0 (MQ below (vp_Si (fun v : Int32 => v = r)) ([.ref a_model, .int p1, .int p2] : List Value).toArray s 0 0 (fun _ => False)) (F0 m 26 ls [])) := by
    intro rec_5 hrec_5 x2 x4 hf ls hl
    unfold fX6_isMarked_b26 at hf
    refine lv_iconst (v := 1) hx hb dX6_isMarked_26 (by decide) ?_
    refine lv_goto (tgt := 31) hx hb dX6_isMarked_27 (by decide) ?_
    exact B31 rec_5 hrec_5 x2 x4 1 hf ls (lv_sub hl [0, 1, 2] rfl)
  have B5 : ∀ k : Nat, (∀ (x2 : Int32) (x3 : Int32) (x4 : Int32), fX6_isMarked_b5 N mk_f k x2 x3 x4 = some r → ∀ ls : Array Slot, lv_has ls 5 [(0, .ref a_model), (2, .int x2), (3, .int x3), (4, .int x4)] → W p l e (headSpec wsX6_isMarked rmX6_isMarked).room s m (([.ref a_model, .int p1, .int p2] : List Value).toArray) below meth c s.heap [] 0 0 (MQ below (vp_Si (fun v : Int32 => v = r)) ([.ref a_model, .int p1, .int p2] : List Value).toArray s 0 0 (fun _ => False)) (F0 m 5 ls [])) := by
    intro k
    induction k with
    | zero =>
      intro x2 x3 x4 hf ls hl
      exact nomatch (show (none : Option (Int32)) = some r from hf)
    | succ k ih =>
      intro x2 x3 x4 hf ls hl
      unfold fX6_isMarked_b5 at hf
      refine lv_iload hx hb dX6_isMarked_5 (lv_at hl 3 rfl) ?_
      refine lv_iload_n hx hb dX6_isMarked_7 rfl (lv_at hl 1 rfl) ?_
      refine lv_icmp_gt (tgt := 38) hx hb dX6_isMarked_8 (by decide) (fun c_1 => ?_) (fun c_1 => ?_)
      · rw [if_pos c_1] at hf
        refine lv_iload_n hx hb dX6_isMarked_38 rfl (lv_at hl 2 rfl) ?_
        obtain ⟨g_2, hf⟩ := ite_some hf
        obtain rfl := Option.some.inj hf
        exact W.zret hx hb hr (zb_n g_2) (fun t ht hW => ⟨_, rfl, rfl, ht⟩) (fun _ h => by cases h) dX6_isMarked_39
      · rw [if_neg c_1] at hf
        refine lv_iload_n hx hb dX6_isMarked_11 rfl (lv_at hl 2 rfl) ?_
        refine lv_if_ne (tgt := 26) hx hb dX6_isMarked_12 (by decide) (fun c_3 => ?_) (fun c_3 => ?_)
        · rw [if_neg c_3] at hf
          exact B26 (fun x2 x3 x4 => fX6_isMarked_b5 N mk_f k x2 x3 x4) ih x2 x4 hf ls (lv_sub hl [0, 1, 3] rfl)
        · rw [if_pos c_3] at hf
          refine lv_aload_n hx hb dX6_isMarked_15 rfl (lv_at hl 0 rfl) ?_
          refine va_get (D := X.1) (ci := 5) (v := .ref a_mk) (C := RX6) (T := TX6) (N := 19) hx hb hts iwX6_isMarked_X6 hown hK hP 0 rfl rfl 5 (by decide) (hts _ lkX6_isMarked_1) (fun _ h9 => h9) rfl dX6_isMarked_16 ?_
          refine lv_iload hx hb dX6_isMarked_19 (lv_at hl 3 rfl) ?_
          obtain ⟨g_4, hf⟩ := ite_some hf
          refine va_iald hx hb hK hP 1 0 rfl rfl (i := x4) g_4 dX6_isMarked_21 ?_
          refine lv_iconst (v := 1) hx hb dX6_isMarked_22 (by decide) ?_
          refine lv_icmp_ne (tgt := 30) hx hb dX6_isMarked_23 (by decide) (fun c_5 => ?_) (fun c_5 => ?_)
          · rw [if_neg c_5] at hf
            refine lv_iconst (v := 0) hx hb dX6_isMarked_30 (by decide) ?_
            exact B31 (fun x2 x3 x4 => fX6_isMarked_b5 N mk_f k x2 x3 x4) ih x2 x4 0 hf ls (lv_sub hl [0, 1, 3] rfl)
          · rw [if_pos c_5] at hf
            exact B26 (fun x2 x3 x4 => fX6_isMarked_b5 N mk_f k x2 x3 x4) ih x2 x4 hf ls (lv_sub hl [0, 1, 3] rfl)
  have hf := hf0
  unfold fX6_isMarked at hf
  refine lv_iconst (v := 0) hx hb dX6_isMarked_0 (by decide) ?_
  refine lv_istore_n (lv' := [(3, .int 0), (0, .ref a_model), (1, .int p1), (2, .int p2)]) hx hb dX6_isMarked_1 rfl hl (by decide) rfl (fun ls hl => ?_)
  refine lv_iload_n hx hb dX6_isMarked_2 rfl (lv_at hl 2 rfl) ?_
  refine lv_istore (lv' := [(4, .int p1), (3, .int 0), (0, .ref a_model), (1, .int p1), (2, .int p2)]) hx hb dX6_isMarked_3 hl (by decide) rfl (fun ls hl => ?_)
  exact B5 N p2 0 p1 hf ls (lv_sub hl [2, 4, 1, 0] rfl)
