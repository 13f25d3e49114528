def rmJ6_bitCount_0f7a4 : Room := { frames := 0, cells := 0, slots := 0, locals := 0 }
theorem lkJ6_bitCount_0f7a4_1 : Cond.constant RJ6 265 (1431655765) ∈ wsJ6_bitCount_0f7a4 := List.mem_of_getElem? (i := 1) rfl
theorem lkJ6_bitCount_0f7a4_2 : Cond.constant RJ6 266 (858993459) ∈ wsJ6_bitCount_0f7a4 := List.mem_of_getElem? (i := 2) rfl
theorem lkJ6_bitCount_0f7a4_3 : Cond.constant RJ6 267 (252645135) ∈ wsJ6_bitCount_0f7a4 := List.mem_of_getElem? (i := 3) rfl
set_option maxHeartbeats 4000000 in
set_option maxRecDepth 100000 in
theorem mJ6_bitCount_0f7a4 (l : Launch) (X : cxT) (N : Nat) (p0 : Int32) (r : Int32) (hf0 : fJ6_bitCount_0f7a4 N p0 = some r) : Met l yJ6_bitCount_0f7a4 wsJ6_bitCount_0f7a4 rmJ6_bitCount_0f7a4 (rPre X [] [.int p0]) (vp_Si (fun v : Int32 => v = r)) 0 0 (fun _ => False) := by
  refine Met.ofW (cc := cJ6_bitCount_0f7a4) (maxL := 1) (ret := (some .int)) (by decide) rfl ?_
  intro p e s m args below meth c s₁ B hml hv
  obtain ⟨rfl, hP, hK, hSt⟩ := hv
  have hx := B.exec
  have hb := B.bytes
  have hr := B.returns
  have hts := atoms_spec (ws := wsJ6_bitCount_0f7a4) B.pre
  have hown : s.vm.findClass RJ6 = some m.cls := findClass_of_methodNamed B.named
  have hlocks := B.notSynchronized
  have hS : va_S (fun _ => False) s.heap s.heap [] := va_S.rf
  have hl := lv_entry ([.int p0]) (n := 1) (Nat.le_of_ble_eq_true rfl)
  rw [lg_entry_eq]
  generalize (lg_sl ([.int p0]) ++ List.replicate (1 - (lg_sl ([.int p0])).length) Slot.unset).toArray = ls at hl ⊢
  have hl : lv_has ls 1 [(0, .int p0)] := hl
  have hf := hf0
  unfold fJ6_bitCount_0f7a4 at hf
  refine lv_iload_n hx hb dJ6_bitCount_0f7a4_0 rfl (lv_at hl 0 rfl) ?_
  refine lv_iload_n hx hb dJ6_bitCount_0f7a4_1 rfl (lv_at hl 0 rfl) ?_
  refine lv_iconst (v := 1) hx hb dJ6_bitCount_0f7a4_2 (by decide) ?_
  refine lv_iushr hx hb dJ6_bitCount_0f7a4_3 rfl ?_
  refine lv_ldcw (v := 1431655765) hx hb hown (hts _ lkJ6_bitCount_0f7a4_1) dJ6_bitCount_0f7a4_4 ?_
  refine lv_iand hx hb dJ6_bitCount_0f7a4_7 ?_
  refine lv_isub hx hb dJ6_bitCount_0f7a4_8 ?_
  obtain ⟨z_1, e_2, hf⟩ := bind_some hf
  refine lv_eqi (Option.some.inj e_2) ?_
  refine lv_istore_n (lv' := [(0, .int z_1)]) hx hb dJ6_bitCount_0f7a4_9 rfl hl (by decide) rfl (fun ls hl => ?_)
  refine lv_iload_n hx hb dJ6_bitCount_0f7a4_10 rfl (lv_at hl 0 rfl) ?_
  refine lv_ldcw (v := 858993459) hx hb hown (hts _ lkJ6_bitCount_0f7a4_2) dJ6_bitCount_0f7a4_11 ?_
  refine lv_iand hx hb dJ6_bitCount_0f7a4_14 ?_
  refine lv_iload_n hx hb dJ6_bitCount_0f7a4_15 rfl (lv_at hl 0 rfl) ?_
  refine lv_iconst (v := 2) hx hb dJ6_bitCount_0f7a4_16 (by decide) ?_
  refine lv_iushr hx hb dJ6_bitCount_0f7a4_17 rfl ?_
  refine lv_ldcw (v := 858993459) hx hb hown (hts _ lkJ6_bitCount_0f7a4_2) dJ6_bitCount_0f7a4_18 ?_
  refine lv_iand hx hb dJ6_bitCount_0f7a4_21 ?_
  refine lv_iadd hx hb dJ6_bitCount_0f7a4_22 ?_
  obtain ⟨z_3, e_4, hf⟩ := bind_some hf
  refine lv_eqi (Option.some.inj e_4) ?_
  refine lv_istore_n (lv' := [(0, .int z_3)]) hx hb dJ6_bitCount_0f7a4_23 rfl hl (by decide) rfl (fun ls hl => ?_)
  refine lv_iload_n hx hb dJ6_bitCount_0f7a4_24 rfl (lv_at hl 0 rfl) ?_
  refine lv_iload_n hx hb dJ6_bitCount_0f7a4_25 rfl (lv_at hl 0 rfl) ?_
  refine lv_iconst (v := 4) hx hb dJ6_bitCount_0f7a4_26 (by decide) ?_
  refine lv_iushr hx hb dJ6_bitCount_0f7a4_27 rfl ?_
  refine lv_iadd hx hb dJ6_bitCount_0f7a4_28 ?_
  refine lv_ldcw (v := 252645135) hx hb hown (hts _ lkJ6_bitCount_0f7a4_3) dJ6_bitCount_0f7a4_29 ?_
  refine lv_iand hx hb dJ6_bitCount_0f7a4_32 ?_
  obtain ⟨z_5, e_6, hf⟩ := bind_some hf
  refine lv_eqi (Option.some.inj e_6) ?_
  refine lv_istore_n (lv' := [(0, .int z_5)]) hx hb dJ6_bitCount_0f7a4_33 rfl hl (by decide) rfl (fun ls hl => ?_)
  refine lv_iload_n hx hb dJ6_bitCount_0f7a4_34 rfl (lv_at hl 0 rfl) ?_
  refine lv_iload_n hx hb dJ6_bitCount_0f7a4_35 rfl (lv_at hl 0 rfl) ?_
  refine lv_bipush (v := 8) hx hb dJ6_bitCount_0f7a4_36 (by decide) ?_
  refine lv_iushr hx hb dJ6_bitCount_0f7a4_38 rfl ?_
  refine lv_iadd hx hb dJ6_bitCount_0f7a4_39 ?_
  obtain ⟨z_7, e_8, hf⟩ := bind_some hf
  refine lv_eqi (Option.some.inj e_8) ?_
  refine lv_istore_n (lv' := [(0, .int z_7)]) hx hb dJ6_bitCount_0f7a4_40 rfl hl (by decide) rfl (fun ls hl => ?_)
  refine lv_iload_n hx hb dJ6_bitCount_0f7a4_41 rfl (lv_at hl 0 rfl) ?_
  refine lv_iload_n hx hb dJ6_bitCount_0f7a4_42 rfl (lv_at hl 0 rfl) ?_
  refine lv_bipush (v := 16) hx hb dJ6_bitCount_0f7a4_43 (by decide) ?_
  refine lv_iushr hx hb dJ6_bitCount_0f7a4_45 rfl ?_
  refine lv_iadd hx hb dJ6_bitCount_0f7a4_46 ?_
  obtain ⟨z_9, e_10, hf⟩ := bind_some hf
  refine lv_eqi (Option.some.inj e_10) ?_
  refine lv_istore_n (lv' := [(0, .int z_9)]) hx hb dJ6_bitCount_0f7a4_47 rfl hl (by decide) rfl (fun ls hl => ?_)
  refine lv_iload_n hx hb dJ6_bitCount_0f7a4_48 rfl (lv_at hl 0 rfl) ?_
  refine lv_bipush (v := 63) hx hb dJ6_bitCount_0f7a4_49 (by decide) ?_
  refine lv_iand hx hb dJ6_bitCount_0f7a4_51 ?_
  obtain rfl := Option.some.inj hf
  exact W.iret hx hb hr (fun t ht hW => ⟨_, rfl, rfl, ht⟩) (fun _ h => by cases h) dJ6_bitCount_0f7a4_52
def rmJ13_bitCount_95d88 : Room := { frames := 0, cells := 0, slots := 0, locals := 0 }
theorem lkJ13_bitCount_95d88_1 : Cond.constantLong RJ13 314 (6148914691236517205) ∈ wsJ13_bitCount_95d88 := List.mem_of_getElem? (i := 1) rfl
theorem lkJ13_bitCount_95d88_2 : Cond.constantLong RJ13 316 (3689348814741910323) ∈ wsJ13_bitCount_95d88 := List.mem_of_getElem? (i := 2) rfl
theorem lkJ13_bitCount_95d88_3 : Cond.constantLong RJ13 318 (1085102592571150095) ∈ wsJ13_bitCount_95d88 := List.mem_of_getElem? (i := 3) rfl
set_option maxHeartbeats 4000000 in
set_option maxRecDepth 100000 in
theorem mJ13_bitCount_95d88 (l : Launch) (X : cxT) (N : Nat) (p0 : Int64) (r : Int32) (hf0 : fJ13_bitCount_95d88 N p0 = some r) : Met l yJ13_bitCount_95d88 wsJ13_bitCount_95d88 rmJ13_bitCount_95d88 (rPre X [] [.long p0]) (vp_Si (fun v : Int32 => v = r)) 0 0 (fun _ => False) := by
  refine Met.ofW (cc := cJ13_bitCount_95d88) (maxL := 2) (ret := (some .int)) (by decide) rfl ?_
  intro p e s m args below meth c s₁ B hml hv
  obtain ⟨rfl, hP, hK, hSt⟩ := hv
  have hx := B.exec
  have hb := B.bytes
  have hr := B.returns
  have hts := atoms_spec (ws := wsJ13_bitCount_95d88) B.pre
  have hown : s.vm.findClass RJ13 = some m.cls := findClass_of_methodNamed B.named
  have hlocks := B.notSynchronized
  have hS : va_S (fun _ => False) s.heap s.heap [] := va_S.rf
  have hl := lv_entry ([.long p0]) (n := 2) (Nat.le_of_ble_eq_true rfl)
  rw [lg_entry_eq]
  generalize (lg_sl ([.long p0]) ++ List.replicate (2 - (lg_sl ([.long p0])).length) Slot.unset).toArray = ls at hl ⊢
  have hl : lv_has ls 2 [(0, .long p0)] := hl
  have hf := hf0
  unfold fJ13_bitCount_95d88 at hf
  refine lv_lload_n hx hb dJ13_bitCount_95d88_0 rfl (lv_at hl 0 rfl) ?_
  refine lv_lload_n hx hb dJ13_bitCount_95d88_1 rfl (lv_at hl 0 rfl) ?_
  refine lv_iconst (v := 1) hx hb dJ13_bitCount_95d88_2 (by decide) ?_
  refine lv_lushr hx hb dJ13_bitCount_95d88_3 rfl ?_
  refine lv_ldc2 (v := 6148914691236517205) hx hb hown (hts _ lkJ13_bitCount_95d88_1) dJ13_bitCount_95d88_4 ?_
  refine lv_land hx hb dJ13_bitCount_95d88_7 ?_
  refine lv_lsub hx hb dJ13_bitCount_95d88_8 ?_
  obtain ⟨z_1, e_2, hf⟩ := bind_some hf
  refine lv_eql (Option.some.inj e_2) ?_
  refine lv_lstore_n (lv' := [(0, .long z_1)]) hx hb dJ13_bitCount_95d88_9 rfl hl (by decide) rfl (fun ls hl => ?_)
  refine lv_lload_n hx hb dJ13_bitCount_95d88_10 rfl (lv_at hl 0 rfl) ?_
  refine lv_ldc2 (v := 3689348814741910323) hx hb hown (hts _ lkJ13_bitCount_95d88_2) dJ13_bitCount_95d88_11 ?_
  refine lv_land hx hb dJ13_bitCount_95d88_14 ?_
  refine lv_lload_n hx hb dJ13_bitCount_95d88_15 rfl (lv_at hl 0 rfl) ?_
  refine lv_iconst (v := 2) hx hb dJ13_bitCount_95d88_16 (by decide) ?_
  refine lv_lushr hx hb dJ13_bitCount_95d88_17 rfl ?_
  refine lv_ldc2 (v := 3689348814741910323) hx hb hown (hts _ lkJ13_bitCount_95d88_2) dJ13_bitCount_95d88_18 ?_
  refine lv_land hx hb dJ13_bitCount_95d88_21 ?_
  refine lv_ladd hx hb dJ13_bitCount_95d88_22 ?_
  obtain ⟨z_3, e_4, hf⟩ := bind_some hf
  refine lv_eql (Option.some.inj e_4) ?_
  refine lv_lstore_n (lv' := [(0, .long z_3)]) hx hb dJ13_bitCount_95d88_23 rfl hl (by decide) rfl (fun ls hl => ?_)
  refine lv_lload_n hx hb dJ13_bitCount_95d88_24 rfl (lv_at hl 0 rfl) ?_
  refine lv_lload_n hx hb dJ13_bitCount_95d88_25 rfl (lv_at hl 0 rfl) ?_
  refine lv_iconst (v := 4) hx hb dJ13_bitCount_95d88_26 (by decide) ?_
  refine lv_lushr hx hb dJ13_bitCount_95d88_27 rfl ?_
  refine lv_ladd hx hb dJ13_bitCount_95d88_28 ?_
  refine lv_ldc2 (v := 1085102592571150095) hx hb hown (hts _ lkJ13_bitCount_95d88_3) dJ13_bitCount_95d88_29 ?_
  refine lv_land hx hb dJ13_bitCount_95d88_32 ?_
  obtain ⟨z_5, e_6, hf⟩ := bind_some hf
  refine lv_eql (Option.some.inj e_6) ?_
  refine lv_lstore_n (lv' := [(0, .long z_5)]) hx hb dJ13_bitCount_95d88_33 rfl hl (by decide) rfl (fun ls hl => ?_)
  refine lv_lload_n hx hb dJ13_bitCount_95d88_34 rfl (lv_at hl 0 rfl) ?_
  refine lv_lload_n hx hb dJ13_bitCount_95d88_35 rfl (lv_at hl 0 rfl) ?_
  refine lv_bipush (v := 8) hx hb dJ13_bitCount_95d88_36 (by decide) ?_
  refine lv_lushr hx hb dJ13_bitCount_95d88_38 rfl ?_
  refine lv_ladd hx hb dJ13_bitCount_95d88_39 ?_
  obtain ⟨z_7, e_8, hf⟩ := bind_some hf
  refine lv_eql (Option.some.inj e_8) ?_
  refine lv_lstore_n (lv' := [(0, .long z_7)]) hx hb dJ13_bitCount_95d88_40 rfl hl (by decide) rfl (fun ls hl => ?_)
  refine lv_lload_n hx hb dJ13_bitCount_95d88_41 rfl (lv_at hl 0 rfl) ?_
  refine lv_lload_n hx hb dJ13_bitCount_95d88_42 rfl (lv_at hl 0 rfl) ?_
  refine lv_bipush (v := 16) hx hb dJ13_bitCount_95d88_43 (by decide) ?_
  refine lv_lushr hx hb dJ13_bitCount_95d88_45 rfl ?_
  refine lv_ladd hx hb dJ13_bitCount_95d88_46 ?_
  obtain ⟨z_9, e_10, hf⟩ := bind_some hf
  refine lv_eql (Option.some.inj e_10) ?_
  refine lv_lstore_n (lv' := [(0, .long z_9)]) hx hb dJ13_bitCount_95d88_47 rfl hl (by decide) rfl (fun ls hl => ?_)
  refine lv_lload_n hx hb dJ13_bitCount_95d88_48 rfl (lv_at hl 0 rfl) ?_
  refine lv_lload_n hx hb dJ13_bitCount_95d88_49 rfl (lv_at hl 0 rfl) ?_
  refine lv_bipush (v := 32) hx hb dJ13_bitCount_95d88_50 (by decide) ?_
  refine lv_lushr hx hb dJ13_bitCount_95d88_52 rfl ?_
  refine lv_ladd hx hb dJ13_bitCount_95d88_53 ?_
  obtain ⟨z_11, e_12, hf⟩ := bind_some hf
  refine lv_eql (Option.some.inj e_12) ?_
  refine lv_lstore_n (lv' := [(0, .long z_11)]) hx hb dJ13_bitCount_95d88_54 rfl hl (by decide) rfl (fun ls hl => ?_)
  refine lv_lload_n hx hb dJ13_bitCount_95d88_55 rfl (lv_at hl 0 rfl) ?_
  refine lv_l2i hx hb dJ13_bitCount_95d88_56 rfl ?_
  refine lv_bipush (v := 127) hx hb dJ13_bitCount_95d88_57 (by decide) ?_
  refine lv_iand hx hb dJ13_bitCount_95d88_59 ?_
  obtain rfl := Option.some.inj hf
  exact W.iret hx hb hr (fun t ht hW => ⟨_, rfl, rfl, ht⟩) (fun _ h => by cases h) dJ13_bitCount_95d88_60
def rmX5_isWithin : Room := { frames := 0, cells := 0, slots := 0, locals := 0 }
set_option maxHeartbeats 4000000 in
set_option maxRecDepth 100000 in
theorem mX5_isWithin (l : Launch) (X : cxT) (N : Nat) (p0 : Int32) (p1 : Int32) (p2 : Int32) (r : Int32) (hf0 : fX5_isWithin N p0 p1 p2 = some r) : Met l yX5_isWithin wsX5_isWithin rmX5_isWithin (rPre X [] [.int p0, .int p1, .int p2]) (vp_Si (fun v : Int32 => v = r)) 0 0 (fun _ => False) := by
  refine Met.ofW (cc := cX5_isWithin) (maxL := 3) (ret := (some .boolean)) (by decide) rfl ?_
  intro p e s m args below meth c s₁ B hml hv
  obtain ⟨rfl, hP, hK, hSt⟩ := hv
  have hx := B.exec
  have hb := B.bytes
  have hr := B.returns
  have hts := atoms_spec (ws := wsX5_isWithin) B.pre
  have hown : s.vm.findClass RX5 = some m.cls := findClass_of_methodNamed B.named
  have hlocks := B.notSynchronized
  have hS : va_S (fun _ => False) s.heap s.heap [] := va_S.rf
  have hl := lv_entry ([.int p0, .int p1, .int p2]) (n := 3) (Nat.le_of_ble_eq_true rfl)
  rw [lg_entry_eq]
  generalize (lg_sl ([.int p0, .int p1, .int p2]) ++ List.replicate (3 - (lg_sl ([.int p0, .int p1, .int p2])).length) Slot.unset).toArray = ls at hl ⊢
  have hl : lv_has ls 3 [(0, .int p0), (1, .int p1), (2, .int p2)] := hl
  have hf := hf0
  unfold fX5_isWithin at hf
  refine lv_iload_n hx hb dX5_isWithin_0 rfl (lv_at hl 0 rfl) ?_
  refine lv_iload_n hx hb dX5_isWithin_1 rfl (lv_at hl 1 rfl) ?_
  refine lv_icmp_lt (tgt := 14) hx hb dX5_isWithin_2 (by decide) (fun c_1 => ?_) (fun c_1 => ?_)
  · rw [if_pos c_1] at hf
    refine lv_iconst (v := 0) hx hb dX5_isWithin_14 (by decide) ?_
    obtain rfl := Option.some.inj hf
    exact W.zret hx hb hr rfl (fun t ht hW => ⟨_, rfl, rfl, ht⟩) (fun _ h => by cases h) dX5_isWithin_15
  · rw [if_neg c_1] at hf
    refine lv_iload_n hx hb dX5_isWithin_5 rfl (lv_at hl 0 rfl) ?_
    refine lv_iload_n hx hb dX5_isWithin_6 rfl (lv_at hl 2 rfl) ?_
    refine lv_icmp_gt (tgt := 14) hx hb dX5_isWithin_7 (by decide) (fun c_2 => ?_) (fun c_2 => ?_)
    · rw [if_pos c_2] at hf
      refine lv_iconst (v := 0) hx hb dX5_isWithin_14 (by decide) ?_
      obtain rfl := Option.some.inj hf
      exact W.zret hx hb hr rfl (fun t ht hW => ⟨_, rfl, rfl, ht⟩) (fun _ h => by cases h) dX5_isWithin_15
    · rw [if_neg c_2] at hf
      refine lv_iconst (v := 1) hx hb dX5_isWithin_10 (by decide) ?_
      refine lv_goto (tgt := 15) hx hb dX5_isWithin_11 (by decide) ?_
      obtain rfl := Option.some.inj hf
      exact W.zret hx hb hr rfl (fun t ht hW => ⟨_, rfl, rfl, ht⟩) (fun _ h => by cases h) dX5_isWithin_15
def rmX5_isOrder : Room := { frames := 0, cells := 0, slots := 0, locals := 0 }
set_option maxHeartbeats 4000000 in
set_option maxRecDepth 100000 in
theorem mX5_isOrder (l : Launch) (X : cxT) (N : Nat) (p0 : Int32) (r : Int32) (hf0 : fX5_isOrder N p0 = some r) : Met l yX5_isOrder wsX5_isOrder rmX5_isOrder (rPre X [] [.int p0]) (vp_Si (fun v : Int32 => v = r)) 0 0 (fun _ => False) := by
  refine Met.ofW (cc := cX5_isOrder) (maxL := 1) (ret := (some .boolean)) (by decide) rfl ?_
  intro p e s m args below meth c s₁ B hml hv
  obtain ⟨rfl, hP, hK, hSt⟩ := hv
  have hx := B.exec
  have hb := B.bytes
  have hr := B.returns
  have hts := atoms_spec (ws := wsX5_isOrder) B.pre
  have hown : s.vm.findClass RX5 = some m.cls := findClass_of_methodNamed B.named
  have hlocks := B.notSynchronized
  have hS : va_S (fun _ => False) s.heap s.heap [] := va_S.rf
  have hl := lv_entry ([.int p0]) (n := 1) (Nat.le_of_ble_eq_true rfl)
  rw [lg_entry_eq]
  generalize (lg_sl ([.int p0]) ++ List.replicate (1 - (lg_sl ([.int p0])).length) Slot.unset).toArray = ls at hl ⊢
  have hl : lv_has ls 1 [(0, .int p0)] := hl
  have hf := hf0
  unfold fX5_isOrder at hf
  refine lv_iload_n hx hb dX5_isOrder_0 rfl (lv_at hl 0 rfl) ?_
  refine lv_if_lt (tgt := 15) hx hb dX5_isOrder_1 (by decide) (fun c_1 => ?_) (fun c_1 => ?_)
  · rw [if_pos c_1] at hf
    refine lv_iconst (v := 0) hx hb dX5_isOrder_15 (by decide) ?_
    obtain rfl := Option.some.inj hf
    exact W.zret hx hb hr rfl (fun t ht hW => ⟨_, rfl, rfl, ht⟩) (fun _ h => by cases h) dX5_isOrder_16
  · rw [if_neg c_1] at hf
    refine lv_iload_n hx hb dX5_isOrder_4 rfl (lv_at hl 0 rfl) ?_
    refine lv_sipush (v := 200) hx hb dX5_isOrder_5 (by decide) ?_
    refine lv_icmp_ge (tgt := 15) hx hb dX5_isOrder_8 (by decide) (fun c_2 => ?_) (fun c_2 => ?_)
    · rw [if_pos c_2] at hf
      refine lv_iconst (v := 0) hx hb dX5_isOrder_15 (by decide) ?_
      obtain rfl := Option.some.inj hf
      exact W.zret hx hb hr rfl (fun t ht hW => ⟨_, rfl, rfl, ht⟩) (fun _ h => by cases h) dX5_isOrder_16
    · rw [if_neg c_2] at hf
      refine lv_iconst (v := 1) hx hb dX5_isOrder_11 (by decide) ?_
      refine lv_goto (tgt := 16) hx hb dX5_isOrder_12 (by decide) ?_
      obtain rfl := Option.some.inj hf
      exact W.zret hx hb hr rfl (fun t ht hW => ⟨_, rfl, rfl, ht⟩) (fun _ h => by cases h) dX5_isOrder_16
def rmX5_isLotSize : Room := { frames := 1, cells := 0, slots := 0, locals := 22 }
set_option maxHeartbeats 4000000 in
set_option maxRecDepth 100000 in
theorem mX5_isLotSize (l : Launch) (X : cxT) (N : Nat) (p0 : Int32) (r : Int32) (hf0 : fX5_isLotSize N p0 = some r) : Met l yX5_isLotSize wsX5_isLotSize rmX5_isLotSize (rPre X [] [.int p0]) (vp_Si (fun v : Int32 => v = r)) 0 0 (fun _ => False) := by
  refine Met.ofW (cc := cX5_isLotSize) (maxL := 1) (ret := (some .boolean)) (by decide) rfl ?_
  intro p e s m args below meth c s₁ B hml hv
  obtain ⟨rfl, hP, hK, hSt⟩ := hv
  have hx := B.exec
  have hb := B.bytes
  have hr := B.returns
  have hts := atoms_spec (ws := wsX5_isLotSize) B.pre
  have hown : s.vm.findClass RX5 = some m.cls := findClass_of_methodNamed B.named
  have hlocks := B.notSynchronized
  have hS : va_S (fun _ => False) s.heap s.heap [] := va_S.rf
  have hl := lv_entry ([.int p0]) (n := 1) (Nat.le_of_ble_eq_true rfl)
  rw [lg_entry_eq]
  generalize (lg_sl ([.int p0]) ++ List.replicate (1 - (lg_sl ([.int p0])).length) Slot.unset).toArray = ls at hl ⊢
  have hl : lv_has ls 1 [(0, .int p0)] := hl
  have hf := hf0
  unfold fX5_isLotSize at hf
  refine lv_iload_n hx hb dX5_isLotSize_0 rfl (lv_at hl 0 rfl) ?_
  refine lv_iconst (v := 2) hx hb dX5_isLotSize_1 (by decide) ?_
  refine lv_sipush (v := 5000) hx hb dX5_isLotSize_2 (by decide) ?_
  obtain ⟨r_1, e_2, hf⟩ := bind_some hf
  refine vp_callSi (W.runS (As := [.int p0, .int 2, .int 5000]) (rest := []) ⟨hx, hb, hml, hown, hts⟩ (mX5_isWithin l X N p0 2 5000 r_1 e_2) (va_cwS 3 hts gX5_isLotSize_X5_isWithin rfl rfl rfl (by decide +kernel) ⟨Nat.le_of_ble_eq_true rfl, Nat.le_of_ble_eq_true rfl⟩) (rPreS hK hP hSt hS [] rfl) rfl rfl hl.1 rfl (lv_room (Nat.le_of_ble_eq_true rfl)) dX5_isLotSize_5 ⟨Nat.zero_le _, Nat.zero_le _⟩) (fun v9 e9 => ?_)
  rw [e9]
  obtain ⟨g_3, hf⟩ := ite_some hf
  obtain rfl := Option.some.inj hf
  exact W.zret hx hb hr (zb_n g_3) (fun t ht hW => ⟨_, rfl, rfl, ht⟩) (fun _ h => by cases h) dX5_isLotSize_8
def rmX5_isFindings : Room := { frames := 0, cells := 0, slots := 0, locals := 0 }
theorem lkX5_isFindings_1 : Cond.constantLong RX5 162 (1125899906842623) ∈ wsX5_isFindings := List.mem_of_getElem? (i := 1) rfl
set_option maxHeartbeats 4000000 in
set_option maxRecDepth 100000 in
theorem mX5_isFindings (l : Launch) (X : cxT) (N : Nat) (p0 : Int64) (r : Int32) (hf0 : fX5_isFindings N p0 = some r) : Met l yX5_isFindings wsX5_isFindings rmX5_isFindings (rPre X [] [.long p0]) (vp_Si (fun v : Int32 => v = r)) 0 0 (fun _ => False) := by
  refine Met.ofW (cc := cX5_isFindings) (maxL := 2) (ret := (some .boolean)) (by decide) rfl ?_
  intro p e s m args below meth c s₁ B hml hv
  obtain ⟨rfl, hP, hK, hSt⟩ := hv
  have hx := B.exec
  have hb := B.bytes
  have hr := B.returns
  have hts := atoms_spec (ws := wsX5_isFindings) B.pre
  have hown : s.vm.findClass RX5 = some m.cls := findClass_of_methodNamed B.named
  have hlocks := B.notSynchronized
  have hS : va_S (fun _ => False) s.heap s.heap [] := va_S.rf
  have hl := lv_entry ([.long p0]) (n := 2) (Nat.le_of_ble_eq_true rfl)
  rw [lg_entry_eq]
  generalize (lg_sl ([.long p0]) ++ List.replicate (2 - (lg_sl ([.long p0])).length) Slot.unset).toArray = ls at hl ⊢
  have hl : lv_has ls 2 [(0, .long p0)] := hl
  have hf := hf0
  unfold fX5_isFindings at hf
  refine lv_lload_n hx hb dX5_isFindings_0 rfl (lv_at hl 0 rfl) ?_
  refine lv_lconst (v := 0) hx hb dX5_isFindings_1 (by decide) ?_
  refine W.lcmp hx hb dX5_isFindings_2 ?_
  refine lv_if_lt (tgt := 18) hx hb dX5_isFindings_3 (by decide) (fun c_1 => ?_) (fun c_1 => ?_)
  · rw [if_pos c_1] at hf
    refine lv_iconst (v := 0) hx hb dX5_isFindings_18 (by decide) ?_
    obtain rfl := Option.some.inj hf
    exact W.zret hx hb hr rfl (fun t ht hW => ⟨_, rfl, rfl, ht⟩) (fun _ h => by cases h) dX5_isFindings_19
  · rw [if_neg c_1] at hf
    refine lv_lload_n hx hb dX5_isFindings_6 rfl (lv_at hl 0 rfl) ?_
    refine lv_ldc2 (v := 1125899906842623) hx hb hown (hts _ lkX5_isFindings_1) dX5_isFindings_7 ?_
    refine W.lcmp hx hb dX5_isFindings_10 ?_
    refine lv_if_gt (tgt := 18) hx hb dX5_isFindings_11 (by decide) (fun c_2 => ?_) (fun c_2 => ?_)
    · rw [if_pos c_2] at hf
      refine lv_iconst (v := 0) hx hb dX5_isFindings_18 (by decide) ?_
      obtain rfl := Option.some.inj hf
      exact W.zret hx hb hr rfl (fun t ht hW => ⟨_, rfl, rfl, ht⟩) (fun _ h => by cases h) dX5_isFindings_19
    · rw [if_neg c_2] at hf
      refine lv_iconst (v := 1) hx hb dX5_isFindings_14 (by decide) ?_
      refine lv_goto (tgt := 19) hx hb dX5_isFindings_15 (by decide) ?_
      obtain rfl := Option.some.inj hf
      exact W.zret hx hb hr rfl (fun t ht hW => ⟨_, rfl, rfl, ht⟩) (fun _ h => by cases h) dX5_isFindings_19
def rmX1_choices : Room := { frames := 0, cells := 0, slots := 0, locals := 0 }
set_option maxHeartbeats 4000000 in
set_option maxRecDepth 100000 in
theorem mX1_choices (l : Launch) (X : cxT) (N : Nat) (p0 : Int32) (p1 : Int32) (r : Int64) (hf0 : fX1_choices N p0 p1 = some r) : Met l yX1_choices wsX1_choices rmX1_choices (rPre X [] [.int p0, .int p1]) (vp_Sl (fun v : Int64 => v = r)) 0 0 (fun _ => False) := by
  refine Met.ofW (cc := cX1_choices) (maxL := 5) (ret := (some .long)) (by decide) rfl ?_
  intro p e s m args below meth c s₁ B hml hv
  obtain ⟨rfl, hP, hK, hSt⟩ := hv
  have hx := B.exec
  have hb := B.bytes
  have hr := B.returns
  have hts := atoms_spec (ws := wsX1_choices) B.pre
  have hown : s.vm.findClass RX1 = some m.cls := findClass_of_methodNamed B.named
  have hlocks := B.notSynchronized
  have hS : va_S (fun _ => False) s.heap s.heap [] := va_S.rf
  have hl := lv_entry ([.int p0, .int p1]) (n := 5) (Nat.le_of_ble_eq_true rfl)
  rw [lg_entry_eq]
  generalize (lg_sl ([.int p0, .int p1]) ++ List.replicate (5 - (lg_sl ([.int p0, .int p1])).length) Slot.unset).toArray = ls at hl ⊢
  have hl : lv_has ls 5 [(0, .int p0), (1, .int p1)] := hl
  have B16 : ∀ k : Nat, (∀ (x0 : Int32) (x1 : Int32) (x2 : Int64) (x4 : Int32), fX1_choices_b16 N k x0 x1 x2 x4 = some r → ∀ ls : Array Slot, lv_has ls 5 [(0, .int x0), (1, .int x1), (2, .long x2), (4, .int x4)] → W p l e (headSpec wsX1_choices rmX1_choices).room s m (([.int p0, .int p1] : List Value).toArray) below meth c s.heap [] 0 0 (MQ below (vp_Sl (fun v : Int64 => v = r)) ([.int p0, .int p1] : List Value).toArray s 0 0 (fun _ => False)) (F0 m 16 ls [])) := by
    intro k
    induction k with
    | zero =>
      intro x0 x1 x2 x4 hf ls hl
      exact nomatch (show (none : Option (Int64)) = some r from hf)
    | succ k ih =>
      intro x0 x1 x2 x4 hf ls hl
      unfold fX1_choices_b16 at hf
      refine lv_iload hx hb dX1_choices_16 (lv_at hl 3 rfl) ?_
      refine lv_iload_n hx hb dX1_choices_18 rfl (lv_at hl 1 rfl) ?_
      refine lv_icmp_gt (tgt := 42) hx hb dX1_choices_19 (by decide) (fun c_1 => ?_) (fun c_1 => ?_)
      · rw [if_pos c_1] at hf
        refine lv_lload_n hx hb dX1_choices_42 rfl (lv_at hl 2 rfl) ?_
        obtain rfl := Option.some.inj hf
        exact W.lret hx hb hr (fun t ht hW => ⟨_, rfl, rfl, ht⟩) (fun _ h => by cases h) dX1_choices_43
      · rw [if_neg c_1] at hf
        refine lv_lload_n hx hb dX1_choices_22 rfl (lv_at hl 2 rfl) ?_
        refine lv_iload_n hx hb dX1_choices_23 rfl (lv_at hl 0 rfl) ?_
        refine lv_iload_n hx hb dX1_choices_24 rfl (lv_at hl 1 rfl) ?_
        refine lv_isub hx hb dX1_choices_25 ?_
        refine lv_iload hx hb dX1_choices_26 (lv_at hl 3 rfl) ?_
        refine lv_iadd hx hb dX1_choices_28 ?_
        refine lv_i2l hx hb dX1_choices_29 rfl ?_
        refine lv_lmul hx hb dX1_choices_30 ?_
        refine lv_iload hx hb dX1_choices_31 (lv_at hl 3 rfl) ?_
        refine lv_i2l hx hb dX1_choices_33 rfl ?_
        obtain ⟨g_2, hf⟩ := ite_some hf
        refine lv_ldiv hx hb dX1_choices_34 g_2 ?_
        obtain ⟨z_3, e_4, hf⟩ := bind_some hf
        refine lv_eql (Option.some.inj e_4) ?_
        refine lv_lstore_n (lv' := [(2, .long z_3), (0, .int x0), (1, .int x1), (4, .int x4)]) hx hb dX1_choices_35 rfl hl (by decide) rfl (fun ls hl => ?_)
        refine lv_iinc (v := x4 + 1) (lv' := [(4, .int (x4 + 1)), (2, .long z_3), (0, .int x0), (1, .int x1)]) hx hb dX1_choices_36 hl (k := 3) rfl rfl (by decide) rfl (fun ls hl => ?_)
        refine lv_goto (tgt := 16) hx hb dX1_choices_39 (by decide) ?_
        exact ih x0 x1 z_3 (x4 + 1) hf ls (lv_sub hl [2, 3, 1, 0] rfl)
  have hf := hf0
  unfold fX1_choices at hf
  refine lv_iload_n hx hb dX1_choices_0 rfl (lv_at hl 1 rfl) ?_
  refine lv_if_lt (tgt := 9) hx hb dX1_choices_1 (by decide) (fun c_5 => ?_) (fun c_5 => ?_)
  · rw [if_pos c_5] at hf
    refine lv_lconst (v := 0) hx hb dX1_choices_9 (by decide) ?_
    obtain rfl := Option.some.inj hf
    exact W.lret hx hb hr (fun t ht hW => ⟨_, rfl, rfl, ht⟩) (fun _ h => by cases h) dX1_choices_10
  · rw [if_neg c_5] at hf
    refine lv_iload_n hx hb dX1_choices_4 rfl (lv_at hl 1 rfl) ?_
    refine lv_iload_n hx hb dX1_choices_5 rfl (lv_at hl 0 rfl) ?_
    refine lv_icmp_le (tgt := 11) hx hb dX1_choices_6 (by decide) (fun c_6 => ?_) (fun c_6 => ?_)
    · rw [if_pos c_6] at hf
      refine lv_lconst (v := 1) hx hb dX1_choices_11 (by decide) ?_
      refine lv_lstore_n (lv' := [(2, .long 1), (0, .int p0), (1, .int p1)]) hx hb dX1_choices_12 rfl hl (by decide) rfl (fun ls hl => ?_)
      refine lv_iconst (v := 1) hx hb dX1_choices_13 (by decide) ?_
      refine lv_istore (lv' := [(4, .int 1), (2, .long 1), (0, .int p0), (1, .int p1)]) hx hb dX1_choices_14 hl (by decide) rfl (fun ls hl => ?_)
      exact B16 N p0 p1 1 1 hf ls (lv_sub hl [2, 3, 1, 0] rfl)
    · rw [if_neg c_6] at hf
      refine lv_lconst (v := 0) hx hb dX1_choices_9 (by decide) ?_
      obtain rfl := Option.some.inj hf
      exact W.lret hx hb hr (fun t ht hW => ⟨_, rfl, rfl, ht⟩) (fun _ h => by cases h) dX1_choices_10
def rmX1_withExactly : Room := { frames := 1, cells := 0, slots := 0, locals := 24 }
set_option maxHeartbeats 4000000 in
set_option maxRecDepth 100000 in
theorem mX1_withExactly (l : Launch) (X : cxT) (N : Nat) (p0 : Int32) (p1 : Int32) (p2 : Int32) (p3 : Int32) (r : Int64) (hf0 : fX1_withExactly N p0 p1 p2 p3 = some r) : Met l yX1_withExactly wsX1_withExactly rmX1_withExactly (rPre X [] [.int p0, .int p1, .int p2, .int p3]) (vp_Sl (fun v : Int64 => v = r)) 0 0 (fun _ => False) := by
  refine Met.ofW (cc := cX1_withExactly) (maxL := 4) (ret := (some .long)) (by decide) rfl ?_
  intro p e s m args below meth c s₁ B hml hv
  obtain ⟨rfl, hP, hK, hSt⟩ := hv
  have hx := B.exec
  have hb := B.bytes
  have hr := B.returns
  have hts := atoms_spec (ws := wsX1_withExactly) B.pre
  have hown : s.vm.findClass RX1 = some m.cls := findClass_of_methodNamed B.named
  have hlocks := B.notSynchronized
  have hS : va_S (fun _ => False) s.heap s.heap [] := va_S.rf
  have hl := lv_entry ([.int p0, .int p1, .int p2, .int p3]) (n := 4) (Nat.le_of_ble_eq_true rfl)
  rw [lg_entry_eq]
  generalize (lg_sl ([.int p0, .int p1, .int p2, .int p3]) ++ List.replicate (4 - (lg_sl ([.int p0, .int p1, .int p2, .int p3])).length) Slot.unset).toArray = ls at hl ⊢
  have hl : lv_has ls 4 [(0, .int p0), (1, .int p1), (2, .int p2), (3, .int p3)] := hl
  have hf := hf0
  unfold fX1_withExactly at hf
  refine lv_iload_n hx hb dX1_withExactly_0 rfl (lv_at hl 1 rfl) ?_
  refine lv_iload_n hx hb dX1_withExactly_1 rfl (lv_at hl 3 rfl) ?_
  obtain ⟨r_1, e_2, hf⟩ := bind_some hf
  refine vp_callSl (W.runS (As := [.int p1, .int p3]) (rest := []) ⟨hx, hb, hml, hown, hts⟩ (mX1_choices l X N p1 p3 r_1 e_2) (va_cwS 2 hts gX1_withExactly_X1_choices rfl rfl rfl (by decide +kernel) ⟨Nat.le_of_ble_eq_true rfl, Nat.le_of_ble_eq_true rfl⟩) (rPreS hK hP hSt hS [] rfl) rfl rfl hl.1 rfl (lv_room (Nat.le_of_ble_eq_true rfl)) dX1_withExactly_2 ⟨Nat.zero_le _, Nat.zero_le _⟩) (fun v9 e9 => ?_)
  rw [e9]
  refine lv_iload_n hx hb dX1_withExactly_5 rfl (lv_at hl 0 rfl) ?_
  refine lv_iload_n hx hb dX1_withExactly_6 rfl (lv_at hl 1 rfl) ?_
  refine lv_isub hx hb dX1_withExactly_7 ?_
  refine lv_iload_n hx hb dX1_withExactly_8 rfl (lv_at hl 2 rfl) ?_
  refine lv_iload_n hx hb dX1_withExactly_9 rfl (lv_at hl 3 rfl) ?_
  refine lv_isub hx hb dX1_withExactly_10 ?_
  obtain ⟨r_3, e_4, hf⟩ := bind_some hf
  refine vp_callSl (W.runS (As := [.int (p0 - p1), .int (p2 - p3)]) (rest := [.long r_1]) ⟨hx, hb, hml, hown, hts⟩ (mX1_choices l X N (p0 - p1) (p2 - p3) r_3 e_4) (va_cwS 2 hts gX1_withExactly_X1_choices rfl rfl rfl (by decide +kernel) ⟨Nat.le_of_ble_eq_true rfl, Nat.le_of_ble_eq_true rfl⟩) (rPreS hK hP hSt hS [] rfl) rfl rfl hl.1 rfl (lv_room (Nat.le_of_ble_eq_true rfl)) dX1_withExactly_11 ⟨Nat.zero_le _, Nat.zero_le _⟩) (fun v9 e9 => ?_)
  rw [e9]
  refine lv_lmul hx hb dX1_withExactly_14 ?_
  obtain rfl := Option.some.inj hf
  exact W.lret hx hb hr (fun t ht hW => ⟨_, rfl, rfl, ht⟩) (fun _ h => by cases h) dX1_withExactly_15
def rmX1_withAtMost : Room := { frames := 2, cells := 0, slots := 0, locals := 47 }
set_option maxHeartbeats 4000000 in
set_option maxRecDepth 100000 in
theorem mX1_withAtMost (l : Launch) (X : cxT) (N : Nat) (p0 : Int32) (p1 : Int32) (p2 : Int32) (p3 : Int32) (r : Int64) (hf0 : fX1_withAtMost N p0 p1 p2 p3 = some r) : Met l yX1_withAtMost wsX1_withAtMost rmX1_withAtMost (rPre X [] [.int p0, .int p1, .int p2, .int p3]) (vp_Sl (fun v : Int64 => v = r)) 0 0 (fun _ => False) := by
  refine Met.ofW (cc := cX1_withAtMost) (maxL := 7) (ret := (some .long)) (by decide) rfl ?_
  intro p e s m args below meth c s₁ B hml hv
  obtain ⟨rfl, hP, hK, hSt⟩ := hv
  have hx := B.exec
  have hb := B.bytes
  have hr := B.returns
  have hts := atoms_spec (ws := wsX1_withAtMost) B.pre
  have hown : s.vm.findClass RX1 = some m.cls := findClass_of_methodNamed B.named
  have hlocks := B.notSynchronized
  have hS : va_S (fun _ => False) s.heap s.heap [] := va_S.rf
  have hl := lv_entry ([.int p0, .int p1, .int p2, .int p3]) (n := 7) (Nat.le_of_ble_eq_true rfl)
  rw [lg_entry_eq]
  generalize (lg_sl ([.int p0, .int p1, .int p2, .int p3]) ++ List.replicate (7 - (lg_sl ([.int p0, .int p1, .int p2, .int p3])).length) Slot.unset).toArray = ls at hl ⊢
  have hl : lv_has ls 7 [(0, .int p0), (1, .int p1), (2, .int p2), (3, .int p3)] := hl
  have B6 : ∀ k : Nat, (∀ (x0 : Int32) (x1 : Int32) (x2 : Int32) (x3 : Int32) (x4 : Int64) (x6 : Int32), fX1_withAtMost_b6 N k x0 x1 x2 x3 x4 x6 = some r → ∀ ls : Array Slot, lv_has ls 7 [(0, .int x0), (1, .int x1), (2, .int x2), (3, .int x3), (4, .long x4), (6, .int x6)] → W p l e (headSpec wsX1_withAtMost rmX1_withAtMost).room s m (([.int p0, .int p1, .int p2, .int p3] : List Value).toArray) below meth c s.heap [] 0 0 (MQ below (vp_Sl (fun v : Int64 => v = r)) ([.int p0, .int p1, .int p2, .int p3] : List Value).toArray s 0 0 (fun _ => False)) (F0 m 6 ls [])) := by
    intro k
    induction k with
    | zero =>
      intro x0 x1 x2 x3 x4 x6 hf ls hl
      exact nomatch (show (none : Option (Int64)) = some r from hf)
    | succ k ih =>
      intro x0 x1 x2 x3 x4 x6 hf ls hl
      unfold fX1_withAtMost_b6 at hf
      refine lv_iload hx hb dX1_withAtMost_6 (lv_at hl 5 rfl) ?_
      refine lv_iload_n hx hb dX1_withAtMost_8 rfl (lv_at hl 3 rfl) ?_
      refine lv_icmp_gt (tgt := 37) hx hb dX1_withAtMost_9 (by decide) (fun c_1 => ?_) (fun c_1 => ?_)
      · rw [if_pos c_1] at hf
        refine lv_lload hx hb dX1_withAtMost_37 (lv_at hl 4 rfl) ?_
        obtain rfl := Option.some.inj hf
        exact W.lret hx hb hr (fun t ht hW => ⟨_, rfl, rfl, ht⟩) (fun _ h => by cases h) dX1_withAtMost_39
      · rw [if_neg c_1] at hf
        refine lv_iload hx hb dX1_withAtMost_12 (lv_at hl 5 rfl) ?_
        refine lv_iload_n hx hb dX1_withAtMost_14 rfl (lv_at hl 2 rfl) ?_
        refine lv_icmp_gt (tgt := 37) hx hb dX1_withAtMost_15 (by decide) (fun c_2 => ?_) (fun c_2 => ?_)
        · rw [if_pos c_2] at hf
          refine lv_lload hx hb dX1_withAtMost_37 (lv_at hl 4 rfl) ?_
          obtain rfl := Option.some.inj hf
          exact W.lret hx hb hr (fun t ht hW => ⟨_, rfl, rfl, ht⟩) (fun _ h => by cases h) dX1_withAtMost_39
        · rw [if_neg c_2] at hf
          refine lv_lload hx hb dX1_withAtMost_18 (lv_at hl 4 rfl) ?_
          refine lv_iload_n hx hb dX1_withAtMost_20 rfl (lv_at hl 0 rfl) ?_
          refine lv_iload_n hx hb dX1_withAtMost_21 rfl (lv_at hl 1 rfl) ?_
          refine lv_iload_n hx hb dX1_withAtMost_22 rfl (lv_at hl 2 rfl) ?_
          refine lv_iload hx hb dX1_withAtMost_23 (lv_at hl 5 rfl) ?_
          obtain ⟨r_3, e_4, hf⟩ := bind_some hf
          refine vp_callSl (W.runS (As := [.int x0, .int x1, .int x2, .int x6]) (rest := [.long x4]) ⟨hx, hb, hml, hown, hts⟩ (mX1_withExactly l X N x0 x1 x2 x6 r_3 e_4) (va_cwS 4 hts gX1_withAtMost_X1_withExactly rfl rfl rfl (by decide +kernel) ⟨Nat.le_of_ble_eq_true rfl, Nat.le_of_ble_eq_true rfl⟩) (rPreS hK hP hSt hS [] rfl) rfl rfl hl.1 rfl (lv_room (Nat.le_of_ble_eq_true rfl)) dX1_withAtMost_25 ⟨Nat.zero_le _, Nat.zero_le _⟩) (fun v9 e9 => ?_)
          rw [e9]
          refine lv_ladd hx hb dX1_withAtMost_28 ?_
          refine lv_lstore (lv' := [(4, .long (x4 + r_3)), (0, .int x0), (1, .int x1), (2, .int x2), (3, .int x3), (6, .int x6)]) hx hb dX1_withAtMost_29 hl (by decide) rfl (fun ls hl => ?_)
          refine lv_iinc (v := x6 + 1) (lv' := [(6, .int (x6 + 1)), (4, .long (x4 + r_3)), (0, .int x0), (1, .int x1), (2, .int x2), (3, .int x3)]) hx hb dX1_withAtMost_31 hl (k := 5) rfl rfl (by decide) rfl (fun ls hl => ?_)
          refine lv_goto (tgt := 6) hx hb dX1_withAtMost_34 (by decide) ?_
          exact ih x0 x1 x2 x3 (x4 + r_3) (x6 + 1) hf ls (lv_sub hl [2, 3, 4, 5, 1, 0] rfl)
  have hf := hf0
  unfold fX1_withAtMost at hf
  refine lv_lconst (v := 0) hx hb dX1_withAtMost_0 (by decide) ?_
  refine lv_lstore (lv' := [(4, .long 0), (0, .int p0), (1, .int p1), (2, .int p2), (3, .int p3)]) hx hb dX1_withAtMost_1 hl (by decide) rfl (fun ls hl => ?_)
  refine lv_iconst (v := 0) hx hb dX1_withAtMost_3 (by decide) ?_
  refine lv_istore (lv' := [(6, .int 0), (4, .long 0), (0, .int p0), (1, .int p1), (2, .int p2), (3, .int p3)]) hx hb dX1_withAtMost_4 hl (by decide) rfl (fun ls hl => ?_)
  exact B6 N p0 p1 p2 p3 0 0 hf ls (lv_sub hl [2, 3, 4, 5, 1, 0] rfl)
def rmX1_nextWithAsManyBits : Room := { frames := 0, cells := 0, slots := 0, locals := 0 }
theorem lkX1_nextWithAsManyBits_1 : Cond.constant RX1 26 (2147483647) ∈ wsX1_nextWithAsManyBits := List.mem_of_getElem? (i := 1) rfl
set_option maxHeartbeats 4000000 in
set_option maxRecDepth 100000 in
theorem mX1_nextWithAsManyBits (l : Launch) (X : cxT) (N : Nat) (p0 : Int32) (r : Int32) (hf0 : fX1_nextWithAsManyBits N p0 = some r) : Met l yX1_nextWithAsManyBits wsX1_nextWithAsManyBits rmX1_nextWithAsManyBits (rPre X [] [.int p0]) (vp_Si (fun v : Int32 => v = r)) 0 0 (fun _ => False) := by
  refine Met.ofW (cc := cX1_nextWithAsManyBits) (maxL := 3) (ret := (some .int)) (by decide) rfl ?_
  intro p e s m args below meth c s₁ B hml hv
  obtain ⟨rfl, hP, hK, hSt⟩ := hv
  have hx := B.exec
  have hb := B.bytes
  have hr := B.returns
  have hts := atoms_spec (ws := wsX1_nextWithAsManyBits) B.pre
  have hown : s.vm.findClass RX1 = some m.cls := findClass_of_methodNamed B.named
  have hlocks := B.notSynchronized
  have hS : va_S (fun _ => False) s.heap s.heap [] := va_S.rf
  have hl := lv_entry ([.int p0]) (n := 3) (Nat.le_of_ble_eq_true rfl)
  rw [lg_entry_eq]
  generalize (lg_sl ([.int p0]) ++ List.replicate (3 - (lg_sl ([.int p0])).length) Slot.unset).toArray = ls at hl ⊢
  have hl : lv_has ls 3 [(0, .int p0)] := hl
  have hf := hf0
  unfold fX1_nextWithAsManyBits at hf
  refine lv_iload_n hx hb dX1_nextWithAsManyBits_0 rfl (lv_at hl 0 rfl) ?_
  refine lv_iload_n hx hb dX1_nextWithAsManyBits_1 rfl (lv_at hl 0 rfl) ?_
  refine lv_ineg hx hb dX1_nextWithAsManyBits_2 ?_
  refine lv_iand hx hb dX1_nextWithAsManyBits_3 ?_
  refine lv_istore_n (lv' := [(1, .int (p0 &&& (-p0))), (0, .int p0)]) hx hb dX1_nextWithAsManyBits_4 rfl hl (by decide) rfl (fun ls hl => ?_)
  refine lv_iload_n hx hb dX1_nextWithAsManyBits_5 rfl (lv_at hl 0 rfl) ?_
  refine lv_if_gt (tgt := 12) hx hb dX1_nextWithAsManyBits_6 (by decide) (fun c_1 => ?_) (fun c_1 => ?_)
  · rw [if_pos c_1] at hf
    refine lv_iload_n hx hb dX1_nextWithAsManyBits_12 rfl (lv_at hl 1 rfl) ?_
    refine lv_iload_n hx hb dX1_nextWithAsManyBits_13 rfl (lv_at hl 0 rfl) ?_
    refine lv_iadd hx hb dX1_nextWithAsManyBits_14 ?_
    refine lv_istore_n (lv' := [(2, .int (p0 + (p0 &&& (-p0)))), (1, .int (p0 &&& (-p0))), (0, .int p0)]) hx hb dX1_nextWithAsManyBits_15 rfl hl (by decide) rfl (fun ls hl => ?_)
    refine lv_iload_n hx hb dX1_nextWithAsManyBits_16 rfl (lv_at hl 0 rfl) ?_
    refine lv_iload_n hx hb dX1_nextWithAsManyBits_17 rfl (lv_at hl 0 rfl) ?_
    refine lv_iload_n hx hb dX1_nextWithAsManyBits_18 rfl (lv_at hl 2 rfl) ?_
    refine lv_ixor hx hb dX1_nextWithAsManyBits_19 ?_
    refine lv_iconst (v := 2) hx hb dX1_nextWithAsManyBits_20 (by decide) ?_
    refine lv_iushr hx hb dX1_nextWithAsManyBits_21 rfl ?_
    refine lv_iload_n hx hb dX1_nextWithAsManyBits_22 rfl (lv_at hl 1 rfl) ?_
    obtain ⟨g_2, hf⟩ := ite_some hf
    refine lv_idiv hx hb dX1_nextWithAsManyBits_23 g_2 ?_
    refine lv_ior hx hb dX1_nextWithAsManyBits_24 ?_
    obtain rfl := Option.some.inj hf
    exact W.iret hx hb hr (fun t ht hW => ⟨_, rfl, rfl, ht⟩) (fun _ h => by cases h) dX1_nextWithAsManyBits_25
  · rw [if_neg c_1] at hf
    refine lv_ldc (v := 2147483647) hx hb hown (hts _ lkX1_nextWithAsManyBits_1) dX1_nextWithAsManyBits_9 ?_
    obtain rfl := Option.some.inj hf
    exact W.iret hx hb hr (fun t ht hW => ⟨_, rfl, rfl, ht⟩) (fun _ h => by cases h) dX1_nextWithAsManyBits_11
def rmX1_listedWithAtMost : Room := { frames := 1, cells := 0, slots := 0, locals := 22 }
set_option maxHeartbeats 4000000 in
set_option maxRecDepth 100000 in
theorem mX1_listedWithAtMost (l : Launch) (X : cxT) (N : Nat) (p0 : Int32) (p1 : Int32) (p2 : Int32) (p3 : Int32) (r : Int64) (hf0 : fX1_listedWithAtMost N p0 p1 p2 p3 = some r) : Met l yX1_listedWithAtMost wsX1_listedWithAtMost rmX1_listedWithAtMost (rPre X [] [.int p0, .int p1, .int p2, .int p3]) (vp_Sl (fun v : Int64 => v = r)) 0 0 (fun _ => False) := by
  refine Met.ofW (cc := cX1_listedWithAtMost) (maxL := 10) (ret := (some .long)) (by decide) rfl ?_
  intro p e s m args below meth c s₁ B hml hv
  obtain ⟨rfl, hP, hK, hSt⟩ := hv
  have hx := B.exec
  have hb := B.bytes
  have hr := B.returns
  have hts := atoms_spec (ws := wsX1_listedWithAtMost) B.pre
  have hown : s.vm.findClass RX1 = some m.cls := findClass_of_methodNamed B.named
  have hlocks := B.notSynchronized
  have hS : va_S (fun _ => False) s.heap s.heap [] := va_S.rf
  have hl := lv_entry ([.int p0, .int p1, .int p2, .int p3]) (n := 10) (Nat.le_of_ble_eq_true rfl)
  rw [lg_entry_eq]
  generalize (lg_sl ([.int p0, .int p1, .int p2, .int p3]) ++ List.replicate (10 - (lg_sl ([.int p0, .int p1, .int p2, .int p3])).length) Slot.unset).toArray = ls at hl ⊢
  have hl : lv_has ls 10 [(0, .int p0), (1, .int p1), (2, .int p2), (3, .int p3)] := hl
  have B57 : ∀ (rec_25 : Int32 → Int32 → Int32 → Int32 → Int64 → Int32 → Option (Int64)), (∀ (x3 : Int32) (x4 : Int32) (x5 : Int32) (x6 : Int32) (x7 : Int64) (x9 : Int32), rec_25 x3 x4 x5 x6 x7 x9 = some r → ∀ ls : Array Slot, lv_has ls 10 [(3, .int x3), (4, .int x4), (5, .int x5), (6, .int x6), (7, .long x7), (9, .int x9)] → W p l e (headSpec wsX1_listedWithAtMost rmX1_listedWithAtMost).room s m (([.int p0, .int p1, .int p2, .int p3] : List Value).toArray) below meth c s.heap [] 0 0 (MQ below (vp_Sl (fun v : Int64 => v = r)) ([.int p0, .int p1, .int p2, .int p3] : List Value).toArray s 0 0 (fun _ => False)) (F0 m 25 ls [])) → (∀ (x3 : Int32) (x4 : Int32) (x5 : Int32) (x6 : Int32) (x7 : Int64) (x9 : Int32), fX1_listedWithAtMost_b57 N rec_25 x3 x4 x5 x6 x7 x9 = some r → ∀ ls : Array Slot, lv_has ls 10 [(3, .int x3), (4, .int x4), (5, .int x5), (6, .int x6), (7, .long x7), (9, .int x9)] → W p l e (headSpec wsX1_listedWithAtMost rmX1_listedWithAtMost).room s m (([.int p0, .int p1, .int p2, .int p3] : List Value).toArray) below meth c s.heap [] 0 0 (MQ below (vp_Sl (fun v : Int64 => v = r)) ([.int p0, .int p1, .int p2, .int p3] : List Value).toArray s 0 0 (fun _ => False)) (F0 m 57 ls [])) := by
    intro rec_25 hrec_25 x3 x4 x5 x6 x7 x9 hf ls hl
    unfold fX1_listedWithAtMost_b57 at hf
    refine lv_iload hx hb dX1_listedWithAtMost_57 (lv_at hl 3 rfl) ?_
    obtain ⟨r_6, e_7, hf⟩ := bind_some hf
    refine vp_callSi (W.runS (As := [.int x6]) (rest := []) ⟨hx, hb, hml, hown, hts⟩ (mX1_nextWithAsManyBits l X N x6 r_6 e_7) (va_cwS 1 hts gX1_listedWithAtMost_X1_nextWithAsManyBits rfl rfl rfl (by decide +kernel) ⟨Nat.le_of_ble_eq_true rfl, Nat.le_of_ble_eq_true rfl⟩) (rPreS hK hP hSt hS [] rfl) rfl rfl hl.1 rfl (lv_room (Nat.le_of_ble_eq_true rfl)) dX1_listedWithAtMost_59 ⟨Nat.zero_le _, Nat.zero_le _⟩) (fun v9 e9 => ?_)
    rw [e9]
    refine lv_istore (lv' := [(6, .int r_6), (3, .int x3), (4, .int x4), (5, .int x5), (7, .long x7), (9, .int x9)]) hx hb dX1_listedWithAtMost_62 hl (by decide) rfl (fun ls hl => ?_)
    refine lv_iinc (v := x9 + 1) (lv' := [(9, .int (x9 + 1)), (6, .int r_6), (3, .int x3), (4, .int x4), (5, .int x5), (7, .long x7)]) hx hb dX1_listedWithAtMost_64 hl (k := 5) rfl rfl (by decide) rfl (fun ls hl => ?_)
    refine lv_goto (tgt := 25) hx hb dX1_listedWithAtMost_67 (by decide) ?_
    exact hrec_25 x3 x4 x5 r_6 x7 (x9 + 1) hf ls (lv_sub hl [2, 3, 4, 1, 5, 0] rfl)
  have B25 : ∀ k : Nat, (∀ (x3 : Int32) (x4 : Int32) (x5 : Int32) (x6 : Int32) (x7 : Int64) (x9 : Int32), fX1_listedWithAtMost_b25 N k x3 x4 x5 x6 x7 x9 = some r → ∀ ls : Array Slot, lv_has ls 10 [(3, .int x3), (4, .int x4), (5, .int x5), (6, .int x6), (7, .long x7), (9, .int x9)] → W p l e (headSpec wsX1_listedWithAtMost rmX1_listedWithAtMost).room s m (([.int p0, .int p1, .int p2, .int p3] : List Value).toArray) below meth c s.heap [] 0 0 (MQ below (vp_Sl (fun v : Int64 => v = r)) ([.int p0, .int p1, .int p2, .int p3] : List Value).toArray s 0 0 (fun _ => False)) (F0 m 25 ls [])) := by
    intro k
    induction k with
    | zero =>
      intro x3 x4 x5 x6 x7 x9 hf ls hl
      exact nomatch (show (none : Option (Int64)) = some r from hf)
    | succ k ih =>
      intro x3 x4 x5 x6 x7 x9 hf ls hl
      unfold fX1_listedWithAtMost_b25 at hf
      refine lv_iload hx hb dX1_listedWithAtMost_25 (lv_at hl 5 rfl) ?_
      refine lv_iload hx hb dX1_listedWithAtMost_27 (lv_at hl 2 rfl) ?_
      refine lv_icmp_ge (tgt := 70) hx hb dX1_listedWithAtMost_29 (by decide) (fun c_1 => ?_) (fun c_1 => ?_)
      · rw [if_pos c_1] at hf
        refine lv_lload hx hb dX1_listedWithAtMost_70 (lv_at hl 4 rfl) ?_
        obtain rfl := Option.some.inj hf
        exact W.lret hx hb hr (fun t ht hW => ⟨_, rfl, rfl, ht⟩) (fun _ h => by cases h) dX1_listedWithAtMost_72
      · rw [if_neg c_1] at hf
        refine lv_iload hx hb dX1_listedWithAtMost_32 (lv_at hl 3 rfl) ?_
        refine lv_iload hx hb dX1_listedWithAtMost_34 (lv_at hl 2 rfl) ?_
        refine lv_icmp_ge (tgt := 70) hx hb dX1_listedWithAtMost_36 (by decide) (fun c_2 => ?_) (fun c_2 => ?_)
        · rw [if_pos c_2] at hf
          refine lv_lload hx hb dX1_listedWithAtMost_70 (lv_at hl 4 rfl) ?_
          obtain rfl := Option.some.inj hf
          exact W.lret hx hb hr (fun t ht hW => ⟨_, rfl, rfl, ht⟩) (fun _ h => by cases h) dX1_listedWithAtMost_72
        · rw [if_neg c_2] at hf
          refine lv_iload hx hb dX1_listedWithAtMost_39 (lv_at hl 3 rfl) ?_
          refine lv_iload hx hb dX1_listedWithAtMost_41 (lv_at hl 1 rfl) ?_
          refine lv_iand hx hb dX1_listedWithAtMost_43 ?_
          obtain ⟨r_3, e_4, hf⟩ := bind_some hf
          refine vp_callSi (W.runS (As := [.int (x6 &&& x4)]) (rest := []) ⟨hx, hb, hml, hown, hts⟩ (mJ6_bitCount_0f7a4 l X N (x6 &&& x4) r_3 e_4) (va_cwS 1 hts gX1_listedWithAtMost_J6_bitCount_0f7a4 rfl rfl rfl (by decide +kernel) ⟨Nat.le_of_ble_eq_true rfl, Nat.le_of_ble_eq_true rfl⟩) (rPreS hK hP hSt hS [] rfl) rfl rfl hl.1 rfl (lv_room (Nat.le_of_ble_eq_true rfl)) dX1_listedWithAtMost_44 ⟨Nat.zero_le _, Nat.zero_le _⟩) (fun v9 e9 => ?_)
          rw [e9]
          refine lv_iload_n hx hb dX1_listedWithAtMost_47 rfl (lv_at hl 0 rfl) ?_
          refine lv_icmp_gt (tgt := 57) hx hb dX1_listedWithAtMost_48 (by decide) (fun c_5 => ?_) (fun c_5 => ?_)
          · rw [if_pos c_5] at hf
            exact B57 (fun x3 x4 x5 x6 x7 x9 => fX1_listedWithAtMost_b25 N k x3 x4 x5 x6 x7 x9) ih x3 x4 x5 x6 x7 x9 hf ls (lv_sub hl [0, 1, 2, 3, 4, 5] rfl)
          · rw [if_neg c_5] at hf
            refine lv_lload hx hb dX1_listedWithAtMost_51 (lv_at hl 4 rfl) ?_
            refine lv_lconst (v := 1) hx hb dX1_listedWithAtMost_53 (by decide) ?_
            refine lv_ladd hx hb dX1_listedWithAtMost_54 ?_
            refine lv_lstore (lv' := [(7, .long (x7 + 1)), (3, .int x3), (4, .int x4), (5, .int x5), (6, .int x6), (9, .int x9)]) hx hb dX1_listedWithAtMost_55 hl (by decide) rfl (fun ls hl => ?_)
            exact B57 (fun x3 x4 x5 x6 x7 x9 => fX1_listedWithAtMost_b25 N k x3 x4 x5 x6 x7 x9) ih x3 x4 x5 x6 (x7 + 1) x9 hf ls (lv_sub hl [1, 2, 3, 4, 0, 5] rfl)
  have hf := hf0
  unfold fX1_listedWithAtMost at hf
  refine lv_iconst (v := 1) hx hb dX1_listedWithAtMost_0 (by decide) ?_
  refine lv_iload_n hx hb dX1_listedWithAtMost_1 rfl (lv_at hl 1 rfl) ?_
  refine lv_ishl hx hb dX1_listedWithAtMost_2 ?_
  refine lv_iconst (v := 1) hx hb dX1_listedWithAtMost_3 (by decide) ?_
  refine lv_isub hx hb dX1_listedWithAtMost_4 ?_
  refine lv_istore (lv' := [(4, .int ((1 <<< (p1 &&& 31)) - 1)), (0, .int p0), (1, .int p1), (2, .int p2), (3, .int p3)]) hx hb dX1_listedWithAtMost_5 hl (by decide) rfl (fun ls hl => ?_)
  refine lv_iconst (v := 1) hx hb dX1_listedWithAtMost_7 (by decide) ?_
  refine lv_iload_n hx hb dX1_listedWithAtMost_8 rfl (lv_at hl 1 rfl) ?_
  refine lv_ishl hx hb dX1_listedWithAtMost_9 ?_
  refine lv_istore (lv' := [(5, .int (1 <<< (p0 &&& 31))), (4, .int ((1 <<< (p1 &&& 31)) - 1)), (0, .int p0), (1, .int p1), (2, .int p2), (3, .int p3)]) hx hb dX1_listedWithAtMost_10 hl (by decide) rfl (fun ls hl => ?_)
  refine lv_iconst (v := 1) hx hb dX1_listedWithAtMost_12 (by decide) ?_
  refine lv_iload_n hx hb dX1_listedWithAtMost_13 rfl (lv_at hl 4 rfl) ?_
  refine lv_ishl hx hb dX1_listedWithAtMost_14 ?_
  refine lv_iconst (v := 1) hx hb dX1_listedWithAtMost_15 (by decide) ?_
  refine lv_isub hx hb dX1_listedWithAtMost_16 ?_
  refine lv_istore (lv' := [(6, .int ((1 <<< (p2 &&& 31)) - 1)), (5, .int (1 <<< (p0 &&& 31))), (4, .int ((1 <<< (p1 &&& 31)) - 1)), (0, .int p0), (1, .int p1), (2, .int p2), (3, .int p3)]) hx hb dX1_listedWithAtMost_17 hl (by decide) rfl (fun ls hl => ?_)
  refine lv_lconst (v := 0) hx hb dX1_listedWithAtMost_19 (by decide) ?_
  refine lv_lstore (lv' := [(7, .long 0), (6, .int ((1 <<< (p2 &&& 31)) - 1)), (5, .int (1 <<< (p0 &&& 31))), (4, .int ((1 <<< (p1 &&& 31)) - 1)), (0, .int p0), (1, .int p1), (2, .int p2), (3, .int p3)]) hx hb dX1_listedWithAtMost_20 hl (by decide) rfl (fun ls hl => ?_)
  refine lv_iconst (v := 0) hx hb dX1_listedWithAtMost_22 (by decide) ?_
  refine lv_istore (lv' := [(9, .int 0), (7, .long 0), (6, .int ((1 <<< (p2 &&& 31)) - 1)), (5, .int (1 <<< (p0 &&& 31))), (4, .int ((1 <<< (p1 &&& 31)) - 1)), (0, .int p0), (1, .int p1), (2, .int p2), (3, .int p3)]) hx hb dX1_listedWithAtMost_23 hl (by decide) rfl (fun ls hl => ?_)
  exact B25 N p3 ((1 <<< (p1 &&& 31)) - 1) (1 <<< (p0 &&& 31)) ((1 <<< (p2 &&& 31)) - 1) 0 0 hf ls (lv_sub hl [8, 4, 3, 2, 1, 0] rfl)
