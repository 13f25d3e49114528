def cPre (b L : Nat) (xs : Nat → Int32) (av : List Value) : Array Value → State → Prop := va_Pc av (fun U => va_T .int b L (fun j => .int (xs j)) (fun _ => False) U U.heap)
theorem cPre.blind {b L : Nat} {xs : Nat → Int32} {av : List Value} : FrameBlind (cPre b L xs av) := fun a U g mk h => ⟨h.1, va_T.moved (u := U) (U := U.calling g mk a) (Vm.Alike.refl U.vm) h.2⟩
theorem cPreS {b L : Nat} {xs : Nat → Int32} {A : Nat → Prop} {s : State} {H : Heap} {locs : List Loc} {av : List Value} (hT : va_T .int b L (fun j => .int (xs j)) A s s.heap) (hS : va_S A s.heap H locs) : PreS s H (cPre b L xs av) av :=
  ⟨cPre.blind, fun U hU hW => ⟨rfl, by show va_T .int b L (fun j => .int (xs j)) (fun _ => False) U U.heap; rw [hU]; exact ((hT.kept hS.2.1).narrow (fun _ h => h.elim)).moved hW.alike⟩⟩
theorem oPreS {X : cxT} {A : Nat → Prop} {s : State} {H : Heap} {locs : List Loc} {ws : va_W} {av : List Value} (hK : va_K X.1 vwCl (tyA X) s) (hP : va_P X.1 vwCl ws H) (hSt : stA A s s.heap) (hS : va_S A s.heap H locs) : PreS s H (rPre X ws av) av :=
  ⟨rPre.blind, fun U hU hW => ⟨rfl, by rw [hU]; exact hP, va_K.moved hW.alike hK, hSt.at hS (fun _ h => h.elim) hU hW⟩⟩
def cellV (L : Nat) (xs : Nat → Int32) (j : Nat) : Int32 := if L ≤ j then 40503 * nI j + 977 else xs j
def rmL_cell : Room := { frames := 0, cells := 0, slots := 0, locals := 0 }
theorem lkL_cell_1 : Cond.constant RL 8 (40503) ∈ wsL_cell := List.mem_of_getElem? (i := 1) rfl
set_option maxHeartbeats 4000000 in
set_option maxRecDepth 100000 in
theorem mL_cell (l : Launch) (b L : Nat) (xs : Nat → Int32) (j : Nat) (hL : L < 2 ^ 31) (hj : j < 2 ^ 31) : Met l yL_cell wsL_cell rmL_cell (cPre b L xs [.ref b, .int (nI j)]) (vp_Si (fun v : Int32 => v = cellV L xs j)) 0 0 (fun _ => False) := by
  refine Met.ofW (cc := cL_cell) (maxL := 2) (ret := (some .int)) (by decide) rfl ?_
  intro p e s m args below meth c s₁ B hml hv
  obtain ⟨rfl, hT⟩ := hv
  have hx := B.exec
  have hb := B.bytes
  have hr := B.returns
  have hts := atoms_spec (ws := wsL_cell) B.pre
  have hown : s.vm.findClass RL = some m.cls := findClass_of_methodNamed B.named
  have hlocks := B.notSynchronized
  have hS : va_S (fun _ => False) s.heap s.heap [] := va_S.rf
  have hl := lv_entry ([.ref b, .int (nI j)]) (n := 2) (Nat.le_of_ble_eq_true rfl)
  rw [lg_entry_eq]
  generalize (lg_sl ([.ref b, .int (nI j)]) ++ List.replicate (2 - (lg_sl ([.ref b, .int (nI j)])).length) Slot.unset).toArray = ls at hl ⊢
  have hl : lv_has ls 2 [(0, .ref b), (1, .int (nI j))] := hl
  refine lv_iload_n hx hb dL_cell_0 rfl (lv_at hl 1 rfl) ?_
  refine lv_aload_n hx hb dL_cell_1 rfl (lv_at hl 0 rfl) ?_
  refine va_tlen (v := nI L) hx hb hT hS rfl dL_cell_2 ?_
  refine lv_icmp_ge (tgt := 12) hx hb dL_cell_3 (by decide) (fun c_1 => ?_) (fun c_1 => ?_)
  · have hc : L ≤ j := (nI_leI hL hj).mp c_1
    refine lv_ldc (v := 40503) hx hb hown (hts _ lkL_cell_1) dL_cell_12 ?_
    refine lv_iload_n hx hb dL_cell_14 rfl (lv_at hl 1 rfl) ?_
    refine lv_imul hx hb dL_cell_15 ?_
    refine lv_sipush (v := 977) hx hb dL_cell_16 (by decide) ?_
    refine lv_iadd hx hb dL_cell_19 ?_
    exact W.iret hx hb hr (fun t ht hW => ⟨_, rfl, by unfold cellV; rw [if_pos hc], ht⟩) (fun _ h => by cases h) dL_cell_20
  · have hc : ¬ L ≤ j := fun q => c_1 ((nI_leI hL hj).mpr q)
    refine lv_aload_n hx hb dL_cell_6 rfl (lv_at hl 0 rfl) ?_
    refine lv_iload_n hx hb dL_cell_7 rfl (lv_at hl 1 rfl) ?_
    refine va_ti hx hb hT hS (i := nI j) (nI_in (by omega) hL) rfl dL_cell_8 ?_
    refine lv_goto (tgt := 20) hx hb dL_cell_9 (by decide) ?_
    exact W.iret hx hb hr (fun t ht hW => ⟨_, rfl, by unfold cellV; rw [if_neg hc, nI_clamp hj], ht⟩) (fun _ h => by cases h) dL_cell_20
