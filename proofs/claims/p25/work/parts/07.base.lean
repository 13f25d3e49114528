abbrev vwCl : List vw_C := [(RX0, TX0, 8), (RX2, TX2, 3), (RX3, TX3, 7), (RX4, TX4, 3), (RX5, TX5, 5)]
-- worlds: the context, the tables, what every method is given beside its own cells
abbrev cxT : Type := va_G × (Nat → ClassId)
abbrev tyA (X : cxT) : List (ClassId × FieldType) := [(X.2 0, .int), (X.2 1, .int), (X.2 2, .boolean), (X.2 3, .object RX3)]
def tabL (j : Nat) : Int32 := match j with
  | 0 => 8
  | 1 => 15
  | 2 => 50
  | 3 => 150
  | _ => 500
def tabS (j : Nat) : Int32 := match j with
  | 0 => 2
  | 1 => 3
  | 2 => 5
  | 3 => 8
  | 4 => 13
  | 5 => 20
  | 6 => 32
  | _ => 50
def strL : List (Nat × String) := [(39, "level or quality is out of range"), (54, "rate is out of range"), (70, "order is out of range"), (79, "order, size or findings is out of range"), (86, "the order is taken, or there are 60 lots"), (92, "findings is out of range"), (98, "there is no lot with this order"), (106, "there are not so many lots"), (125, "verdict is out of range"), (142, "size or sample is out of range"), (150, "size, bad, sample or most is out of range")]
def stP (A : Nat → Prop) (U : State) (H : Heap) : Prop := (∃ t : Nat, va_Z RX4 "LARGEST_OF_CLASS" "[I" (.ref t) A U H ∧ va_T .int t 5 (fun j => .int (tabL j)) A U H) ∧ (∃ t : Nat, va_Z RX4 "SAMPLE_OF_LETTER" "[I" (.ref t) A U H ∧ va_T .int t 8 (fun j => .int (tabS j)) A U H)
abbrev xB (E : String) : List Cond := [.declares (Bundle.initS "java/lang/RuntimeException"), .declares (Bundle.initS "java/lang/Exception"), .declares (Bundle.initS "java/lang/Throwable"), .castable E E]
theorem xB_moved {E : String} {u U : State} (hW : u.WarmedH U.vm) (h : ∀ w ∈ xB E, va_Nw w u) : ∀ w ∈ xB E, va_Nw w U := by
  have d : ∀ x : MethodName, va_Nw (.declares x) u → va_Nw (.declares x) U := fun x hZ => va_tabs rfl (rfl : (u.setVm U.vm).vm = U.vm) (by rw [Cond.declares_setVm hW.alike]; exact hZ)
  intro w hw
  simp only [xB, List.mem_cons, List.not_mem_nil, or_false] at hw
  rcases hw with rfl | rfl | rfl | rfl
  · exact d _ (h _ (by simp))
  · exact d _ (h _ (by simp))
  · exact d _ (h _ (by simp))
  · exact va_Nw.warmC hW (h _ (by simp))
theorem xB_use {E : String} {s : State} {args : Array Value} (h : ∀ w ∈ xB E, va_Nw w s) : ∀ w ∈ xB E, w.before args s = true := by
  intro w hw
  have h1 := h w hw
  simp only [xB, List.mem_cons, List.not_mem_nil, or_false] at hw
  rcases hw with rfl | rfl | rfl | rfl <;> exact va_Nw.use rfl h1
def stN (U : State) : Prop := (∀ q ∈ strL, ∃ a : Nat, vk_R RX5 q.1 q.2 a U) ∧ va_Nc "java/lang/IllegalArgumentException" "java/lang/IllegalStateException" U ∧ (∀ w ∈ xB "java/lang/IllegalArgumentException", va_Nw w U) ∧ (∀ w ∈ xB "java/lang/IllegalStateException", va_Nw w U) ∧ (∀ w ∈ xB "java/lang/IndexOutOfBoundsException", va_Nw w U)
def stX (A : Nat → Prop) (U : State) (H : Heap) : Prop := vx_Zq Bundle.tN "UNASSIGNED_STACK" Bundle.steD A U H ∧ vx_Zq Bundle.tN "SUPPRESSED_SENTINEL" Bundle.listD A U H
def stA (A : Nat → Prop) (U : State) (H : Heap) : Prop := stP A U H ∧ stX A U H ∧ stN U
theorem stA.moved {A : Nat → Prop} {u U : State} {H : Heap} (hW : u.WarmedH U.vm) (h : stA A u H) : stA A U H := by
  obtain ⟨⟨⟨t1, a1, b1⟩, ⟨t2, a2, b2⟩⟩, ⟨c1, c2⟩, d1, d2, d3, d4, d5⟩ := h
  refine ⟨⟨⟨t1, a1.moved hW.alike, b1.moved hW.alike⟩, ⟨t2, a2.moved hW.alike, b2.moved hW.alike⟩⟩, ⟨c1.moved hW.alike, c2.moved hW.alike⟩, fun q hq => ?_, ?_, xB_moved hW d3, xB_moved hW d4, xB_moved hW d5⟩
  · obtain ⟨a, ha⟩ := d1 q hq
    exact ⟨a, ha.warm hW⟩
  · obtain ⟨c, t, h1, h2, h3⟩ := d2
    exact ⟨c, t, by rw [hW.alike.findClass]; exact h1, by rw [hW.alike.findClass]; exact h2, by rw [hW.alike.assignable]; exact h3⟩
theorem stA.kept {A : Nat → Prop} {U : State} {H H1 : Heap} (h : stA A U H) (hq : ∀ a : Nat, a < H.size → ¬ A a → H1[a]? = H[a]?) : stA A U H1 := by
  obtain ⟨⟨⟨t1, a1, b1⟩, ⟨t2, a2, b2⟩⟩, ⟨c1, c2⟩, d⟩ := h
  exact ⟨⟨⟨t1, a1.kept hq, b1.kept hq⟩, ⟨t2, a2.kept hq, b2.kept hq⟩⟩, ⟨c1.kept hq, c2.kept hq⟩, d⟩
theorem stA.narrow {A B : Nat → Prop} {U : State} {H : Heap} (h : stA A U H) (hAB : ∀ q, B q → A q) : stA B U H := by
  obtain ⟨⟨⟨t1, a1, b1⟩, ⟨t2, a2, b2⟩⟩, ⟨c1, c2⟩, d⟩ := h
  exact ⟨⟨⟨t1, a1.narrow hAB, b1.narrow hAB⟩, ⟨t2, a2.narrow hAB, b2.narrow hAB⟩⟩, ⟨c1.narrow hAB, c2.narrow hAB⟩, d⟩
theorem stA.blind {A : Nat → Prop} {U : State} {g : JFrame} {mk : MethodId} {a : Array Value} (h : stA A U U.heap) : stA A (U.calling g mk a) (U.calling g mk a).heap := stA.moved (u := U) (U := U.calling g mk a) (State.WarmedH.refl U) h
theorem stA.at {A B : Nat → Prop} {s U : State} {H : Heap} {locs : List Loc} (h : stA A s s.heap) (hS : va_S A s.heap H locs) (hF : ∀ q, B q → A q) (hU : U.heap = H) (hW : s.WarmedH U.vm) : stA B U U.heap := by
  rw [hU]
  exact ((h.kept hS.2.1).narrow hF).moved hW
-- what a method is given: a reader (nothing changes), a writer (its cells may change)
def rPre (X : cxT) (W0 : va_W) (av : List Value) : Array Value → State → Prop := va_Pc av (fun U => va_P X.1 vwCl W0 U.heap ∧ va_K X.1 vwCl (tyA X) U ∧ stA (fun _ => False) U U.heap)
def wPre (X : cxT) (sz : Nat) (W0 : va_W) (av : List Value) : Array Value → State → Prop := va_Pc av (fun U => U.heap.size = sz ∧ va_P X.1 vwCl W0 U.heap ∧ va_K X.1 vwCl (tyA X) U ∧ va_D (fun _ => True) W0 ∧ stA (va_A W0 sz) U U.heap)
def wPost (X : cxT) (W1 : va_W) (t : State) : Prop := va_P X.1 vwCl W1 t.heap ∧ va_K X.1 vwCl (tyA X) t
theorem rPre.blind {X : cxT} {W0 : va_W} {av : List Value} : FrameBlind (rPre X W0 av) := fun a U g mk h => ⟨h.1, h.2.1, va_K.moved (u := U) (U := U.calling g mk a) (Vm.Alike.refl U.vm) h.2.2.1, h.2.2.2.blind⟩
theorem wPre.blind {X : cxT} {sz : Nat} {W0 : va_W} {av : List Value} : FrameBlind (wPre X sz W0 av) := fun a U g mk h => ⟨h.1, h.2.1, h.2.2.1, va_K.moved (u := U) (U := U.calling g mk a) (Vm.Alike.refl U.vm) h.2.2.2.1, h.2.2.2.2.1, h.2.2.2.2.2.blind⟩
theorem rPreS {X : cxT} {A : Nat → Prop} {s : State} {H : Heap} {locs : List Loc} {ws W0 : va_W} {av : List Value} (hK : va_K X.1 vwCl (tyA X) s) (hP : va_P X.1 vwCl ws H) (hSt : stA A s s.heap) (hS : va_S A s.heap H locs) (is : List Nat) (hw : is.filterMap (fun i => ws[i]?) = W0) : PreS s H (rPre X W0 av) av :=
  ⟨rPre.blind, fun U hU hW => ⟨rfl, by rw [hU]; exact hP.sub is hw, va_K.moved hW.alike hK, hSt.at hS (fun _ h => h.elim) hU hW⟩⟩
theorem rPreV {X : cxT} {A : Nat → Prop} {s : State} {H : Heap} {locs : List Loc} {ws W0 : va_W} {b ci : Nat} {fs : List Value} {q : vw_C} {As : List Value} (hK : va_K X.1 vwCl (tyA X) s) (hP : va_P X.1 vwCl ws H) (hSt : stA A s s.heap) (hS : va_S A s.heap H locs) (is : List Nat) (hw : is.filterMap (fun i => ws[i]?) = W0) (q0 : Nat) (he : ws[q0]? = some (b, .inr (ci, fs))) (hc : vwCl[ci]? = some q) : PreV s H q.1 b (rPre X W0 (.ref b :: As)) As :=
  ⟨rPre.blind, va_recv hK hP hc he, fun U hU hW => ⟨rfl, by rw [hU]; exact hP.sub is hw, va_K.moved hW.alike hK, hSt.at hS (fun _ h => h.elim) hU hW⟩⟩
theorem wPreS {X : cxT} {A : Nat → Prop} {s : State} {H : Heap} {locs : List Loc} {ws W0 : va_W} {av : List Value} (hK : va_K X.1 vwCl (tyA X) s) (hP : va_P X.1 vwCl ws H) (hD : va_D A ws) (hSt : stA A s s.heap) (hS : va_S A s.heap H locs) (hF : ∀ q, va_A W0 H.size q → A q) (is : List Nat) (hn : va_nd is = true) (hw : is.map (fun i => ws[i]?) = W0.map some) (hw2 : is.filterMap (fun i => ws[i]?) = W0) : PreS s H (wPre X H.size W0 av) av :=
  ⟨wPre.blind, fun U hU hW => ⟨rfl, by rw [hU], by rw [hU]; exact hP.sub is hw2, va_K.moved hW.alike hK, (hD.sub is hn hw).weaken (fun _ _ _ _ => trivial), hSt.at hS hF hU hW⟩⟩
theorem wPreV {X : cxT} {A : Nat → Prop} {s : State} {H : Heap} {locs : List Loc} {ws W0 : va_W} {b ci : Nat} {fs : List Value} {q : vw_C} {As : List Value} (hK : va_K X.1 vwCl (tyA X) s) (hP : va_P X.1 vwCl ws H) (hD : va_D A ws) (hSt : stA A s s.heap) (hS : va_S A s.heap H locs) (hF : ∀ q, va_A W0 H.size q → A q) (is : List Nat) (hn : va_nd is = true) (hw : is.map (fun i => ws[i]?) = W0.map some) (hw2 : is.filterMap (fun i => ws[i]?) = W0) (q0 : Nat) (he : ws[q0]? = some (b, .inr (ci, fs))) (hc : vwCl[ci]? = some q) : PreV s H q.1 b (wPre X H.size W0 (.ref b :: As)) As :=
  ⟨wPre.blind, va_recv hK hP hc he, fun U hU hW => ⟨rfl, by rw [hU], by rw [hU]; exact hP.sub is hw2, va_K.moved hW.alike hK, (hD.sub is hn hw).weaken (fun _ _ _ _ => trivial), hSt.at hS hF hU hW⟩⟩
-- behind a call: the callee's cells at their places, with what they hold now
def wset : List Nat → va_W → va_W → va_W
  | [], _, ws => ws
  | _ :: _, [], ws => ws
  | i :: is, q :: w, ws => wset is w (ws.set i q)
theorem wset_get : ∀ (is : List Nat) (w ws : va_W), is.length = w.length → ∀ (j : Nat) (q : Nat × va_E), (wset is w ws)[j]? = some q → (∃ k : Nat, is[k]? = some j ∧ w[k]? = some q) ∨ (j ∉ is ∧ ws[j]? = some q)
  | [], w, ws, _, j, q, h => Or.inr ⟨List.not_mem_nil, h⟩
  | _ :: _, [], ws, hl, j, q, h => by simp at hl
  | i :: is, q0 :: w, ws, hl, j, q, h => by
    rcases wset_get is w (ws.set i q0) (by simpa using hl) j q h with ⟨k, a, b⟩ | ⟨a, b⟩
    · exact Or.inl ⟨k + 1, by simpa using a, by simpa using b⟩
    · by_cases e : j = i
      · subst e
        have hj : j < ws.length := by
          have := (List.getElem?_eq_some_iff.mp b).1
          simpa using this
        rw [List.getElem?_set_self hj] at b
        cases b
        exact Or.inl ⟨0, by simp, by simp⟩
      · rw [List.getElem?_set_ne (Ne.symm e)] at b
        exact Or.inr ⟨by simp [e, a], b⟩
theorem wset_at {ws wc w1 : va_W} {is : List Nat} (hC : is.map (fun i => ws[i]?) = wc.map some) (ha : w1.map Prod.fst = wc.map Prod.fst) (j : Nat) (q : Nat × va_E) (h : (wset is w1 ws)[j]? = some q) : (∃ (k : Nat) (q0 : Nat × va_E), is[k]? = some j ∧ w1[k]? = some q ∧ wc[k]? = some q0 ∧ ws[j]? = some q0 ∧ q0.1 = q.1) ∨ (j ∉ is ∧ ws[j]? = some q) := by
  have l1 : is.length = wc.length := by
    have := congrArg List.length hC
    simpa using this
  have l2 : w1.length = wc.length := by
    have := congrArg List.length ha
    simpa using this
  rcases wset_get is w1 ws (l1.trans l2.symm) j q h with ⟨k, a, b⟩ | h
  · refine Or.inl ?_
    have hk : k < wc.length := by rw [← l1]; exact (List.getElem?_eq_some_iff.mp a).1
    refine ⟨k, wc[k], a, b, List.getElem?_eq_getElem hk, ?_, ?_⟩
    · have h1 : (is.map (fun i => ws[i]?))[k]? = (wc.map some)[k]? := by rw [hC]
      rw [List.getElem?_map, List.getElem?_map, a, List.getElem?_eq_getElem hk] at h1
      exact Option.some.inj h1
    · have h1 : (w1.map Prod.fst)[k]? = (wc.map Prod.fst)[k]? := by rw [ha]
      rw [List.getElem?_map, List.getElem?_map, b, List.getElem?_eq_getElem hk] at h1
      exact (Option.some.inj h1).symm
  · exact Or.inr h
theorem wj {A0 : Nat → Prop} {D : va_G} {cl : List vw_C} {ws wc w1 : va_W} {H H1 : Heap} (hP : va_P D cl ws H) (hD : va_D A0 ws) (is : List Nat) (hC : is.map (fun i => ws[i]?) = wc.map some) (ha : w1.map Prod.fst = wc.map Prod.fst)
    (hk : ∀ q : Nat, q < H.size → ¬ va_A wc H.size q → H1[q]? = H[q]?) (hP1 : va_P D cl w1 H1) : va_P D cl (wset is w1 ws) H1 ∧ va_D A0 (wset is w1 ws) := by
  have key : ∀ (j : Nat) (q : Nat × va_E), (wset is w1 ws)[j]? = some q → ∃ q0, ws[j]? = some q0 ∧ q0.1 = q.1 := by
    intro j q h
    rcases wset_at hC ha j q h with ⟨k, q0, -, -, -, h4, h5⟩ | ⟨-, h2⟩
    · exact ⟨q0, h4, h5⟩
    · exact ⟨q, h2, rfl⟩
  refine ⟨fun j q h => ?_, fun i j x y hi hj hxy => ?_, fun k q h => ?_⟩
  · rcases wset_at hC ha j q h with ⟨k, q0, -, h2, -, -, -⟩ | ⟨h1, h2⟩
    · exact hP1 k q h2
    · refine (hP j q h2).kept (hk q.1 (hP j q h2).lt (fun z => ?_))
      rcases z with ⟨k2, e, z⟩ | z
      · have h3 : (is.map (fun i => ws[i]?))[k2]? = (wc.map some)[k2]? := by rw [hC]
        rw [List.getElem?_map, List.getElem?_map, z] at h3
        cases hi : is[k2]? with
        | none => rw [hi] at h3; cases h3
        | some i =>
          rw [hi] at h3
          have h4 : ws[i]? = some (q.1, e) := Option.some.inj h3
          have := hD.1 j i q (q.1, e) h2 h4 rfl
          subst this
          exact h1 (List.mem_of_getElem? hi)
      · have := (hP j q h2).lt
        omega
  · obtain ⟨x0, h1, h2⟩ := key i x hi
    obtain ⟨y0, h3, h4⟩ := key j y hj
    exact hD.1 i j x0 y0 h1 h3 (h2.trans (hxy.trans h4.symm))
  · obtain ⟨q0, h1, h2⟩ := key k q h
    rw [← h2]
    exact hD.2 k q0 h1
-- the pure functions: 'none' where the machine would throw by itself, or the fuel is spent
abbrev okI (i : Int32) (n : Nat) : Prop := ¬ (i < 0 ∨ n ≤ i.toNatClampNeg)
theorem ite_some {α : Type} {c : Prop} [Decidable c] {a : Option α} {r : α} (h : (if c then a else none) = some r) : c ∧ a = some r := by
  by_cases hc : c
  · rw [if_pos hc] at h
    exact ⟨hc, h⟩
  · rw [if_neg hc] at h
    cases h
theorem bind_some {α β : Type} {a : Option α} {f : α → Option β} {r : β} (h : a.bind f = some r) : ∃ x, a = some x ∧ f x = some r := by
  cases a with
  | none => cases h
  | some x => exact ⟨x, rfl, h⟩
theorem zb_n {v : Int32} (h : v = 0 ∨ v = 1) : narrow .boolean (.int v) = .int v := by
  rcases h with rfl | rfl <;> rfl
theorem zb_f {v : Int32} (h : v = 0 ∨ v = 1) : fits .boolean (.int v) = true := by
  rcases h with rfl | rfl <;> rfl
section LVEQ
variable {p : Program} {l : Launch} {e : Env} {R : Room} {s : State} {m : MethodId} {args : Array Value} {below : List Frame} {meth : Method} {c : Code} {H : Heap} {locs : List Loc} {cells slots : Nat} {Q : State → Prop} {pc : Nat} {ls : Array Slot} {rest : List Value}
theorem lv_eqi {x y : Int32} (h : x = y) (k : W p l e R s m args below meth c H locs cells slots Q (F0 m pc ls (.int y :: rest))) : W p l e R s m args below meth c H locs cells slots Q (F0 m pc ls (.int x :: rest)) := h ▸ k
theorem lv_eql {x y : Int64} (h : x = y) (k : W p l e R s m args below meth c H locs cells slots Q (F0 m pc ls (.long y :: rest))) : W p l e R s m args below meth c H locs cells slots Q (F0 m pc ls (.long x :: rest)) := h ▸ k
end LVEQ
