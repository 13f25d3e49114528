-- the lots: a pool of objects of class 2, what each holds told by functions of the address
def lotE (pO pZ : Nat → Int32) (pF : Nat → Int64) (pV pT pI pB : Nat → Int32) : Nat → va_E := fun a => .inr (2, [.int (pO a), .int (pZ a), .long (pF a), .int (pV a), .int (pT a), .int (pI a), .int (pB a)])
theorem lotE_up (pO pZ : Nat → Int32) (pF : Nat → Int64) (pV pT pI pB : Nat → Int32) (a : Nat) (v t i b : Int32) : va_up (lotE pO pZ pF pV pT pI pB) a (.inr (2, [.int (pO a), .int (pZ a), .long (pF a), .int v, .int t, .int i, .int b])) = lotE pO pZ pF (va_up pV a v) (va_up pT a t) (va_up pI a i) (va_up pB a b) := by
  funext x
  by_cases h : x = a
  · subst h; simp [va_up, lotE]
  · simp [va_up, lotE, h]
theorem lotE_upF (pO pZ : Nat → Int32) (pF : Nat → Int64) (pV pT pI pB : Nat → Int32) (a : Nat) (v : Int64) : va_up (lotE pO pZ pF pV pT pI pB) a (.inr (2, [.int (pO a), .int (pZ a), .long v, .int (pV a), .int (pT a), .int (pI a), .int (pB a)])) = lotE pO pZ (va_up pF a v) pV pT pI pB := by
  funext x
  by_cases h : x = a
  · subst h; simp [va_up, lotE]
  · simp [va_up, lotE, h]
theorem lotE_new (pO pZ : Nat → Int32) (pF : Nat → Int64) (pV pT pI pB : Nat → Int32) (a : Nat) (o z : Int32) (f : Int64) (v t i b : Int32) : va_up (lotE pO pZ pF pV pT pI pB) a (.inr (2, [.int o, .int z, .long f, .int v, .int t, .int i, .int b])) = lotE (va_up pO a o) (va_up pZ a z) (va_up pF a f) (va_up pV a v) (va_up pT a t) (va_up pI a i) (va_up pB a b) := by
  funext x
  by_cases h : x = a
  · subst h; simp [va_up, lotE]
  · simp [va_up, lotE, h]
theorem lotPutF {A : Nat → Prop} {X : va_W} {L : List Nat} {pO pZ : Nat → Int32} {pF : Nat → Int64} {pV pT pI pB : Nat → Int32} {a k : Nat} (v : Int64) (hD : va_D A (X ++ va_pl L (lotE pO pZ pF pV pT pI pB))) (h : a ∈ L) (hk : (X ++ va_pl L (lotE pO pZ pF pV pT pI pB))[k]? = some (a, lotE pO pZ pF pV pT pI pB a)) :
    (X ++ va_pl L (lotE pO pZ pF pV pT pI pB)).set k (a, .inr (2, [.int (pO a), .int (pZ a), .long v, .int (pV a), .int (pT a), .int (pI a), .int (pB a)])) = X ++ va_pl L (lotE pO pZ (va_up pF a v) pV pT pI pB) := by
  rw [va_pl_set hD h hk, lotE_upF]
theorem va_D.addr {A : Nat → Prop} {ws ws' : va_W} (h : va_D A ws) (e : ws'.map Prod.fst = ws.map Prod.fst) : va_D A ws' := by
  have key : ∀ (k : Nat) (q : Nat × va_E), ws'[k]? = some q → ∃ q0, ws[k]? = some q0 ∧ q0.1 = q.1 := by
    intro k q hq
    have h1 : (ws'.map Prod.fst)[k]? = (ws.map Prod.fst)[k]? := by rw [e]
    rw [List.getElem?_map, List.getElem?_map, hq] at h1
    cases hw : ws[k]? with
    | none => rw [hw] at h1; cases h1
    | some q0 => rw [hw] at h1; exact ⟨q0, rfl, (Option.some.inj h1).symm⟩
  refine ⟨fun i j x y hi hj hxy => ?_, fun k q hk => ?_⟩
  · obtain ⟨x0, h1, h2⟩ := key i x hi
    obtain ⟨y0, h3, h4⟩ := key j y hj
    exact h.1 i j x0 y0 h1 h3 (h2.trans (hxy.trans h4.symm))
  · obtain ⟨q0, h1, h2⟩ := key k q hk
    rw [← h2]
    exact h.2 k q0 h1
theorem addrP {X X' : va_W} {L : List Nat} {f f' : Nat → va_E} (h : X'.map Prod.fst = X.map Prod.fst) : (X' ++ va_pl L f').map Prod.fst = (X ++ va_pl L f).map Prod.fst := by
  rw [List.map_append, List.map_append, h]
  congr 1
  simp [va_pl, List.map_map, Function.comp_def]
theorem va_freeA {A : Nat → Prop} {ws : va_W} {H0 H : Heap} {locs : List Loc} (hD : va_D A ws) (hS : va_S A H0 H locs) (hA : ∀ q, H0.size ≤ q → A q) : ∀ q, va_A ws H.size q → A q := by
  intro q h
  rcases h with ⟨k, e, h⟩ | h
  · exact hD.2 k (q, e) h
  · exact hA q (Nat.le_trans hS.1 h)
theorem gPreS {X : cxT} {A : Nat → Prop} {s : State} {H : Heap} {locs : List Loc} {W0 : va_W} {av : List Value} (hK : va_K X.1 vwCl (tyA X) s) (hP : va_P X.1 vwCl W0 H) (hD : va_D A W0) (hSt : stA A s s.heap) (hS : va_S A s.heap H locs) (hF : ∀ q, va_A W0 H.size q → A q) : PreS s H (wPre X H.size W0 av) av :=
  ⟨wPre.blind, fun U hU hW => ⟨rfl, by rw [hU], by rw [hU]; exact hP, va_K.moved hW.alike hK, hD.weaken (fun _ _ _ _ => trivial), hSt.at hS hF hU hW⟩⟩
theorem gPreV {X : cxT} {A : Nat → Prop} {s : State} {H : Heap} {locs : List Loc} {W0 : va_W} {b ci : Nat} {fs : List Value} {q : vw_C} {As : List Value} (hK : va_K X.1 vwCl (tyA X) s) (hP : va_P X.1 vwCl W0 H) (hD : va_D A W0) (hSt : stA A s s.heap) (hS : va_S A s.heap H locs) (hF : ∀ q, va_A W0 H.size q → A q) (q0 : Nat) (he : W0[q0]? = some (b, .inr (ci, fs))) (hc : vwCl[ci]? = some q) : PreV s H q.1 b (wPre X H.size W0 (.ref b :: As)) As :=
  ⟨wPre.blind, va_recv hK hP hc he, fun U hU hW => ⟨rfl, by rw [hU], by rw [hU]; exact hP, va_K.moved hW.alike hK, hD.weaken (fun _ _ _ _ => trivial), hSt.at hS hF hU hW⟩⟩
-- a part of the fixed cells and one lot of the pool go to the callee, and come back in place
theorem wset_len : ∀ (is : List Nat) (w X : va_W), (wset is w X).length = X.length
  | [], _, _ => rfl
  | _ :: _, [], _ => rfl
  | i :: is, q :: w, X => by rw [wset, wset_len is w]; simp
theorem wset_app : ∀ (is : List Nat) (w X P w2 : va_W) (is2 : List Nat), (∀ i ∈ is, i < X.length) → is.length = w.length → wset (is ++ is2) (w ++ w2) (X ++ P) = wset is2 w2 (wset is w X ++ P)
  | [], [], _, _, _, _, _, _ => rfl
  | [], _ :: _, _, _, _, _, _, h => by simp at h
  | _ :: _, [], _, _, _, _, _, h => by simp at h
  | i :: is, q :: w, X, P, w2, is2, hi, hl => by
    have h0 : i < X.length := hi i List.mem_cons_self
    show wset (is ++ is2) (w ++ w2) ((X ++ P).set i q) = wset is2 w2 (wset is w (X.set i q) ++ P)
    rw [List.set_append_left _ _ h0]
    exact wset_app is w (X.set i q) P w2 is2 (fun j hj => by rw [List.length_set]; exact hi j (List.mem_cons_of_mem _ hj)) (by simpa using hl)
theorem pl_at {X : va_W} {L : List Nat} {f : Nat → va_E} {a : Nat} (h : a ∈ L) : ∃ k : Nat, X.length ≤ k ∧ (X ++ va_pl L f)[k]? = some (a, f a) := by
  obtain ⟨j, hj⟩ := List.getElem?_of_mem h
  refine ⟨X.length + j, Nat.le_add_right _ _, ?_⟩
  rw [List.getElem?_append_right (Nat.le_add_right _ _), Nat.add_sub_cancel_left]
  simp [va_pl, List.getElem?_map, hj]
theorem va_nd_app : ∀ (is : List Nat) (k : Nat), va_nd is = true → k ∉ is → va_nd (is ++ [k]) = true
  | [], _, _, _ => by simp [va_nd]
  | i :: is, k, h, hk => by
    simp only [va_nd, Bool.and_eq_true, decide_eq_true_eq] at h
    rw [List.cons_append, va_nd, va_nd_app is k h.2 (fun q => hk (List.mem_cons_of_mem _ q))]
    simp only [Bool.and_true, decide_eq_true_eq, List.mem_append, List.mem_singleton]
    rintro (q | q)
    · exact h.1 q
    · exact hk (by rw [q]; exact List.mem_cons_self)
theorem pq_map {X cx : va_W} {L : List Nat} {f : Nat → va_E} {a k : Nat} {is : List Nat} (hC : is.map (fun i => X[i]?) = cx.map some) (hk : (X ++ va_pl L f)[k]? = some (a, f a)) : (is ++ [k]).map (fun i => (X ++ va_pl L f)[i]?) = (cx ++ [(a, f a)]).map some := by
  rw [List.map_append, List.map_append]
  congr 1
  · rw [← hC]
    apply List.map_congr_left
    intro i hi
    have h1 : (is.map (fun i => X[i]?)) = cx.map some := hC
    obtain ⟨n, hn⟩ := List.getElem?_of_mem hi
    have h2 : (is.map (fun i => X[i]?))[n]? = (cx.map some)[n]? := by rw [h1]
    rw [List.getElem?_map, List.getElem?_map, hn] at h2
    cases hx : cx[n]? with
    | none => rw [hx] at h2; cases h2
    | some q =>
      rw [hx] at h2
      have h3 : X[i]? = some q := Option.some.inj h2
      rw [List.getElem?_append_left (List.getElem?_eq_some_iff.mp h3).1]
  · simp [hk]
theorem pq_lt {X cx : va_W} {is : List Nat} (hC : is.map (fun i => X[i]?) = cx.map some) : ∀ i ∈ is, i < X.length := by
  intro i hi
  obtain ⟨n, hn⟩ := List.getElem?_of_mem hi
  have h2 : (is.map (fun i => X[i]?))[n]? = (cx.map some)[n]? := by rw [hC]
  rw [List.getElem?_map, List.getElem?_map, hn] at h2
  cases hx : cx[n]? with
  | none => rw [hx] at h2; cases h2
  | some q =>
    rw [hx] at h2
    exact (List.getElem?_eq_some_iff.mp (Option.some.inj h2)).1
theorem wjp {A0 : Nat → Prop} {D : va_G} {cl : List vw_C} {X cx c1 : va_W} {L : List Nat} {f : Nat → va_E} {a k : Nat} {e1 : va_E} {H H1 : Heap} (hP : va_P D cl (X ++ va_pl L f) H) (hD : va_D A0 (X ++ va_pl L f)) (is : List Nat) (ha : a ∈ L) (hk : (X ++ va_pl L f)[k]? = some (a, f a)) (hC : is.map (fun i => X[i]?) = cx.map some) (hc : c1.map Prod.fst = cx.map Prod.fst)
    (hkp : ∀ q : Nat, q < H.size → ¬ va_A (cx ++ [(a, f a)]) H.size q → H1[q]? = H[q]?) (hP1 : va_P D cl (c1 ++ [(a, e1)]) H1) : va_P D cl (wset is c1 X ++ va_pl L (va_up f a e1)) H1 ∧ va_D A0 (wset is c1 X ++ va_pl L (va_up f a e1)) := by
  obtain ⟨h1, h2⟩ := wj hP hD (is ++ [k]) (pq_map hC hk) (w1 := c1 ++ [(a, e1)]) (by rw [List.map_append, List.map_append, hc]; rfl) hkp hP1
  have hl : is.length = c1.length := by
    have a1 := congrArg List.length hC
    have a2 := congrArg List.length hc
    simp at a1 a2
    omega
  have e : wset (is ++ [k]) (c1 ++ [(a, e1)]) (X ++ va_pl L f) = wset is c1 X ++ va_pl L (va_up f a e1) := by
    rw [wset_app is c1 X _ _ _ (pq_lt hC) hl]
    show (wset is c1 X ++ va_pl L f).set k (a, e1) = _
    have hDx : va_D (fun _ => True) (wset is c1 X ++ va_pl L f) := by
      have hx : va_D A0 (wset (is ++ [k]) (c1 ++ [(a, f a)]) (X ++ va_pl L f)) := by
        refine h2.addr ?_
        rw [wset_app is c1 X _ _ _ (pq_lt hC) hl, wset_app is c1 X _ _ _ (pq_lt hC) hl]
        show ((wset is c1 X ++ va_pl L f).set k (a, f a)).map Prod.fst = ((wset is c1 X ++ va_pl L f).set k (a, e1)).map Prod.fst
        rw [List.map_set, List.map_set]
      rw [wset_app is c1 X _ _ _ (pq_lt hC) hl] at hx
      have hy : va_D A0 ((wset is c1 X ++ va_pl L f).set k (a, f a)) := hx
      have hk2 : (wset is c1 X ++ va_pl L f)[k]? = some (a, f a) := by
        have hkX : X.length ≤ k ∨ k < X.length := by omega
        rcases hkX with hkX | hkX
        · rw [List.getElem?_append_right (by rw [wset_len]; exact hkX), wset_len]
          rw [List.getElem?_append_right hkX] at hk
          exact hk
        · exfalso
          obtain ⟨k2, hk2, hk3⟩ := pl_at (X := X) (f := f) ha
          have := hD.1 k k2 _ _ hk hk3 rfl
          omega
      have hset : (wset is c1 X ++ va_pl L f).set k (a, f a) = wset is c1 X ++ va_pl L f := by
        apply List.ext_getElem?
        intro i
        by_cases hi : i = k
        · subst hi
          rw [List.getElem?_set_self (List.getElem?_eq_some_iff.mp hk2).1, hk2]
        · rw [List.getElem?_set_ne (Ne.symm hi)]
      rw [hset] at hy
      exact hy.weaken (fun _ _ _ _ => trivial)
    have hk2 : (wset is c1 X ++ va_pl L f)[k]? = some (a, f a) := by
      have hkX : X.length ≤ k ∨ k < X.length := by omega
      rcases hkX with hkX | hkX
      · rw [List.getElem?_append_right (by rw [wset_len]; exact hkX), wset_len]
        rw [List.getElem?_append_right hkX] at hk
        exact hk
      · exfalso
        obtain ⟨k2, hk2, hk3⟩ := pl_at (X := X) (f := f) ha
        have := hD.1 k k2 _ _ hk hk3 rfl
        omega
    exact va_pl_set hDx ha hk2
  rw [e] at h1 h2
  exact ⟨h1, h2⟩
section LVQ
variable {p : Program} {l : Launch} {e : Env} {R : Room} {s : State} {m : MethodId} {args : Array Value} {below : List Frame} {meth : Method} {c : Code} {H : Heap} {locs : List Loc} {cells slots : Nat} {Q : State → Prop} {pc : Nat} {ls : Array Slot} {rest : List Value}
theorem lv_eqq {x y : Option Nat} (h : x = y) (k : W p l e R s m args below meth c H locs cells slots Q (F0 m pc ls (va_rf y :: rest))) : W p l e R s m args below meth c H locs cells slots Q (F0 m pc ls (va_rf x :: rest)) := h ▸ k
end LVQ
-- what a method that may throw gives back: .inl k (1 IllegalArgument, 2 IllegalState, 3 IndexOutOfBounds), .inr answer and contents
def exN : Nat → String
  | 1 => "java/lang/IllegalArgumentException"
  | 2 => "java/lang/IllegalStateException"
  | _ => "java/lang/IndexOutOfBoundsException"
abbrev xnames : List String := ["java/lang/RuntimeException", "java/lang/Exception"]
def oPost (X : cxT) (A : Nat → Prop) (W1 : va_W) (t : State) : Prop := va_P X.1 vwCl W1 t.heap ∧ va_K X.1 vwCl (tyA X) t ∧ va_D A W1
theorem oPreV {X : cxT} {A : Nat → Prop} {s : State} {H : Heap} {locs : List Loc} {ws : va_W} {b ci : Nat} {fs : List Value} {q : vw_C} {As : List Value} (hK : va_K X.1 vwCl (tyA X) s) (hP : va_P X.1 vwCl ws H) (hSt : stA A s s.heap) (hS : va_S A s.heap H locs) (q0 : Nat) (he : ws[q0]? = some (b, .inr (ci, fs))) (hc : vwCl[ci]? = some q) : PreV s H q.1 b (rPre X ws (.ref b :: As)) As :=
  ⟨rPre.blind, va_recv hK hP hc he, fun U hU hW => ⟨rfl, by rw [hU]; exact hP, va_K.moved hW.alike hK, hSt.at hS (fun _ h => h.elim) hU hW⟩⟩
theorem xg41 : ∀ w ∈ (vx_atS RX5 41 "java/lang/IllegalArgumentException" xnames).filter (fun w => !goodWord w), w ∈ xB "java/lang/IllegalArgumentException" := by decide +kernel
theorem xg88 : ∀ w ∈ (vx_atS RX5 88 "java/lang/IllegalStateException" xnames).filter (fun w => !goodWord w), w ∈ xB "java/lang/IllegalStateException" := by decide +kernel
theorem xg108 : ∀ w ∈ (vx_atS RX5 108 "java/lang/IndexOutOfBoundsException" xnames).filter (fun w => !goodWord w), w ∈ xB "java/lang/IndexOutOfBoundsException" := by decide +kernel
theorem xo41 : ∀ w ∈ Cond.classLink RX5 37 "java/lang/IllegalArgumentException" :: Cond.initialized "java/lang/IllegalArgumentException" :: vx_atS RX5 41 "java/lang/IllegalArgumentException" xnames, vx_ot w = true := by decide +kernel
theorem xo88 : ∀ w ∈ Cond.classLink RX5 84 "java/lang/IllegalStateException" :: Cond.initialized "java/lang/IllegalStateException" :: vx_atS RX5 88 "java/lang/IllegalStateException" xnames, vx_ot w = true := by decide +kernel
theorem xo108 : ∀ w ∈ Cond.classLink RX5 104 "java/lang/IndexOutOfBoundsException" :: Cond.initialized "java/lang/IndexOutOfBoundsException" :: vx_atS RX5 108 "java/lang/IndexOutOfBoundsException" xnames, vx_ot w = true := by decide +kernel
