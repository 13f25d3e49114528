section
/-- a private method of a class that the tables say can be made, by its rows of tables_1 -/
def lw_okq (q : MethodName × Nat) : Prop := (q.1.cls ≠ "java/lang/invoke/MethodHandle" ∧ q.1.cls ≠ "java/lang/invoke/VarHandle") ∧ Cond.instantiable q.1.cls q.2 ∈ tables_1 ∧ Cond.privateMethod q.1 ∈ tables_1 ∧ Cond.instanceMethod q.1 ∈ tables_1
theorem lw_p0 : lw_okq (⟨"java/lang/Throwable", "fillInStackTrace", "(I)Ljava/lang/Throwable;"⟩, 6) := ⟨⟨by decide +kernel, by decide +kernel⟩, List.mem_of_getElem? (i := 160) (by decide +kernel), List.mem_of_getElem? (i := 158) (by decide +kernel), List.mem_of_getElem? (i := 159) (by decide +kernel)⟩
theorem lw_p1 : lw_okq (⟨"InspectionOffice", "judgeAll", "()V"⟩, 5) := ⟨⟨by decide +kernel, by decide +kernel⟩, List.mem_of_getElem? (i := 17) (by decide +kernel), List.mem_of_getElem? (i := 190) (by decide +kernel), List.mem_of_getElem? (i := 191) (by decide +kernel)⟩
theorem lw_p2 : lw_okq (⟨"InspectionOffice$Course", "begin", "(I)V"⟩, 8) := ⟨⟨by decide +kernel, by decide +kernel⟩, List.mem_of_getElem? (i := 47) (by decide +kernel), List.mem_of_getElem? (i := 198) (by decide +kernel), List.mem_of_getElem? (i := 199) (by decide +kernel)⟩
theorem lw_p3 : lw_okq (⟨"InspectionOffice$Course", "isPassedOver", "()Z"⟩, 8) := ⟨⟨by decide +kernel, by decide +kernel⟩, List.mem_of_getElem? (i := 47) (by decide +kernel), List.mem_of_getElem? (i := 214) (by decide +kernel), List.mem_of_getElem? (i := 215) (by decide +kernel)⟩
theorem lw_p4 : lw_okq (⟨"InspectionOffice$Course", "nextBehind", "(LInspectionOffice$Lot;LInspectionOffice$Plans;)I"⟩, 8) := ⟨⟨by decide +kernel, by decide +kernel⟩, List.mem_of_getElem? (i := 47) (by decide +kernel), List.mem_of_getElem? (i := 265) (by decide +kernel), List.mem_of_getElem? (i := 266) (by decide +kernel)⟩
theorem lw_p5 : lw_okq (⟨"InspectionOffice$Course", "behindNormal", "()I"⟩, 8) := ⟨⟨by decide +kernel, by decide +kernel⟩, List.mem_of_getElem? (i := 47) (by decide +kernel), List.mem_of_getElem? (i := 269) (by decide +kernel), List.mem_of_getElem? (i := 270) (by decide +kernel)⟩
theorem lw_p6 : lw_okq (⟨"InspectionOffice$Course", "behindTightened", "()I"⟩, 8) := ⟨⟨by decide +kernel, by decide +kernel⟩, List.mem_of_getElem? (i := 47) (by decide +kernel), List.mem_of_getElem? (i := 286) (by decide +kernel), List.mem_of_getElem? (i := 287) (by decide +kernel)⟩
theorem lw_p7 : lw_okq (⟨"InspectionOffice$Course", "countForSkipping", "(LInspectionOffice$Lot;)V"⟩, 8) := ⟨⟨by decide +kernel, by decide +kernel⟩, List.mem_of_getElem? (i := 47) (by decide +kernel), List.mem_of_getElem? (i := 291) (by decide +kernel), List.mem_of_getElem? (i := 292) (by decide +kernel)⟩
theorem lw_p8 : lw_okq (⟨"InspectionOffice", "findLot", "(I)LInspectionOffice$Lot;"⟩, 5) := ⟨⟨by decide +kernel, by decide +kernel⟩, List.mem_of_getElem? (i := 17) (by decide +kernel), List.mem_of_getElem? (i := 435) (by decide +kernel), List.mem_of_getElem? (i := 436) (by decide +kernel)⟩
def lw_privs_1 : List (MethodName × Nat) := [(⟨"java/lang/Throwable", "fillInStackTrace", "(I)Ljava/lang/Throwable;"⟩, 6), (⟨"InspectionOffice", "judgeAll", "()V"⟩, 5), (⟨"InspectionOffice$Course", "begin", "(I)V"⟩, 8), (⟨"InspectionOffice$Course", "isPassedOver", "()Z"⟩, 8), (⟨"InspectionOffice$Course", "nextBehind", "(LInspectionOffice$Lot;LInspectionOffice$Plans;)I"⟩, 8), (⟨"InspectionOffice$Course", "behindNormal", "()I"⟩, 8), (⟨"InspectionOffice$Course", "behindTightened", "()I"⟩, 8), (⟨"InspectionOffice$Course", "countForSkipping", "(LInspectionOffice$Lot;)V"⟩, 8), (⟨"InspectionOffice", "findLot", "(I)LInspectionOffice$Lot;"⟩, 5)]
theorem lw_r1 : ∀ q ∈ lw_privs_1, lw_okq q := List.forall_mem_cons.mpr ⟨lw_p0, List.forall_mem_cons.mpr ⟨lw_p1, List.forall_mem_cons.mpr ⟨lw_p2, List.forall_mem_cons.mpr ⟨lw_p3, List.forall_mem_cons.mpr ⟨lw_p4, List.forall_mem_cons.mpr ⟨lw_p5, List.forall_mem_cons.mpr ⟨lw_p6, List.forall_mem_cons.mpr ⟨lw_p7, List.forall_mem_cons.mpr ⟨lw_p8, fun _ h => absurd h List.not_mem_nil⟩⟩⟩⟩⟩⟩⟩⟩⟩
def lw_privs : List (MethodName × Nat) := lw_privs_1
def lw_tbl : List Cond := k2_sels lw_privs ++ tables_1
theorem lw_privs_ok : ∀ q ∈ lw_privs, lw_okq q := lw_r1
end
section
/-! ===== BEGIN words of one list among another's, by their places ===== -/
theorem goodIn_r {big : List Cond} (ws : List Cond) (ps : List Nat) (hp : ws = ps.filterMap (fun i => big[i]?)) (h : ws.all goodWord = true) : GoodIn big ws := by
  intro w hw
  have h1 := List.all_eq_true.mp h w hw
  rw [hp] at hw
  obtain ⟨i, -, hi⟩ := List.mem_filterMap.mp hw
  have hm : w ∈ big := by first | exact List.mem_of_getElem? hi | exact List.getElem?_mem hi
  exact ⟨hm, good_of_word h1⟩
theorem goodIn_app {big a b : List Cond} (ha : GoodIn big a) (hb : GoodIn big b) : GoodIn big (a ++ b) := fun w h => (List.mem_append.mp h).elim (ha w) (hb w)
theorem goodIn_ca {big a b : List Cond} {c : Cond} (ha : GoodIn big (c :: a)) (hb : GoodIn big b) : GoodIn big (c :: (a ++ b)) := fun w h => (List.mem_cons.mp h).elim (fun e => ha w (List.mem_cons.mpr (Or.inl e))) (fun h => (List.mem_append.mp h).elim (fun h => ha w (List.mem_cons.mpr (Or.inr h))) (hb w))
theorem goodIn_sub {big ws : List Cond} (hm : ∀ w ∈ ws, w ∈ big) (h : ws.all goodWord = true) : GoodIn big ws := fun w hw => ⟨hm w hw, good_of_word (List.all_eq_true.mp h w hw)⟩
/-! ===== END ===== -/

/-! ===== BEGIN exceptions that leave a method, and their catching by the caller (launches without stack traces) ===== -/
section VXA
/-! The laws vx_back, vx_callV, vx_callS, vx_callSW, vx_throw0, vx_throwS follow proofs of the library, with one case more: JvmDerived/Free/Laws.lean (Back.of_free), Shelf42/LK1.lean (callV, callS), Shelf/KitTraced.lean (throwNew0V, throwNewS). -/
/-- where a method has thrown q: the class by its name, the cell, what was written, the world -/
def vx_T (XC : String → State → State → Prop) (st : State) (q : Addr) (t : State) (mc ms : Nat) (free : Addr → Prop) : Prop :=
  ∃ (E : String) (ce : Cell) (L : List Loc), XC E st t ∧ t.heap[q]? = some ce ∧ ce.vm = .none ∧ st.vm.findClass E = some ce.cls ∧ st.WarmedH t.vm ∧ st.sameButNew ({ t with vm := st.vm } : State) L mc ms ∧ ∀ z ∈ L, free z.base
def vx_Q (Qc : Array Value → State → Outcome → State → Prop) (XC : String → State → State → Prop) (mc ms : Nat) (free : Addr → Prop) : Array Value → State → Outcome → State → Prop := fun a st o t =>
  (Qc a st o t ∧ ∃ L, FrameEnd st o t L mc ms ∧ ∀ q ∈ L, free q.base) ∨ ∃ q, o = .threw q ∧ vx_T XC st q t mc ms free
/-- a callee that returns or throws -/
def vx_Met (l : Launch) (y : MethodName) (ws : List Cond) (rm : Room) (Pc : Array Value → State → Prop) (Qc : Array Value → State → Outcome → State → Prop) (XC : String → State → State → Prop) (mc ms : Nat) (free : Addr → Prop) : Prop :=
  MetFree l y (headSpec ws rm) Pc (fun _ _ _ _ _ => True) (vx_Q Qc XC mc ms free)
def vx_Post (XC : String → State → State → Prop) (mc ms : Nat) (free : Addr → Prop) : Pt → Array Value → Addr → Pt → Prop := fun A a q B =>
  ∃ (g : JFrame) (mk : MethodId) (t : State) (L : List Loc) (E : String) (ce : Cell), B.U.heap = t.heap ∧ B.U.vm = t.vm ∧ XC E (A.U.calling g mk a) t ∧ t.heap[q]? = some ce ∧ ce.vm = .none ∧ A.U.vm.findClass E = some ce.cls ∧ B.locs = A.locs ++ L ∧ (∀ z ∈ L, free z.base) ∧ B.cells = A.cells + mc ∧ B.slots = A.slots + ms
def vx_Back (l : Launch) (R : Room) (p : Program) (e : Env) (below : List Frame) (s : State) (sargs : Array Value) (y : MethodName) (len W9 : Nat)
    (Pre : Pt → Array Value → Prop) (Post : Pt → Array Value → Option Value → Pt → Prop) (PostX : Pt → Array Value → Addr → Pt → Prop) : Prop :=
  ∀ (m : MethodId) (meth : Method) (c : Code) (A : Pt) (g : JFrame) (ig : Instr) (mk : MethodId) (a : Array Value),
    Stand p l e R s m sargs below meth c A.U A.locs A.cells A.slots → g.method = m → g.locals.size = c.maxLocals → decode c.code g.pc = .ok (ig, len) →
    2 * g.monitorRoom + (g.stack.map fun v => v.category).sum ≤ W9 → A.U.methodNamed? y = some mk → Pre A a →
    (∃ (v : Option Value) (B : Pt), Stand p l e R s m sargs below meth c B.U B.locs B.cells B.slots ∧ Post A a v B ∧
      Steps p.tables e below (doInvoke e (A.U.setTop g) [] mk a).1 (B.U.setTop { g with pc := g.pc + len, stack := v.toList ++ g.stack })) ∨
    (∃ (q : Addr) (B : Pt), Stand p l e R s m sargs below meth c B.U B.locs B.cells B.slots ∧ PostX A a q B ∧
      Steps p.tables e below (doInvoke e (A.U.setTop g) [] mk a).1 ((B.U.setTop g).pushFrame (.throwing q)))
section Payer
variable {l : Launch} {R : Room} {p : Program} {e : Env} {below : List Frame} {s : State} {sargs : Array Value} {y : MethodName} {len W9 : Nat}
theorem vx_back {ws : List Cond} {rm : Room} {Pc : Array Value → State → Prop} {Qc : Array Value → State → Outcome → State → Prop} {XC : String → State → State → Prop} {mc ms : Nat} {free : Addr → Prop} {bytes : ByteArray} {maxL : Nat} {ret : Option FieldType}
    (hM : vx_Met l y ws rm Pc Qc XC mc ms free) (hblind : FrameBlind Pc) (hrc : rm.cells = mc) (hrs : rm.slots = ms)
    (hframes : rm.frames + 1 ≤ R.frames) (hlocals : W9 + (maxL + 11) + rm.locals ≤ R.locals)
    (hws : ∀ w ∈ ws, ∀ a' U, s.WarmedH U.vm → w.before a' U = true) (hcode : Cond.code y bytes maxL ret ∈ ws) (hinit : ∀ a' U, s.WarmedH U.vm → (Cond.initialized y.cls).before a' U = true) :
    vx_Back l R p e below s sargs y len W9 (PreOf R mc ms Pc) (PostOf Qc mc ms free) (vx_Post XC mc ms free) := by
  intro m meth c A g ig mk a X hg hsize hdg hW hn hp
  have h1 : (headSpec ws rm).pre.before a A.U = true := atoms_intro fun w hw => hws w hw _ _ X.warmed
  have h2 : (Cond.code y bytes maxL ret).before a A.U = true := hws _ hcode _ _ X.warmed
  have h3 : (Cond.initialized y.cls).before a A.U = true := hinit _ _ X.warmed
  have h4 : A.cells + (headSpec ws rm).room.cells ≤ R.cells := by rw [show (headSpec ws rm).room.cells = mc from hrc]; exact hp.1
  have h5 : A.slots + (headSpec ws rm).room.slots ≤ R.slots := by rw [show (headSpec ws rm).room.slots = ms from hrs]; exact hp.2.1
  have hPc : Pc a (A.U.calling g mk a) := hblind _ _ _ _ hp.2.2
  obtain ⟨U, Ls, c0, s0⟩ := A
  dsimp only [Pt.U, Pt.locs, Pt.cells, Pt.slots] at h1 h2 h3 h4 h5 X hn hPc ⊢
  obtain ⟨methY, cY, hmY, hcY, -, hlY, -, -, -, -⟩ := Cond.code_spec hn h2
  obtain ⟨kY, hkY, -⟩ := className_of_methodNamed hn
  have hinitY : kY.init = .initialized := Cond.initialized_spec (findClass_of_methodNamed hn) hkY h3
  have h : At U g.method c below := by rw [hg]; exact X.here
  have hlocals9 : W9 + (maxL + 11) + (headSpec ws rm).room.locals ≤ R.locals := hlocals
  have happ : (headSpec ws rm).appliesLoose y e.platform (U.calling g mk a) = true :=
    Spec.appliesLoose_calling (g := g) h hdg hn hkY hinitY
      (X.room_calling (g := g) (R' := (headSpec ws rm).room) hsize hmY hcY hframes (by rw [hlY]; omega) h4 h5) h1
  obtain ⟨mid, hmid⟩ := h.above
  have hfr : (U.setTop g).frames = (.java g :: mid) ++ below := by rw [State.frames_setTop' g h.top, hmid]; rfl
  obtain ⟨o, s₂, hsteps, -, hend, hq⟩ := Steps.callFree hM p X.admits X.cas X.clock (acts := []) hfr happ hPc trivial
  have hq' : vx_Q Qc XC mc ms free a (U.calling g mk a) o s₂ := hq
  rw [State.frames_setTop' g h.top] at hend
  obtain ⟨g₀, hg0⟩ := Option.isSome_iff_exists.mp h.top
  obtain ⟨r, hr⟩ := State.topJava?_eq_some.mp hg0
  have hr' : (({ U with heap := s₂.heap, slotsUsed := s₂.slotsUsed } : State).setVm s₂.vm).frames = .java g₀ :: r := hr
  rcases hq' with ⟨hqc, L, hfe, hL⟩ | ⟨q, rfl, E, ce, L, hx, hce, hcv, hcl, hW₂, hsm, hL⟩
  · obtain ⟨⟨v, rfl⟩, hW₂, e2, q2, q3, q4, q5, q6⟩ := id hfe
    have e3 : s₂ = ({ (U.calling g mk a).setFrames s₂.frames with heap := s₂.heap, slotsUsed := s₂.slotsUsed } : State).setVm s₂.vm := by
      have : s₂ = ({ s₂ with vm := (U.calling g mk a).vm } : State).setVm s₂.vm := rfl
      rw [e2] at this
      exact this
    obtain ⟨c₂, i₂, len₂, hc₂, hd₂, hf₂⟩ := hend
    have hW' : U.WarmedH s₂.vm := hW₂
    have hcc : c₂ = c := by
      have h1 : s₂.code? g.method = U.code? g.method := by
        rw [State.code?_eq, State.code?_eq, hW'.alike.method?]
      exact Option.some.inj (hc₂.symm.trans (h1.trans h.code))
    subst hcc
    have hlen : len₂ = len := by rw [hdg] at hd₂; cases hd₂; rfl
    subst hlen
    have hs₂ : s₂ = (({ U with heap := s₂.heap, slotsUsed := s₂.slotsUsed } : State).setVm s₂.vm).setTop { g with pc := g.pc + len₂, stack := v.toList ++ g.stack } := by
      refine e3.trans ?_
      rw [hf₂, State.calling_eq h.top, State.setFrames_setFrames, State.setTop_of_frames _ hr', hr]
      rfl
    have hsame : U.sameButNew ({ U with heap := s₂.heap, slotsUsed := s₂.slotsUsed } : State) L mc ms := by
      refine ⟨?_, q2, q3, q4, q5, q6⟩
      obtain ⟨t, ht, -⟩ := State.frames_cons hr
      show ({ U with heap := s₂.heap, slotsUsed := s₂.slotsUsed } : State) = { U.setFrames U.frames with heap := s₂.heap, slotsUsed := s₂.slotsUsed }
      rw [State.setFrames_self ht]
    subst hg
    refine Or.inl ⟨v, ⟨(({ U with heap := s₂.heap, slotsUsed := s₂.slotsUsed } : State).setVm s₂.vm), Ls ++ L, c0 + mc, s0 + ms⟩,
      ⟨X.admits, X.cas, X.clock, X.frames, X.room, X.hears, X.method, X.code, (X.here.setHeapUsed s₂.heap s₂.slotsUsed).setVm hW'.alike, X.tail, State.WarmedH.trans X.warmed hW', X.limits, X.bytes, X.same.trans (hsame.setVm s.vm)⟩,
      ⟨g, mk, s₂, L, rfl, rfl, hqc, rfl, hL, rfl, rfl⟩, ?_⟩
    show Steps p.tables e below _ ((({ U with heap := s₂.heap, slotsUsed := s₂.slotsUsed } : State).setVm s₂.vm).setTop { g with pc := g.pc + len₂, stack := v.toList ++ g.stack })
    rw [← hs₂]
    exact hsteps
  · obtain ⟨e2, q2, q3, q4, q5, q6⟩ := id hsm
    have e3 : s₂ = ({ (U.calling g mk a).setFrames s₂.frames with heap := s₂.heap, slotsUsed := s₂.slotsUsed } : State).setVm s₂.vm := by
      have : s₂ = ({ s₂ with vm := (U.calling g mk a).vm } : State).setVm s₂.vm := rfl
      rw [e2] at this
      exact this
    have hf₂ : s₂.frames = .throwing q :: .java g :: U.frames.tail := hend
    have hW' : U.WarmedH s₂.vm := hW₂
    have hs₂ : s₂ = ((({ U with heap := s₂.heap, slotsUsed := s₂.slotsUsed } : State).setVm s₂.vm).setTop g).pushFrame (.throwing q) := by
      refine e3.trans ?_
      rw [hf₂, State.calling_eq h.top, State.setFrames_setFrames, State.pushFrame, State.frames_setTop _ hr', State.setTop_of_frames _ hr', State.setFrames_setFrames, hr]
      rfl
    have hsame : U.sameButNew ({ U with heap := s₂.heap, slotsUsed := s₂.slotsUsed } : State) L mc ms := by
      refine ⟨?_, q2, q3, q4, q5, q6⟩
      obtain ⟨t, ht, -⟩ := State.frames_cons hr
      show ({ U with heap := s₂.heap, slotsUsed := s₂.slotsUsed } : State) = { U.setFrames U.frames with heap := s₂.heap, slotsUsed := s₂.slotsUsed }
      rw [State.setFrames_self ht]
    subst hg
    refine Or.inr ⟨q, ⟨(({ U with heap := s₂.heap, slotsUsed := s₂.slotsUsed } : State).setVm s₂.vm), Ls ++ L, c0 + mc, s0 + ms⟩,
      ⟨X.admits, X.cas, X.clock, X.frames, X.room, X.hears, X.method, X.code, (X.here.setHeapUsed s₂.heap s₂.slotsUsed).setVm hW'.alike, X.tail, State.WarmedH.trans X.warmed hW', X.limits, X.bytes, X.same.trans (hsame.setVm s.vm)⟩,
      ⟨g, mk, s₂, L, E, ce, rfl, rfl, hx, hce, hcv, hcl, rfl, hL, rfl, rfl⟩, ?_⟩
    show Steps p.tables e below _ (((({ U with heap := s₂.heap, slotsUsed := s₂.slotsUsed } : State).setVm s₂.vm).setTop g).pushFrame (.throwing q))
    rw [← hs₂]
    exact hsteps
end Payer
section Calls
variable {p : Program} {l : Launch} {e : Env} {R : Room} {s : State} {m : MethodId} {args : Array Value} {below : List Frame} {meth : Method} {c : Code} {T : State} {locs : List Loc} {cells slots : Nat}
theorem vx_callV (X : Stand p l e R s m args below meth c T locs cells slots) (hexec : p.tables.exec = Jvm.exec) {own C : String} {index : Nat} {y : MethodName} {bytes : ByteArray} {maxL : Nat} {ret : Option FieldType}
    (hown : s.vm.findClass own = some m.cls) (hlink : (Cond.methodLink own index y).before args s = true) (hinst : (Cond.instanceMethod y).before args s = true) (hsel : (Cond.selects C y y).before args s = true)
    (hcode : (Cond.code y bytes maxL ret).before args s = true) (hy : y.cls ≠ "java/lang/invoke/MethodHandle" ∧ y.cls ≠ "java/lang/invoke/VarHandle")
    {W9 : Nat} {Pre : Pt → Array Value → Prop} {Post : Pt → Array Value → Option Value → Pt → Prop} {PostX : Pt → Array Value → Addr → Pt → Prop} (hK : vx_Back l R p e below s args y 3 W9 Pre Post PostX)
    {b : Addr} {cellB : Cell} (hcell : T.heap[b]? = some cellB) (hobj : cellB.vm.isStatics = false) (hcls : s.vm.findClass C = some cellB.cls)
    {g : JFrame} (hg : g.method = m) (hsize : g.locals.size = c.maxLocals) {argsL rest : List Value} (hlen : ∀ sig, parseMethodDescriptor y.desc = some sig → argsL.length = sig.parameters.length)
    (hstack : g.stack = argsL.reverse ++ .ref b :: rest) (hW : 2 * g.monitorRoom + (rest.map fun v => v.category).sum ≤ W9) (hdg : decode c.code g.pc = .ok (.invokevirtual index, 3))
    (hpre : ∀ vm₁, s.WarmedH vm₁ → Pre ⟨T.setVm vm₁, locs, cells, slots⟩ (Value.ref b :: argsL).toArray) :
    (∃ (v : Option Value) (vm₁ : Vm) (B : Pt), s.WarmedH vm₁ ∧ Stand p l e R s m args below meth c B.U B.locs B.cells B.slots ∧ Post ⟨T.setVm vm₁, locs, cells, slots⟩ (Value.ref b :: argsL).toArray v B ∧
      ∀ target, Steps p.tables e below (B.U.setTop { g with pc := g.pc + 3, stack := v.toList ++ rest }) target → Steps p.tables e below (T.setTop g) target) ∨
    (∃ (q : Addr) (vm₁ : Vm) (B : Pt), s.WarmedH vm₁ ∧ Stand p l e R s m args below meth c B.U B.locs B.cells B.slots ∧ PostX ⟨T.setVm vm₁, locs, cells, slots⟩ (Value.ref b :: argsL).toArray q B ∧
      Steps p.tables e below (T.setTop g) ((B.U.setTop { g with stack := rest }).pushFrame (.throwing q))) := by
  obtain ⟨mk, methM, hnamed, hmethM, hstM, habM⟩ := Cond.instanceMethod_spec hinst
  obtain ⟨methM', cM, hmethM', -, -, -, -, -, -, hsigM⟩ := Cond.code_spec hnamed hcode
  cases hmethM.symm.trans hmethM'
  obtain ⟨c2, r2, m2, q1, q2, q3, q4, kP, hkP, hkPi⟩ := Cond.selects_spec hsel
  cases hcls.symm.trans q1
  cases (State.methodFound?_of_named hnamed hy).symm.trans q2
  cases hnamed.symm.trans q3
  have hselP : selectMethod e.platform s.vm cellB.cls mk = .method mk := by rw [Launch.admits_selectMethod X.admits]; exact q4
  obtain ⟨vm₁, X₁, hstep₁⟩ := X.invokevirtual hexec hown hlink hnamed hmethM hstM hkP hkPi hy (a := b) (cell := cellB) hcell
    (fun z h => by rw [h] at hobj; cases hobj) hselP hmethM habM hkP hkPi (g := g) hg (argsL := argsL) (rest := rest) (hlen _ hsigM) hstack hdg
  rcases hK m meth c ⟨T.setVm vm₁, locs, cells, slots⟩ { g with stack := rest } (.invokevirtual index) mk (Value.ref b :: argsL).toArray X₁ hg hsize hdg hW (X₁.named hnamed) (hpre vm₁ X₁.warmed) with ⟨v, B, X', hpost, hsteps⟩ | ⟨q, B, X', hpost, hsteps⟩
  · exact Or.inl ⟨v, vm₁, B, X₁.warmed, X', hpost, fun target h => hstep₁ _ fun acts => by rw [doInvoke_state]; exact hsteps.trans h⟩
  · exact Or.inr ⟨q, vm₁, B, X₁.warmed, X', hpost, hstep₁ _ fun acts => by rw [doInvoke_state]; exact hsteps⟩
theorem vx_callS (X : Stand p l e R s m args below meth c T locs cells slots) (hexec : p.tables.exec = Jvm.exec) {own : String} {index : Nat} {y : MethodName} {bytes : ByteArray} {maxL : Nat} {ret : Option FieldType}
    (hown : s.vm.findClass own = some m.cls) (hlink : (Cond.methodLink own index y).before args s = true) (hstat : (Cond.static y).before args s = true) (hinit : (Cond.initialized y.cls).before args s = true)
    (hcode : (Cond.code y bytes maxL ret).before args s = true) (hy : y.cls ≠ "java/lang/invoke/MethodHandle" ∧ y.cls ≠ "java/lang/invoke/VarHandle")
    {W9 : Nat} {Pre : Pt → Array Value → Prop} {Post : Pt → Array Value → Option Value → Pt → Prop} {PostX : Pt → Array Value → Addr → Pt → Prop} (hK : vx_Back l R p e below s args y 3 W9 Pre Post PostX)
    {g : JFrame} (hg : g.method = m) (hsize : g.locals.size = c.maxLocals) {argsL rest : List Value} (hlen : ∀ sig, parseMethodDescriptor y.desc = some sig → argsL.length = sig.parameters.length)
    (hstack : g.stack = argsL.reverse ++ rest) (hW : 2 * g.monitorRoom + (rest.map fun v => v.category).sum ≤ W9) (hdg : decode c.code g.pc = .ok (.invokestatic index, 3))
    (hpre : ∀ vm₁, s.WarmedH vm₁ → Pre ⟨T.setVm vm₁, locs, cells, slots⟩ argsL.toArray) :
    (∃ (v : Option Value) (vm₁ : Vm) (B : Pt), s.WarmedH vm₁ ∧ Stand p l e R s m args below meth c B.U B.locs B.cells B.slots ∧ Post ⟨T.setVm vm₁, locs, cells, slots⟩ argsL.toArray v B ∧
      ∀ target, Steps p.tables e below (B.U.setTop { g with pc := g.pc + 3, stack := v.toList ++ rest }) target → Steps p.tables e below (T.setTop g) target) ∨
    (∃ (q : Addr) (vm₁ : Vm) (B : Pt), s.WarmedH vm₁ ∧ Stand p l e R s m args below meth c B.U B.locs B.cells B.slots ∧ PostX ⟨T.setVm vm₁, locs, cells, slots⟩ argsL.toArray q B ∧
      Steps p.tables e below (T.setTop g) ((B.U.setTop { g with stack := rest }).pushFrame (.throwing q))) := by
  obtain ⟨mk, hnamed⟩ := Cond.code_named hcode
  obtain ⟨methM, cM, hmethM, -, -, -, -, -, -, hsigM⟩ := Cond.code_spec hnamed hcode
  have hstatic : methM.isStatic = true := Cond.static_spec hnamed hmethM hstat
  obtain ⟨kP, hkP, -⟩ := className_of_methodNamed hnamed
  have hinitP : kP.init = .initialized := Cond.initialized_spec (findClass_of_methodNamed hnamed) hkP hinit
  obtain ⟨vm₁, X₁, hstep₁⟩ := X.invokestatic hexec hown hlink hnamed hmethM hstatic hkP hinitP hy (g := g) hg (argsL := argsL) (rest := rest) (hlen _ hsigM) hstack hdg
  rcases hK m meth c ⟨T.setVm vm₁, locs, cells, slots⟩ { g with stack := rest } (.invokestatic index) mk argsL.toArray X₁ hg hsize hdg hW (X₁.named hnamed) (hpre vm₁ X₁.warmed) with ⟨v, B, X', hpost, hsteps⟩ | ⟨q, B, X', hpost, hsteps⟩
  · exact Or.inl ⟨v, vm₁, B, X₁.warmed, X', hpost, fun target h => hstep₁ _ fun acts => by rw [doInvoke_state]; exact hsteps.trans h⟩
  · exact Or.inr ⟨q, vm₁, B, X₁.warmed, X', hpost, hstep₁ _ fun acts => by rw [doInvoke_state]; exact hsteps⟩
end Calls
theorem vx_cls {s : State} {T : State} {vm₁ : Vm} {E : String} {k : ClassId} (hW : s.WarmedH vm₁) (h : (T.setVm vm₁).vm.findClass E = some k) : s.vm.findClass E = some k := by
  have h1 : vm₁.findClass E = some k := h
  rw [hW.alike.findClass] at h1
  exact h1
/-- the method's frame g, with q thrown over it -/
def vx_W (p : Program) (l : Launch) (e : Env) (R : Room) (s : State) (m : MethodId) (args : Array Value) (below : List Frame) (meth : Method) (c : Code) (H : Heap) (locs : List Loc) (cells slots : Nat) (Q : State → Prop) (g : JFrame) (q : Addr) : Prop :=
  ∀ T : State, T.heap = H → Stand p l e R s m args below meth c T locs cells slots → ∃ t, Steps p.tables e below ((T.setTop g).pushFrame (.throwing q)) t ∧ Q t
def vx_Run (p : Program) (l : Launch) (e : Env) (R : Room) (s : State) (m : MethodId) (args : Array Value) (below : List Frame) (meth : Method) (c : Code) (H : Heap) (locs : List Loc) (cells slots mc ms : Nat) (g : JFrame) (rest : List Value) (Qa : State → Outcome → State → Prop) (XC : String → State → State → Prop) (free : Addr → Prop) : Prop :=
  ∀ T : State, T.heap = H → Stand p l e R s m args below meth c T locs cells slots →
    (∃ (v : Option Value) (st₀ t T' : State) (L : List Loc), st₀.heap = H ∧ Stand p l e R s m args below meth c T' (locs ++ L) (cells + mc) (slots + ms) ∧ (∀ q ∈ L, free q.base) ∧ T'.heap = t.heap ∧ T'.vm = t.vm ∧ Qa st₀ (.returned v) t ∧
      Goes p e below T g T' { g with pc := g.pc + 3, stack := v.toList ++ rest }) ∨
    (∃ (q : Addr) (st₀ t T' : State) (L : List Loc) (E : String) (ce : Cell), st₀.heap = H ∧ Stand p l e R s m args below meth c T' (locs ++ L) (cells + mc) (slots + ms) ∧ (∀ z ∈ L, free z.base) ∧ T'.heap = t.heap ∧ T'.vm = t.vm ∧ XC E st₀ t ∧ t.heap[q]? = some ce ∧ ce.vm = .none ∧ s.vm.findClass E = some ce.cls ∧
      Steps p.tables e below (T.setTop g) ((T'.setTop { g with stack := rest }).pushFrame (.throwing q)))
def vx_X {S : Type} (px : S → Prop) (B : String → S → State → Prop) (A : Nat → Prop) : String → State → State → Prop := fun E st t => ∃ u : S, px u ∧ B E u t ∧ va_F A st t
section Runs
variable {p : Program} {l : Launch} {e : Env} {R : Room} {s : State} {m : MethodId} {args : Array Value} {below : List Frame} {meth : Method} {c : Code} {H : Heap} {locs : List Loc} {cells slots : Nat}
variable {y : MethodName} {bytes cc : ByteArray} {maxL nL mc ms n index : Nat} {ret : Option FieldType} {ws : List Cond} {rm : Room} {Pc : Array Value → State → Prop} {Qc : Array Value → State → Outcome → State → Prop} {XC : String → State → State → Prop} {free : Addr → Prop} {Ts : List Cond} {own C : String} {b : Addr} {As rest : List Value} {g : JFrame}
theorem vx_callBack (cb : CallB R s args own index y bytes maxL ret ws rm mc ms n) (hM : vx_Met l y ws rm Pc Qc XC mc ms free) (hbl : FrameBlind Pc) : vx_Back l R p e below s args y 3 8 (PreOf R mc ms Pc) (PostOf Qc mc ms free) (vx_Post XC mc ms free) := by
  obtain ⟨hrc, hrs, hfr, hlo, hws, hcw, -, hini, -⟩ := cb
  exact vx_back (bytes := bytes) (maxL := maxL) (ret := ret) hM hbl hrc hrs hfr hlo hws hcw (fun a' U hW => word_at hW (Or.inl (by first | rfl | simp [Cond.onTables, Cond.keeps, Cond.steady])) hini)
theorem vx_runV (S : CallFix p m c cc nL s args Ts own) (hM : vx_Met l y ws rm Pc Qc XC mc ms free) (cw : CallW R s args own C index y bytes maxL ret ws rm mc ms n) (hp : PreV s H C b Pc As)
    (hg : g.method = m) (hn : As.length = n) (hsize : g.locals.size = nL) (hstack : g.stack = As.reverse ++ .ref b :: rest) (hW : 2 * g.monitorRoom + (rest.map fun v => v.category).sum ≤ 8) (hdg : decode cc g.pc = .ok (.invokevirtual index, 3)) (hf : cells + mc ≤ R.cells ∧ slots + ms ≤ R.slots) :
    vx_Run p l e R s m args below meth c H locs cells slots mc ms g rest (Qc (Value.ref b :: As).toArray) XC free := by
  have hK : vx_Back l R p e below s args y 3 8 (PreOf R mc ms Pc) (PostOf Qc mc ms free) (vx_Post XC mc ms free) := vx_callBack cw.1 hM hp.1
  obtain ⟨⟨-, -, -, -, -, -, hcode, -, hy, hlen, hl⟩, hin, hse⟩ := cw
  obtain ⟨hx, hb, hml, ho, -⟩ := S
  obtain ⟨-, ⟨cellB, hcB, hoB, hclB⟩, hPc⟩ := hp
  intro T hT X
  rcases vx_callV X hx (C := C) (bytes := bytes) (maxL := maxL) (ret := ret) ho hl hin hse hcode hy hK (by rw [hT]; exact hcB) hoB hclB hg (hsize.trans hml.symm) (argsL := As) (rest := rest) (fun sig h => hn.trans (hlen sig h)) hstack hW (by rw [hb]; exact hdg)
    (fun vm₁ hW₁ => ⟨hf.1, hf.2, hPc (T.setVm vm₁) hT hW₁⟩) with ⟨v, vm₁, ⟨U', l2, c2, s2⟩, hW₁, X', ⟨g', mk, t, L, e1, e2, hq, h1, hL, h2, h3⟩, st⟩ | ⟨q, vm₁, ⟨U', l2, c2, s2⟩, hW₁, X', ⟨g', mk, t, L, E, ce, e1, e2, hq, hce, hcv, hcl, h1, hL, h2, h3⟩, st⟩
  · dsimp only [Pt.U, Pt.locs, Pt.cells, Pt.slots] at X' e1 e2 h1 h2 h3 st
    subst h1; subst h2; subst h3
    exact Or.inl ⟨v, (T.setVm vm₁).calling g' mk (Value.ref b :: As).toArray, t, U', L, hT, X', hL, e1, e2, hq, st⟩
  · dsimp only [Pt.U, Pt.locs, Pt.cells, Pt.slots] at X' e1 e2 h1 h2 h3 st hcl
    subst h1; subst h2; subst h3
    exact Or.inr ⟨q, (T.setVm vm₁).calling g' mk (Value.ref b :: As).toArray, t, U', L, E, ce, hT, X', hL, e1, e2, hq, hce, hcv, vx_cls hW₁ hcl, st⟩
theorem vx_runS (S : CallFix p m c cc nL s args Ts own) (hM : vx_Met l y ws rm Pc Qc XC mc ms free) (cw : CallB R s args own index y bytes maxL ret ws rm mc ms n ∧ (Cond.static y).before args s = true) (hp : PreS s H Pc As)
    (hg : g.method = m) (hn : As.length = n) (hsize : g.locals.size = nL) (hstack : g.stack = As.reverse ++ rest) (hW : 2 * g.monitorRoom + (rest.map fun v => v.category).sum ≤ 8) (hdg : decode cc g.pc = .ok (.invokestatic index, 3)) (hf : cells + mc ≤ R.cells ∧ slots + ms ≤ R.slots) :
    vx_Run p l e R s m args below meth c H locs cells slots mc ms g rest (Qc As.toArray) XC free := by
  have hK : vx_Back l R p e below s args y 3 8 (PreOf R mc ms Pc) (PostOf Qc mc ms free) (vx_Post XC mc ms free) := vx_callBack cw.1 hM hp.1
  obtain ⟨⟨-, -, -, -, -, -, hcode, hini, hy, hlen, hl⟩, hstt⟩ := cw
  obtain ⟨hx, hb, hml, ho, -⟩ := S
  intro T hT X
  rcases vx_callS X hx (bytes := bytes) (maxL := maxL) (ret := ret) ho hl hstt hini hcode hy hK hg (hsize.trans hml.symm) (argsL := As) (rest := rest) (fun sig h => hn.trans (hlen sig h)) hstack hW (by rw [hb]; exact hdg)
    (fun vm₁ hW₁ => ⟨hf.1, hf.2, hp.2 (T.setVm vm₁) hT hW₁⟩) with ⟨v, vm₁, ⟨U', l2, c2, s2⟩, hW₁, X', ⟨g', mk, t, L, e1, e2, hq, h1, hL, h2, h3⟩, st⟩ | ⟨q, vm₁, ⟨U', l2, c2, s2⟩, hW₁, X', ⟨g', mk, t, L, E, ce, e1, e2, hq, hce, hcv, hcl, h1, hL, h2, h3⟩, st⟩
  · dsimp only [Pt.U, Pt.locs, Pt.cells, Pt.slots] at X' e1 e2 h1 h2 h3 st
    subst h1; subst h2; subst h3
    exact Or.inl ⟨v, (T.setVm vm₁).calling g' mk As.toArray, t, U', L, hT, X', hL, e1, e2, hq, st⟩
  · dsimp only [Pt.U, Pt.locs, Pt.cells, Pt.slots] at X' e1 e2 h1 h2 h3 st hcl
    subst h1; subst h2; subst h3
    exact Or.inr ⟨q, (T.setVm vm₁).calling g' mk As.toArray, t, U', L, E, ce, hT, X', hL, e1, e2, hq, hce, hcv, vx_cls hW₁ hcl, st⟩
end Runs
section Rows
variable {p : Program} {l : Launch} {e : Env} {R : Room} {s : State} {m : MethodId} {args : Array Value} {below : List Frame} {meth : Method} {c : Code} {H : Heap} {locs : List Loc} {cells slots : Nat} {Q : State → Prop}
variable {mc ms : Nat} {free : Addr → Prop} {A0 A1 : Nat → Prop} {H0 : Heap} {a : Array Value} {pc : Nat} {ls : Array Slot} {st0 rest : List Value}
theorem vx_keep {st₀ t T' : State} {L : List Loc} (h0 : st₀.heap = H) (e1 : T'.heap = t.heap) (hS : va_S A0 H0 H locs) (hA : ∀ q, q < H.size → A1 q → A0 q) (hf : ∀ q, free q → A0 q) (hL : ∀ q ∈ L, free q.base) (hF : va_F A1 st₀ t) :
    H.size ≤ T'.heap.size ∧ (∀ q : Nat, q < H.size → ¬ A1 q → T'.heap[q]? = H[q]?) ∧ va_S A0 H0 T'.heap (locs ++ L) := by
  obtain ⟨hz, hk⟩ := hF
  rw [h0] at hz hk
  exact ⟨by rw [e1]; exact hz, fun q h1 h2 => by rw [e1]; exact hk q h1 h2,
    ⟨Nat.le_trans hS.1 (by rw [e1]; exact hz), fun q h1 h2 => by rw [e1, hk q (Nat.lt_of_lt_of_le h1 hS.1) (fun z => h2 (hA q (Nat.lt_of_lt_of_le h1 hS.1) z))]; exact hS.2.1 q h1 h2, fun q hq => by
      rcases List.mem_append.mp hq with h | h
      · exact hS.2.2 q h
      · exact hf _ (hL q h)⟩⟩
theorem vx_calli {S SX : Type} {post : Int32 → S → Prop} {px : SX → Prop} {B : S → State → Prop} {BX : String → SX → State → Prop} {AX : Nat → Prop} (hr : vx_Run p l e R s m args below meth c H locs cells slots mc ms (F0 m pc ls st0) rest (va_Qi post B A1 a) (vx_X px BX AX) free) (hS : va_S A0 H0 H locs) (hA : ∀ q, q < H.size → A1 q → A0 q) (hf : ∀ q, free q → A0 q) (hAX : ∀ q, q < H.size → AX q → A0 q)
    (kx : ∀ (E : String) (ce : Cell) (q9 : Addr) (u : SX) (t : State) (H1 : Heap) (locs1 : List Loc), t.heap = H1 → s.vm.Alike t.vm → px u → BX E u t → H.size ≤ H1.size → (∀ q : Nat, q < H.size → ¬ AX q → H1[q]? = H[q]?) → va_S A0 H0 H1 locs1 → H1[q9]? = some ce → ce.vm = .none → s.vm.findClass E = some ce.cls → vx_W p l e R s m args below meth c H1 locs1 (cells + mc) (slots + ms) Q (F0 m pc ls rest) q9)
    (kk : ∀ (r : Int32) (u : S) (t : State) (H1 : Heap) (locs1 : List Loc), t.heap = H1 → s.vm.Alike t.vm → post r u → B u t → H.size ≤ H1.size → (∀ q : Nat, q < H.size → ¬ A1 q → H1[q]? = H[q]?) → va_S A0 H0 H1 locs1 → W p l e R s m args below meth c H1 locs1 (cells + mc) (slots + ms) Q (F0 m (pc + 3) ls (.int r :: rest))) : W p l e R s m args below meth c H locs cells slots Q (F0 m pc ls st0) := by
  intro T hT X
  rcases hr T hT X with ⟨v, st₀, t, T', L, h0, X', hL, e1, e2, ⟨⟨r, u, hv, hp, hb⟩, hF⟩, st⟩ | ⟨q, st₀, t, T', L, E, ce, h0, X', hL, e1, e2, ⟨u, hp, hb, hF⟩, hce, hcv, hcl, st⟩
  · cases hv
    obtain ⟨k1, k2, k3⟩ := vx_keep h0 e1 hS hA hf hL hF
    obtain ⟨t2, a1, b1⟩ := kk r u t T'.heap (locs ++ L) e1.symm (by rw [← e2]; exact X'.warmed.alike) hp hb k1 k2 k3 T' rfl X'
    exact ⟨t2, st t2 a1, b1⟩
  · obtain ⟨k1, k2, k3⟩ := vx_keep h0 e1 hS hAX hf hL hF
    obtain ⟨t2, a1, b1⟩ := kx E ce q u t T'.heap (locs ++ L) e1.symm (by rw [← e2]; exact X'.warmed.alike) hp hb k1 k2 k3 (by rw [e1]; exact hce) hcv hcl T' rfl X'
    exact ⟨t2, st.trans a1, b1⟩
theorem vx_calll {S SX : Type} {post : Int64 → S → Prop} {px : SX → Prop} {B : S → State → Prop} {BX : String → SX → State → Prop} {AX : Nat → Prop} (hr : vx_Run p l e R s m args below meth c H locs cells slots mc ms (F0 m pc ls st0) rest (va_Ql post B A1 a) (vx_X px BX AX) free) (hS : va_S A0 H0 H locs) (hA : ∀ q, q < H.size → A1 q → A0 q) (hf : ∀ q, free q → A0 q) (hAX : ∀ q, q < H.size → AX q → A0 q)
    (kx : ∀ (E : String) (ce : Cell) (q9 : Addr) (u : SX) (t : State) (H1 : Heap) (locs1 : List Loc), t.heap = H1 → s.vm.Alike t.vm → px u → BX E u t → H.size ≤ H1.size → (∀ q : Nat, q < H.size → ¬ AX q → H1[q]? = H[q]?) → va_S A0 H0 H1 locs1 → H1[q9]? = some ce → ce.vm = .none → s.vm.findClass E = some ce.cls → vx_W p l e R s m args below meth c H1 locs1 (cells + mc) (slots + ms) Q (F0 m pc ls rest) q9)
    (kk : ∀ (r : Int64) (u : S) (t : State) (H1 : Heap) (locs1 : List Loc), t.heap = H1 → s.vm.Alike t.vm → post r u → B u t → H.size ≤ H1.size → (∀ q : Nat, q < H.size → ¬ A1 q → H1[q]? = H[q]?) → va_S A0 H0 H1 locs1 → W p l e R s m args below meth c H1 locs1 (cells + mc) (slots + ms) Q (F0 m (pc + 3) ls (.long r :: rest))) : W p l e R s m args below meth c H locs cells slots Q (F0 m pc ls st0) := by
  intro T hT X
  rcases hr T hT X with ⟨v, st₀, t, T', L, h0, X', hL, e1, e2, ⟨⟨r, u, hv, hp, hb⟩, hF⟩, st⟩ | ⟨q, st₀, t, T', L, E, ce, h0, X', hL, e1, e2, ⟨u, hp, hb, hF⟩, hce, hcv, hcl, st⟩
  · cases hv
    obtain ⟨k1, k2, k3⟩ := vx_keep h0 e1 hS hA hf hL hF
    obtain ⟨t2, a1, b1⟩ := kk r u t T'.heap (locs ++ L) e1.symm (by rw [← e2]; exact X'.warmed.alike) hp hb k1 k2 k3 T' rfl X'
    exact ⟨t2, st t2 a1, b1⟩
  · obtain ⟨k1, k2, k3⟩ := vx_keep h0 e1 hS hAX hf hL hF
    obtain ⟨t2, a1, b1⟩ := kx E ce q u t T'.heap (locs ++ L) e1.symm (by rw [← e2]; exact X'.warmed.alike) hp hb k1 k2 k3 (by rw [e1]; exact hce) hcv hcl T' rfl X'
    exact ⟨t2, st.trans a1, b1⟩
theorem vx_callf {S SX : Type} {post : UInt32 → S → Prop} {px : SX → Prop} {B : S → State → Prop} {BX : String → SX → State → Prop} {AX : Nat → Prop} (hr : vx_Run p l e R s m args below meth c H locs cells slots mc ms (F0 m pc ls st0) rest (va_Qf post B A1 a) (vx_X px BX AX) free) (hS : va_S A0 H0 H locs) (hA : ∀ q, q < H.size → A1 q → A0 q) (hf : ∀ q, free q → A0 q) (hAX : ∀ q, q < H.size → AX q → A0 q)
    (kx : ∀ (E : String) (ce : Cell) (q9 : Addr) (u : SX) (t : State) (H1 : Heap) (locs1 : List Loc), t.heap = H1 → s.vm.Alike t.vm → px u → BX E u t → H.size ≤ H1.size → (∀ q : Nat, q < H.size → ¬ AX q → H1[q]? = H[q]?) → va_S A0 H0 H1 locs1 → H1[q9]? = some ce → ce.vm = .none → s.vm.findClass E = some ce.cls → vx_W p l e R s m args below meth c H1 locs1 (cells + mc) (slots + ms) Q (F0 m pc ls rest) q9)
    (kk : ∀ (r : UInt32) (u : S) (t : State) (H1 : Heap) (locs1 : List Loc), t.heap = H1 → s.vm.Alike t.vm → post r u → B u t → H.size ≤ H1.size → (∀ q : Nat, q < H.size → ¬ A1 q → H1[q]? = H[q]?) → va_S A0 H0 H1 locs1 → W p l e R s m args below meth c H1 locs1 (cells + mc) (slots + ms) Q (F0 m (pc + 3) ls (.float r :: rest))) : W p l e R s m args below meth c H locs cells slots Q (F0 m pc ls st0) := by
  intro T hT X
  rcases hr T hT X with ⟨v, st₀, t, T', L, h0, X', hL, e1, e2, ⟨⟨r, u, hv, hp, hb⟩, hF⟩, st⟩ | ⟨q, st₀, t, T', L, E, ce, h0, X', hL, e1, e2, ⟨u, hp, hb, hF⟩, hce, hcv, hcl, st⟩
  · cases hv
    obtain ⟨k1, k2, k3⟩ := vx_keep h0 e1 hS hA hf hL hF
    obtain ⟨t2, a1, b1⟩ := kk r u t T'.heap (locs ++ L) e1.symm (by rw [← e2]; exact X'.warmed.alike) hp hb k1 k2 k3 T' rfl X'
    exact ⟨t2, st t2 a1, b1⟩
  · obtain ⟨k1, k2, k3⟩ := vx_keep h0 e1 hS hAX hf hL hF
    obtain ⟨t2, a1, b1⟩ := kx E ce q u t T'.heap (locs ++ L) e1.symm (by rw [← e2]; exact X'.warmed.alike) hp hb k1 k2 k3 (by rw [e1]; exact hce) hcv hcl T' rfl X'
    exact ⟨t2, st.trans a1, b1⟩
theorem vx_calld {S SX : Type} {post : UInt64 → S → Prop} {px : SX → Prop} {B : S → State → Prop} {BX : String → SX → State → Prop} {AX : Nat → Prop} (hr : vx_Run p l e R s m args below meth c H locs cells slots mc ms (F0 m pc ls st0) rest (va_Qd post B A1 a) (vx_X px BX AX) free) (hS : va_S A0 H0 H locs) (hA : ∀ q, q < H.size → A1 q → A0 q) (hf : ∀ q, free q → A0 q) (hAX : ∀ q, q < H.size → AX q → A0 q)
    (kx : ∀ (E : String) (ce : Cell) (q9 : Addr) (u : SX) (t : State) (H1 : Heap) (locs1 : List Loc), t.heap = H1 → s.vm.Alike t.vm → px u → BX E u t → H.size ≤ H1.size → (∀ q : Nat, q < H.size → ¬ AX q → H1[q]? = H[q]?) → va_S A0 H0 H1 locs1 → H1[q9]? = some ce → ce.vm = .none → s.vm.findClass E = some ce.cls → vx_W p l e R s m args below meth c H1 locs1 (cells + mc) (slots + ms) Q (F0 m pc ls rest) q9)
    (kk : ∀ (r : UInt64) (u : S) (t : State) (H1 : Heap) (locs1 : List Loc), t.heap = H1 → s.vm.Alike t.vm → post r u → B u t → H.size ≤ H1.size → (∀ q : Nat, q < H.size → ¬ A1 q → H1[q]? = H[q]?) → va_S A0 H0 H1 locs1 → W p l e R s m args below meth c H1 locs1 (cells + mc) (slots + ms) Q (F0 m (pc + 3) ls (.double r :: rest))) : W p l e R s m args below meth c H locs cells slots Q (F0 m pc ls st0) := by
  intro T hT X
  rcases hr T hT X with ⟨v, st₀, t, T', L, h0, X', hL, e1, e2, ⟨⟨r, u, hv, hp, hb⟩, hF⟩, st⟩ | ⟨q, st₀, t, T', L, E, ce, h0, X', hL, e1, e2, ⟨u, hp, hb, hF⟩, hce, hcv, hcl, st⟩
  · cases hv
    obtain ⟨k1, k2, k3⟩ := vx_keep h0 e1 hS hA hf hL hF
    obtain ⟨t2, a1, b1⟩ := kk r u t T'.heap (locs ++ L) e1.symm (by rw [← e2]; exact X'.warmed.alike) hp hb k1 k2 k3 T' rfl X'
    exact ⟨t2, st t2 a1, b1⟩
  · obtain ⟨k1, k2, k3⟩ := vx_keep h0 e1 hS hAX hf hL hF
    obtain ⟨t2, a1, b1⟩ := kx E ce q u t T'.heap (locs ++ L) e1.symm (by rw [← e2]; exact X'.warmed.alike) hp hb k1 k2 k3 (by rw [e1]; exact hce) hcv hcl T' rfl X'
    exact ⟨t2, st.trans a1, b1⟩
theorem vx_callv {S SX : Type} {post : S → Prop} {px : SX → Prop} {B : S → State → Prop} {BX : String → SX → State → Prop} {AX : Nat → Prop} (hr : vx_Run p l e R s m args below meth c H locs cells slots mc ms (F0 m pc ls st0) rest (va_Qv post B A1 a) (vx_X px BX AX) free) (hS : va_S A0 H0 H locs) (hA : ∀ q, q < H.size → A1 q → A0 q) (hf : ∀ q, free q → A0 q) (hAX : ∀ q, q < H.size → AX q → A0 q)
    (kx : ∀ (E : String) (ce : Cell) (q9 : Addr) (u : SX) (t : State) (H1 : Heap) (locs1 : List Loc), t.heap = H1 → s.vm.Alike t.vm → px u → BX E u t → H.size ≤ H1.size → (∀ q : Nat, q < H.size → ¬ AX q → H1[q]? = H[q]?) → va_S A0 H0 H1 locs1 → H1[q9]? = some ce → ce.vm = .none → s.vm.findClass E = some ce.cls → vx_W p l e R s m args below meth c H1 locs1 (cells + mc) (slots + ms) Q (F0 m pc ls rest) q9)
    (kk : ∀ (u : S) (t : State) (H1 : Heap) (locs1 : List Loc), t.heap = H1 → s.vm.Alike t.vm → post u → B u t → H.size ≤ H1.size → (∀ q : Nat, q < H.size → ¬ A1 q → H1[q]? = H[q]?) → va_S A0 H0 H1 locs1 → W p l e R s m args below meth c H1 locs1 (cells + mc) (slots + ms) Q (F0 m (pc + 3) ls (rest))) : W p l e R s m args below meth c H locs cells slots Q (F0 m pc ls st0) := by
  intro T hT X
  rcases hr T hT X with ⟨v, st₀, t, T', L, h0, X', hL, e1, e2, ⟨⟨u, hv, hp, hb⟩, hF⟩, st⟩ | ⟨q, st₀, t, T', L, E, ce, h0, X', hL, e1, e2, ⟨u, hp, hb, hF⟩, hce, hcv, hcl, st⟩
  · cases hv
    obtain ⟨k1, k2, k3⟩ := vx_keep h0 e1 hS hA hf hL hF
    obtain ⟨t2, a1, b1⟩ := kk u t T'.heap (locs ++ L) e1.symm (by rw [← e2]; exact X'.warmed.alike) hp hb k1 k2 k3 T' rfl X'
    exact ⟨t2, st t2 a1, b1⟩
  · obtain ⟨k1, k2, k3⟩ := vx_keep h0 e1 hS hAX hf hL hF
    obtain ⟨t2, a1, b1⟩ := kx E ce q u t T'.heap (locs ++ L) e1.symm (by rw [← e2]; exact X'.warmed.alike) hp hb k1 k2 k3 (by rw [e1]; exact hce) hcv hcl T' rfl X'
    exact ⟨t2, st.trans a1, b1⟩
/-- caught by the row x of this method's table; the rows ahead don't take it -/
theorem vx_catch {own name : String} {E : String} {ce : Cell} {q : Addr} (hown : s.vm.findClass own = some m.cls) (pre : List ExceptionTableEntry) (x : ExceptionTableEntry) (suf : List ExceptionTableEntry) (hsplit : c.exceptionTable.toList = pre ++ x :: suf)
    (hpass : ∀ z ∈ pre, covers z pc = false ∨ (z.catchType ≠ 0 ∧ ∃ nm : String, (Cond.classLink own z.catchType nm).before args s = true ∧ va_Nc E nm s)) (hx : covers x pc = true) (h0 : x.catchType ≠ 0)
    (hlink : (Cond.classLink own x.catchType name).before args s = true) (hcast : (Cond.castable E name).before args s = true) (hcell : H[q]? = some ce) (hv : ce.vm = .none) (hcl : s.vm.findClass E = some ce.cls)
    (kk : W p l e R s m args below meth c H locs cells slots Q (F0 m x.handlerPc ls [.ref q])) : vx_W p l e R s m args below meth c H locs cells slots Q (F0 m pc ls rest) q := by
  intro T hT X
  have hpl : e.platform.magicAccessors = ({} : Platform).magicAccessors := by rw [X.admits.platform]
  obtain ⟨c3, c4, hc3, hc4, hasg⟩ := Cond.castable_spec hcast
  cases Option.some.inj (hc3.symm.trans hcl)
  obtain ⟨c5, hc5, hcl5⟩ := Cond.classLink_spec hown hlink e.platform hpl
  cases Option.some.inj (hc4.symm.trans hc5)
  obtain ⟨vm', X', st⟩ := X.thenCaughtThrough q (g := F0 m pc ls rest) rfl (Steps.refl _) (by rw [hT]; exact hcell) (by rw [hv]; rfl) (by obtain ⟨k9, h9, -⟩ := Vm.findClass_spec hcl; exact ⟨k9, h9⟩) pre x suf hsplit
    (fun z hz => by
      rcases hpass z hz with h | ⟨hz0, nm, hl1, hn1⟩
      · exact Or.inl h
      · obtain ⟨c6, hc6, hcl6⟩ := Cond.classLink_spec hown hl1 e.platform hpl
        obtain ⟨a8, b8, h1, h2, h3⟩ := hn1
        cases Option.some.inj (h1.symm.trans hcl)
        cases Option.some.inj (h2.symm.trans hc6)
        exact Or.inr ⟨hz0, _, hcl6, h3⟩) hx (Or.inr ⟨h0, c4, hcl5, hasg⟩)
  obtain ⟨t, a1, b1⟩ := kk (T.setVm vm') hT X'
  exact ⟨t, st.trans a1, b1⟩
end Rows
section Ends
variable {p : Program} {l : Launch} {e : Env} {R : Room} {s : State} {m : MethodId} {args : Array Value} {below : List Frame} {meth : Method} {c : Code} {H : Heap} {locs : List Loc} {cells slots : Nat} {Q : State → Prop}
variable {mc ms : Nat} {free : Addr → Prop} {A0 A1 : Nat → Prop} {H0 : Heap} {a : Array Value} {ls : Array Slot} {st0 rest : List Value}
variable {Qc : Array Value → State → Outcome → State → Prop} {XC : String → State → State → Prop}
/-- what a body that may throw owes at its end -/
def vx_MQ (below : List Frame) (Qc : Array Value → State → Outcome → State → Prop) (XC : String → State → State → Prop) (a : Array Value) (s : State) (mc ms : Nat) (free : Addr → Prop) : State → Prop := fun t =>
  ∃ o, t.status = .running ∧ Ended t below o ∧ vx_Q Qc XC mc ms free a s o t
theorem vx_ret {g : JFrame} {mc ms : Nat} (k : W p l e R s m args below meth c H locs cells slots (MQ below Qc args s mc ms free) g) : W p l e R s m args below meth c H locs cells slots (vx_MQ below Qc XC args s mc ms free) g := by
  intro T hT X
  obtain ⟨t, a1, o, b1, b2, b3, b4⟩ := k T hT X
  exact ⟨t, a1, o, b1, b2, Or.inl ⟨b3, b4⟩⟩
/-- not caught here: it goes on to the caller -/
theorem vx_widen {g : JFrame} {q : Addr} {k n : Nat} (h1 : cells ≤ k) (h2 : slots ≤ n) (kk : vx_W p l e R s m args below meth c H locs k n Q g q) : vx_W p l e R s m args below meth c H locs cells slots Q g q := fun T hT X => kk T hT (stand_widen X h1 h2)
theorem vx_out {pc : Nat} {E : String} {ce : Cell} {q : Addr} {mc ms : Nat} (hout : ∀ x ∈ c.exceptionTable.toList, covers x pc = false) (hlocks : meth.locks = false) (hcell : H[q]? = some ce) (hv : ce.vm = .none) (hcl : s.vm.findClass E = some ce.cls)
    (hx : ∀ t : State, t.heap = H → s.vm.Alike t.vm → XC E s t) (hf : ∀ z ∈ locs, free z.base) (hc : cells ≤ mc) (hs : slots ≤ ms) :
    vx_W p l e R s m args below meth c H locs cells slots (vx_MQ below Qc XC args s mc ms free) (F0 m pc ls rest) q := by
  intro T hT X
  obtain ⟨st1, hrun, hend, hW, hsm⟩ := X.leaveThrown q (g := F0 m pc ls rest) rfl rfl rfl hout hlocks
  have hcell9 : (T.setFrames (.throwing q :: below)).heap[q]? = some ce := by
    show T.heap[q]? = some ce
    rw [hT]; exact hcell
  exact ⟨_, st1, .threw q, hrun, hend, Or.inr ⟨q, rfl, E, ce, locs, hx _ hT hW.alike, hcell9, hv, hcl, hW, hsm.mono hc hs, hf⟩⟩
theorem vx_frame {U : State} {k n : Nat} (h : s.sameButNew ({ U with vm := s.vm } : State) locs k n) : s.heap.size ≤ U.heap.size ∧ ∀ q : Nat, q < s.heap.size → (∀ z ∈ locs, z.base ≠ q) → U.heap[q]? = s.heap[q]? := by
  obtain ⟨-, h2, -, -, -, h6⟩ := h
  refine ⟨h2, fun q hq hz => ?_⟩
  obtain ⟨c9, e1, e2, e3, e4⟩ := h6 q _ (Array.getElem?_eq_getElem hq)
  have hs : c9.slots = (s.heap[q]).slots := Array.ext_getElem? fun i => e4 i fun hm => hz _ hm rfl
  have h9 : c9 = s.heap[q] := by
    rw [hs] at e2
    exact e2
  have e5 : U.heap[q]? = some c9 := e1
  rw [e5, h9, Array.getElem?_eq_getElem hq]
/-- the words of a throw but the four that speak of the heap -/
def vx_no (w : Cond) : Bool := decide (w ≠ .isRef (.static Bundle.tN "UNASSIGNED_STACK" Bundle.steD)) && decide (w ≠ .isRef (.static Bundle.tN "SUPPRESSED_SENTINEL" Bundle.listD)) && decide (w ≠ .laysStatic Bundle.tN "UNASSIGNED_STACK" Bundle.steD) && decide (w ≠ .laysStatic Bundle.tN "SUPPRESSED_SENTINEL" Bundle.listD)
def vx_at0 (own : String) (ic : Nat) (X : String) (names : List String) : List Cond := (Bundle.ownAtoms0 own ic X names).filter vx_no
def vx_atS (own : String) (ic : Nat) (X : String) (names : List String) : List Cond := (Bundle.ownAtoms own ic X names).filter vx_no
/-- a word that the tables alone decide, or a good one -/
def vx_ot (w : Cond) : Bool := w.onTables || goodWord w
theorem vx_ot_at {args a' : Array Value} {s U : State} {w : Cond} (hW : s.WarmedH U.vm) (hvm : s.vm = U.vm) (hg : vx_ot w = true) (h : w.before args s = true) : w.before a' U = true := by
  simp only [vx_ot, Bool.or_eq_true] at hg
  rcases hg with hg | hg
  · exact va_tabs hg hvm h
  · exact word_at hW (good_of_word hg) h
/-- a list's words: the good ones out of the method's own list, the others by premises of their own -/
theorem vx_hat {args : Array Value} {s : State} {L B : List Cond} (h1 : ∀ w ∈ L.filter goodWord, w.before args s = true) (h2 : ∀ w ∈ L.filter (fun w => !goodWord w), w ∈ B) (h3 : ∀ w ∈ B, w.before args s = true) : ∀ w ∈ L, w.before args s = true := by
  intro w hw
  by_cases g : goodWord w = true
  · exact h1 w (List.mem_filter.mpr ⟨hw, g⟩)
  · refine h3 w (h2 w (List.mem_filter.mpr ⟨hw, ?_⟩))
    show (!goodWord w) = true
    cases hgw : goodWord w
    · rfl
    · exact absurd hgw g
theorem vx_c {args : Array Value} {s : State} {w : Cond} {B : List Cond} (h : w.before args s = true) (t : ∀ w ∈ B, w.before args s = true) : ∀ w' ∈ w :: B, w'.before args s = true := fun w' h' => (List.mem_cons.mp h').elim (fun e => by rw [e]; exact h) (t w')
theorem vx_n {args : Array Value} {s : State} : ∀ w ∈ ([] : List Cond), w.before args s = true := fun _ h => nomatch h
theorem vx_own {args : Array Value} {s : State} {L : List Cond} (h1 : ∀ w ∈ L.filter vx_no, w.before args s = true)
    (hU : (Cond.isRef (.static Bundle.tN "UNASSIGNED_STACK" Bundle.steD)).before args s = true) (hN : (Cond.isRef (.static Bundle.tN "SUPPRESSED_SENTINEL" Bundle.listD)).before args s = true)
    (lU : (Cond.laysStatic Bundle.tN "UNASSIGNED_STACK" Bundle.steD).before args s = true) (lN : (Cond.laysStatic Bundle.tN "SUPPRESSED_SENTINEL" Bundle.listD).before args s = true) : ∀ w ∈ L, w.before args s = true := by
  intro w hw
  by_cases e1 : w = .isRef (.static Bundle.tN "UNASSIGNED_STACK" Bundle.steD)
  · rw [e1]; exact hU
  · by_cases e2 : w = .isRef (.static Bundle.tN "SUPPRESSED_SENTINEL" Bundle.listD)
    · rw [e2]; exact hN
    · by_cases e3 : w = .laysStatic Bundle.tN "UNASSIGNED_STACK" Bundle.steD
      · rw [e3]; exact lU
      · by_cases e4 : w = .laysStatic Bundle.tN "SUPPRESSED_SENTINEL" Bundle.listD
        · rw [e4]; exact lN
        · exact h1 w (List.mem_filter.mpr ⟨hw, by unfold vx_no; rw [decide_eq_true e1, decide_eq_true e2, decide_eq_true e3, decide_eq_true e4]; rfl⟩)
/-- where a static field lies, its class's statics cell in H -/
def vx_L (C n d : String) (A : Nat → Prop) (U : State) (H : Heap) : Prop := ∃ (c : ClassId) (k : Class) (i : Nat) (f : Field) (a : Nat) (cell : Cell), U.vm.findClass C = some c ∧ U.fieldFound? C n d = some (c, k, i, f) ∧ f.isStatic = true ∧ k.statics = some a ∧ H[a]? = some cell ∧ cell.vm.isStatics = true ∧ cell.cls = c ∧ f.slot < cell.slots.size ∧ k.staticTypes[f.slot]? = some f.type ∧ ¬ A a
theorem vx_L.moved {C n d : String} {A : Nat → Prop} {u U : State} {H : Heap} (hvm : u.vm.Alike U.vm) (h : vx_L C n d A u H) : vx_L C n d A U H := by
  obtain ⟨c, k, i, f, a, cell, h1, h2, h3, h4, h5, h6, h7, h8, h9, h10⟩ := h
  obtain ⟨k', hi', he⟩ := State.fieldFound?_setVm hvm h2
  exact ⟨c, k', i, f, a, cell, by rw [hvm.findClass]; exact h1, hi', h3, by rw [he]; exact h4, h5, h6, h7, h8, by rw [he]; exact h9, h10⟩
theorem vx_L.kept {C n d : String} {A : Nat → Prop} {U : State} {H H1 : Heap} (h : vx_L C n d A U H) (hq : ∀ a : Nat, a < H.size → ¬ A a → H1[a]? = H[a]?) : vx_L C n d A U H1 := by
  obtain ⟨c, k, i, f, a, cell, h1, h2, h3, h4, h5, h6, h7, h8, h9, h10⟩ := h
  exact ⟨c, k, i, f, a, cell, h1, h2, h3, h4, by rw [hq a (Array.getElem?_eq_some_iff.mp h5).1 h10]; exact h5, h6, h7, h8, h9, h10⟩
theorem vx_L.narrow {C n d : String} {A B : Nat → Prop} {U : State} {H : Heap} (h : vx_L C n d A U H) (hAB : ∀ q, B q → A q) : vx_L C n d B U H := by
  obtain ⟨c, k, i, f, a, cell, h1, h2, h3, h4, h5, h6, h7, h8, h9, h10⟩ := h
  exact ⟨c, k, i, f, a, cell, h1, h2, h3, h4, h5, h6, h7, h8, h9, fun z => h10 (hAB _ z)⟩
theorem vx_L.word {C n d : String} {A : Nat → Prop} {s : State} {args : Array Value} (h : vx_L C n d A s s.heap) : (Cond.laysStatic C n d).before args s = true := by
  obtain ⟨c, k, i, f, a, cell, h1, h2, h3, h4, h5, h6, h7, h8, h9, -⟩ := h
  show (Cond.laysStatic C n d).holds args s none s [] = true
  exact Cond.laysStatic_of h1 h2 h3 h4 h5 h6 h7 h8 h9
/-- .. and what it holds: null or some reference -/
def vx_Zq (C n d : String) (A : Nat → Prop) (U : State) (H : Heap) : Prop := va_Zq C n d A U H ∧ vx_L C n d A U H
theorem vx_Zq.moved {C n d : String} {A : Nat → Prop} {u U : State} {H : Heap} (hvm : u.vm.Alike U.vm) (h : vx_Zq C n d A u H) : vx_Zq C n d A U H := ⟨va_Zq.moved hvm h.1, vx_L.moved hvm h.2⟩
theorem vx_Zq.kept {C n d : String} {A : Nat → Prop} {U : State} {H H1 : Heap} (h : vx_Zq C n d A U H) (hq : ∀ a : Nat, a < H.size → ¬ A a → H1[a]? = H[a]?) : vx_Zq C n d A U H1 := ⟨va_Zq.kept h.1 hq, vx_L.kept h.2 hq⟩
theorem vx_Zq.narrow {C n d : String} {A B : Nat → Prop} {U : State} {H : Heap} (h : vx_Zq C n d A U H) (hAB : ∀ q, B q → A q) : vx_Zq C n d B U H := ⟨va_Zq.narrow h.1 hAB, vx_L.narrow h.2 hAB⟩
theorem vx_Zqof {args : Array Value} {s : State} {C n d : String} {A : Nat → Prop} (hl : (Cond.laysStatic C n d).before args s = true) (hini : (Cond.initialized C).before args s = true) (h : (Cond.isRef (.static C n d)).before args s = true) (hA : ∀ a : Nat, a < s.heap.size → ¬ A a) : vx_Zq C n d A s s.heap := by
  refine ⟨va_Zqof hl hini h hA, ?_⟩
  obtain ⟨c, k, i, f, a, cell, h1, h2, h3, h4, h5, h6, h7, h8, h9⟩ := Cond.laysStatic_spec hl
  exact ⟨c, k, i, f, a, cell, h1, h2, h3, h4, h5, h6, h7, h8, h9, hA a (Array.getElem?_eq_some_iff.mp h5).1⟩
theorem vx_isRef {C n d : String} {v : Value} {A : Nat → Prop} {s : State} {args : Array Value} (h : va_Z C n d v A s s.heap) (hv : v.isRef = true) : (Cond.isRef (.static C n d)).before args s = true := by
  obtain ⟨cf, kf, fi, f, a, cell, h1, h2, h3, h4, h5, h6, h7, -⟩ := h
  have he : (Term.static C n d).eval args s none [] s = some v := by
    simp [Term.eval, State.fieldNamed?, h1, h2, h4, h5, h6, h7]
  simp only [Cond.before, Cond.holds, Cond.value, he]
  cases v <;> simp_all [Value.isRef]
theorem vx_isRefq {C n d : String} {A : Nat → Prop} {s : State} {args : Array Value} (h : va_Zq C n d A s s.heap) : (Cond.isRef (.static C n d)).before args s = true := by
  rcases h with h | ⟨t, h⟩
  · exact vx_isRef h rfl
  · exact vx_isRef h rfl
/-- the same frame, seen from here: as if the method were called anew in this heap -/
theorem vx_rebase {T : State} (X : Stand p l e R s m args below meth c T locs cells slots) {R' : Room} (hf : R'.frames ≤ R.frames) (hl : R'.locals ≤ R.locals) (hc : cells + R'.cells ≤ R.cells) (hs : slots + R'.slots ≤ R.slots) :
    Stand p l e R' ((T.setVm s.vm).setFrames (.invoking m args :: below)) m args below meth c T [] 0 0 := by
  have htop : (T.setVm s.vm).topJava?.isSome := X.here.top
  have hF : ((T.setVm s.vm).setFrames (.invoking m args :: below)).frames = .invoking m args :: below := State.frames_setFrames _ (State.cur_lt_of_top htop)
  obtain ⟨g₀, hg0⟩ := Option.isSome_iff_exists.mp htop
  obtain ⟨r, hr⟩ := State.topJava?_eq_some.mp hg0
  have hl9 : e.platform.stackLimits (T.setVm s.vm).me = e.platform.stackLimits s.me := X.limits
  have hb9 : (T.setVm s.vm).me.stackBytes = s.me.stackBytes := X.bytes
  refine ⟨X.admits, X.cas, X.clock, hF, ?_, X.hears, X.method, X.code, X.here, X.tail, X.warmed, ?_, ?_, ?_⟩
  · have h := X.room
    have hU : ((T.setVm s.vm).setFrames (.invoking m args :: below)).localsInUse = s.localsInUse := by
      rw [State.localsInUse_invoking hF (meth := meth) (c := c) X.method X.code, State.localsInUse_invoking X.frames X.method X.code]
    simp only [State.hasRoom, Bool.and_eq_true, decide_eq_true_eq] at h ⊢
    obtain ⟨⟨⟨⟨h1, h2, h3, h4, h5, h6⟩, h7⟩, h8⟩, h9⟩ := h
    rw [X.frames, List.length_cons] at h2 h3
    have q1 := X.heapSize
    have q2 := X.used
    simp only [hF, hU, List.length_cons, State.stackLimits_setFrames, State.stackBytes_setFrames, hl9, hb9]
    refine ⟨⟨⟨⟨by omega, by omega, by omega, by omega, by omega, h6⟩, ?_⟩, ?_⟩, X.book⟩
    · show T.heap.size + R'.cells ≤ e.platform.maxCells
      omega
    · show T.slotsUsed + R'.slots ≤ e.platform.maxSlots
      omega
  · rw [State.stackLimits_setFrames]; rfl
  · rw [State.stackBytes_setFrames]; rfl
  · refine ⟨?_, Nat.le_refl _, Nat.le_refl _, ?_, ?_, fun a c9 h9 => ⟨c9, h9, rfl, rfl, fun _ _ => rfl⟩⟩
    · obtain ⟨t, ht, -⟩ := State.frames_cons hr
      show T.setVm s.vm = { ((T.setVm s.vm).setFrames (.invoking m args :: below)).setFrames (T.setVm s.vm).frames with heap := T.heap, slotsUsed := T.slotsUsed }
      rw [State.setFrames_setFrames, State.setFrames_self ht]
      rfl
    · show T.slotsUsed = T.slotsUsed + ((T.heap.toList.drop T.heap.size).map (·.slots.size)).sum
      rw [List.drop_eq_nil_of_le (Nat.le_of_eq Array.length_toList)]
      rfl
    · show ((T.heap.toList.drop T.heap.size).map (·.slots.size)).sum ≤ 0
      rw [List.drop_eq_nil_of_le (Nat.le_of_eq Array.length_toList)]
      exact Nat.le_refl _
/-- 'throw new E()': new; dup; invokespecial; athrow -/
theorem vx_throw0 {cc : ByteArray} {pc : Nat} (hexec : p.tables.exec = Jvm.exec) (hb : c.code = cc) (hl : l.stackTraces = false) {own cls : String} {names : List String} {ik ic mc ms : Nat} {A : Nat → Prop}
    (hown : s.vm.findClass own = some m.cls) (hcls : Bundle.fit cls = true) (hnames : ∀ n ∈ names, Bundle.fit n = true)
    (hk : (Cond.classLink own ik cls).before args s = true) (hini : (Cond.initialized cls).before args s = true) (hat : ∀ w ∈ vx_at0 own ic cls names, w.before args s = true)
    (hgood : ∀ w ∈ Cond.classLink own ik cls :: Cond.initialized cls :: vx_at0 own ic cls names, vx_ot w = true)
    (hU : vx_Zq Bundle.tN "UNASSIGNED_STACK" Bundle.steD A s s.heap) (hN : vx_Zq Bundle.tN "SUPPRESSED_SENTINEL" Bundle.listD A s s.heap) (hS : va_S A s.heap H locs) (hsize : ls.size = c.maxLocals)
    (d0 : decode cc pc = .ok (.new ik, 3)) (d3 : decode cc (pc + 3) = .ok (.dup, 1)) (d4 : decode cc (pc + 4) = .ok (.invokespecial ic, 3)) (d7 : decode cc (pc + 7) = .ok (.athrow, 1))
    (hout : ∀ x ∈ c.exceptionTable.toList, covers x (pc + 7) = false)
    (hRframes : names.length + 3 < R.frames) (hRlocals : (rest.map fun v => v.category).sum + (13 * (names.length + 1) + 42) ≤ R.locals) (hRcells : cells + 1 ≤ R.cells) (hRslots : slots + 6 ≤ R.slots) (hlocks : meth.locks = false)
    (hx : ∀ t : State, s.vm.Alike t.vm → H.size ≤ t.heap.size → (∀ q : Nat, q < H.size → t.heap[q]? = H[q]?) → XC cls s t)
    (hf : ∀ z ∈ locs, free z.base) (hc : cells + 1 ≤ mc) (hs : slots + 6 ≤ ms) :
    W p l e R s m args below meth c H locs cells slots (vx_MQ below Qc XC args s mc ms free) (F0 m pc ls rest) := by
  intro T hT X
  have htr : e.platform.stackTraces = false := (show e.platform.stackTraces = l.stackTraces by rw [X.admits.platform]).trans hl
  have Y := vx_rebase X (R' := { frames := R.frames, locals := R.locals, cells := 1, slots := 6 }) (Nat.le_refl _) (Nat.le_refl _) hRcells hRslots
  obtain ⟨s', hA⟩ : ∃ z, z = (T.setVm s.vm).setFrames (.invoking m args :: below) := ⟨_, rfl⟩
  rw [← hA] at Y
  have hvm : s'.vm = s.vm := by rw [hA]; rfl
  have hhp : s'.heap = H := by rw [hA]; exact hT
  have hW0 : s.WarmedH s'.vm := by rw [hvm]; exact State.WarmedH.refl s
  have hat' : ∀ w ∈ vx_at0 own ic cls names, w.before args s' = true := fun w hw => vx_ot_at hW0 hvm.symm (hgood w (List.mem_cons_of_mem _ (List.mem_cons_of_mem _ hw))) (hat w hw)
  have hk' : (Cond.classLink own ik cls).before args s' = true := vx_ot_at hW0 hvm.symm (hgood _ List.mem_cons_self) hk
  have hini' : (Cond.initialized cls).before args s' = true := vx_ot_at hW0 hvm.symm (hgood _ (List.mem_cons_of_mem _ List.mem_cons_self)) hini
  have hU' : vx_Zq Bundle.tN "UNASSIGNED_STACK" Bundle.steD A s' s'.heap := by rw [hhp]; exact vx_Zq.moved hW0.alike (hU.kept hS.2.1)
  have hN' : vx_Zq Bundle.tN "SUPPRESSED_SENTINEL" Bundle.listD A s' s'.heap := by rw [hhp]; exact vx_Zq.moved hW0.alike (hN.kept hS.2.1)
  have h : ∀ w ∈ Bundle.ownAtoms0 own ic cls names, w.before args s' = true := vx_own hat' (vx_isRefq hU'.1) (vx_isRefq hN'.1) hU'.2.word hN'.2.word
  have hown' : s'.vm.findClass own = some m.cls := by rw [hvm]; exact hown
  have hins : (Cond.instantiable cls 6).before args s' = true := h _ (by simp [Bundle.ownAtoms0])
  obtain ⟨vm₁, cX, kX, hfX, hkX, -, -, X₁, st1⟩ := Y.newCold hexec (own := own) (C := cls) (index := ik) (n := 6) hown' hk' hins hini'
    (g := F0 m pc ls rest) rfl (by rw [hb]; exact d0) (Nat.le_refl _) (Nat.le_refl _)
  generalize hT1 : (T.setVm vm₁).pushCell { cls := cX, slots := kX.instanceTypes.map defaultValue, vm := .none } = T1 at X₁ st1
  have hcat : (Value.ref T.heap.size).category = 1 := rfl
  have hcellA : T1.heap[T.heap.size]? = some (freshCell cX kX) := by rw [← hT1]; exact State.heap_pushCell_size _ _
  have d3' : decode c.code (pc + 3) = .ok (.dup, 1) := by rw [hb]; exact d3
  obtain ⟨U, hsteps, hrun, hend, hW, hsame, ce, hce, hO⟩ := X₁.ctorThrow0 hexec htr (own := own) (cls := cls) (names := names) (ic := ic) hown' hcls hnames h (fun x hx => nomatch hx) hfX hkX hcellA (by rw [hhp, hT]; exact Nat.le_refl _)
    (g := { method := m, pc := pc + 4, locals := ls, stack := .ref T.heap.size :: .ref T.heap.size :: rest, locked := none }) rfl hsize rfl rfl (rest := rest) rfl
    (by rw [hb]; exact d4) (by rw [hb]; exact d7) hout hRframes (by simp only [List.map_cons, List.sum_cons, hcat]; omega) hlocks
  obtain ⟨f1, f2⟩ := vx_frame hsame
  rw [hhp] at f1 f2
  have hWs : s.WarmedH U.vm := State.WarmedH.trans hW0 hW
  have hcl : s.vm.findClass cls = some ce.cls := by
    have h9 := hO.cls
    rw [hvm] at h9
    exact h9
  have hall : s.sameButNew ({ U with vm := s.vm } : State) locs mc ms := by
    subst hA
    obtain ⟨e1, e2⟩ := hsame
    rw [State.setFrames_setFrames] at e1
    have h2 : (T.setVm s.vm).sameButNew ({ U with vm := s.vm } : State) [] (0 + 1) (0 + 6) := ⟨e1, e2⟩
    have h3 := X.same.trans h2
    rw [List.append_nil] at h3
    exact h3.mono hc hs
  refine ⟨U, ?_, .threw T.heap.size, hrun, hend, Or.inr ⟨T.heap.size, rfl, cls, ce, locs, hx U hWs.alike f1 (fun q hq => f2 q hq (fun z hz => nomatch hz)), hce, hO.vm, hcl, hWs, hall, hf⟩⟩
  refine st1 _ ?_
  show Steps p.tables e below (T1.setTop { method := m, pc := pc + 3, locals := ls, stack := .ref T.heap.size :: rest, locked := none }) _
  jvm_step X₁.here [X₁.here.top, hexec, d3', Value.category]
  exact hsteps
/-- 'throw new E("text")': new; dup; ldc; invokespecial; athrow -/
theorem vx_throwS {cc : ByteArray} {pc : Nat} (hexec : p.tables.exec = Jvm.exec) (hb : c.code = cc) (hl : l.stackTraces = false) {own cls text : String} {names : List String} {ik is ic mc ms sa : Nat} {A : Nat → Prop}
    (hown : s.vm.findClass own = some m.cls) (hcls : Bundle.fit cls = true) (hnames : ∀ n ∈ names, Bundle.fit n = true)
    (hk : (Cond.classLink own ik cls).before args s = true) (hini : (Cond.initialized cls).before args s = true) (hstr : vk_R own is text sa s) (hat : ∀ w ∈ vx_atS own ic cls names, w.before args s = true)
    (hgood : ∀ w ∈ Cond.classLink own ik cls :: Cond.initialized cls :: vx_atS own ic cls names, vx_ot w = true)
    (hU : vx_Zq Bundle.tN "UNASSIGNED_STACK" Bundle.steD A s s.heap) (hN : vx_Zq Bundle.tN "SUPPRESSED_SENTINEL" Bundle.listD A s s.heap) (hS : va_S A s.heap H locs) (hsize : ls.size = c.maxLocals)
    (d0 : decode cc pc = .ok (.new ik, 3)) (d3 : decode cc (pc + 3) = .ok (.dup, 1)) (d4 : decode cc (pc + 4) = .ok (.ldc is, 2)) (d6 : decode cc (pc + 6) = .ok (.invokespecial ic, 3)) (d9 : decode cc (pc + 9) = .ok (.athrow, 1))
    (hout : ∀ x ∈ c.exceptionTable.toList, covers x (pc + 9) = false)
    (hRframes : names.length + 3 < R.frames) (hRlocals : (rest.map fun v => v.category).sum + (13 * (names.length + 1) + 43) ≤ R.locals) (hRcells : cells + 1 ≤ R.cells) (hRslots : slots + 6 ≤ R.slots) (hlocks : meth.locks = false)
    (hx : ∀ t : State, s.vm.Alike t.vm → H.size ≤ t.heap.size → (∀ q : Nat, q < H.size → t.heap[q]? = H[q]?) → XC cls s t)
    (hf : ∀ z ∈ locs, free z.base) (hc : cells + 1 ≤ mc) (hs : slots + 6 ≤ ms) :
    W p l e R s m args below meth c H locs cells slots (vx_MQ below Qc XC args s mc ms free) (F0 m pc ls rest) := by
  intro T hT X
  have htr : e.platform.stackTraces = false := (show e.platform.stackTraces = l.stackTraces by rw [X.admits.platform]).trans hl
  have Y := vx_rebase X (R' := { frames := R.frames, locals := R.locals, cells := 1, slots := 6 }) (Nat.le_refl _) (Nat.le_refl _) hRcells hRslots
  obtain ⟨s', hA⟩ : ∃ z, z = (T.setVm s.vm).setFrames (.invoking m args :: below) := ⟨_, rfl⟩
  rw [← hA] at Y
  have hvm : s'.vm = s.vm := by rw [hA]; rfl
  have hhp : s'.heap = H := by rw [hA]; exact hT
  have hW0 : s.WarmedH s'.vm := by rw [hvm]; exact State.WarmedH.refl s
  have hat' : ∀ w ∈ vx_atS own ic cls names, w.before args s' = true := fun w hw => vx_ot_at hW0 hvm.symm (hgood w (List.mem_cons_of_mem _ (List.mem_cons_of_mem _ hw))) (hat w hw)
  have hk' : (Cond.classLink own ik cls).before args s' = true := vx_ot_at hW0 hvm.symm (hgood _ List.mem_cons_self) hk
  have hini' : (Cond.initialized cls).before args s' = true := vx_ot_at hW0 hvm.symm (hgood _ (List.mem_cons_of_mem _ List.mem_cons_self)) hini
  have hU' : vx_Zq Bundle.tN "UNASSIGNED_STACK" Bundle.steD A s' s'.heap := by rw [hhp]; exact vx_Zq.moved hW0.alike (hU.kept hS.2.1)
  have hN' : vx_Zq Bundle.tN "SUPPRESSED_SENTINEL" Bundle.listD A s' s'.heap := by rw [hhp]; exact vx_Zq.moved hW0.alike (hN.kept hS.2.1)
  have h : ∀ w ∈ Bundle.ownAtoms own ic cls names, w.before args s' = true := vx_own hat' (vx_isRefq hU'.1) (vx_isRefq hN'.1) hU'.2.word hN'.2.word
  have hown' : s'.vm.findClass own = some m.cls := by rw [hvm]; exact hown
  have hins : (Cond.instantiable cls 6).before args s' = true := h _ (by simp [Bundle.ownAtoms])
  obtain ⟨vm₁, cX, kX, hfX, hkX, -, -, X₁, st1⟩ := Y.newCold hexec (own := own) (C := cls) (index := ik) (n := 6) hown' hk' hins hini'
    (g := F0 m pc ls rest) rfl (by rw [hb]; exact d0) (Nat.le_refl _) (Nat.le_refl _)
  generalize hT1 : (T.setVm vm₁).pushCell { cls := cX, slots := kX.instanceTypes.map defaultValue, vm := .none } = T1 at X₁ st1
  have hcat : (Value.ref T.heap.size).category = 1 := rfl
  have hcellA : T1.heap[T.heap.size]? = some (freshCell cX kX) := by rw [← hT1]; exact State.heap_pushCell_size _ _
  have d3' : decode c.code (pc + 3) = .ok (.dup, 1) := by rw [hb]; exact d3
  have d4' : decode c.code (pc + 4) = .ok (.ldc is, 2) := by rw [hb]; exact d4
  have hstr' : vk_R own is text sa s' := vk_R.warm hW0 hstr
  obtain ⟨U, hsteps, hrun, hend, hW, hsame, ce, hce, hO⟩ := X₁.ctorThrowS hexec htr (own := own) (cls := cls) (names := names) (ic := ic) hown' hcls hnames h (fun x hx => nomatch hx) hfX hkX hcellA (by rw [hhp, hT]; exact Nat.le_refl _) (msg := .ref sa) rfl
    (g := { method := m, pc := pc + 6, locals := ls, stack := .ref sa :: .ref T.heap.size :: .ref T.heap.size :: rest, locked := none }) rfl hsize rfl rfl (rest := rest) rfl
    (by rw [hb]; exact d6) (by rw [hb]; exact d9) hout hRframes (by simp only [List.map_cons, List.sum_cons, hcat]; omega) hlocks
  obtain ⟨f1, f2⟩ := vx_frame hsame
  rw [hhp] at f1 f2
  have hWs : s.WarmedH U.vm := State.WarmedH.trans hW0 hW
  have hcl : s.vm.findClass cls = some ce.cls := by
    have h9 := hO.cls
    rw [hvm] at h9
    exact h9
  have hall : s.sameButNew ({ U with vm := s.vm } : State) locs mc ms := by
    subst hA
    obtain ⟨e1, e2⟩ := hsame
    rw [State.setFrames_setFrames] at e1
    have h2 : (T.setVm s.vm).sameButNew ({ U with vm := s.vm } : State) [] (0 + 1) (0 + 6) := ⟨e1, e2⟩
    have h3 := X.same.trans h2
    rw [List.append_nil] at h3
    exact h3.mono hc hs
  refine ⟨U, ?_, .threw T.heap.size, hrun, hend, Or.inr ⟨T.heap.size, rfl, cls, ce, locs, hx U hWs.alike f1 (fun q hq => f2 q hq (fun z hz => nomatch hz)), hce, hO.vm, hcl, hWs, hall, hf⟩⟩
  refine st1 _ ?_
  show Steps p.tables e below (T1.setTop { method := m, pc := pc + 3, locals := ls, stack := .ref T.heap.size :: rest, locked := none }) _
  jvm_step X₁.here [X₁.here.top, hexec, d3', Value.category]
  exact X₁.ldcString hexec (own := own) (text := text) (index := is) (a := sa) hown' hstr'.1 hstr'.2
    (g := { method := m, pc := pc + 4, locals := ls, stack := .ref T.heap.size :: .ref T.heap.size :: rest, locked := none }) rfl d4' _ hsteps
/-- 'throw new E("text")', the text by a wide index -/
theorem vx_throwSW {cc : ByteArray} {pc : Nat} (hexec : p.tables.exec = Jvm.exec) (hb : c.code = cc) (hl : l.stackTraces = false) {own cls text : String} {names : List String} {ik is ic mc ms sa : Nat} {A : Nat → Prop}
    (hown : s.vm.findClass own = some m.cls) (hcls : Bundle.fit cls = true) (hnames : ∀ n ∈ names, Bundle.fit n = true)
    (hk : (Cond.classLink own ik cls).before args s = true) (hini : (Cond.initialized cls).before args s = true) (hstr : vk_R own is text sa s) (hat : ∀ w ∈ vx_atS own ic cls names, w.before args s = true)
    (hgood : ∀ w ∈ Cond.classLink own ik cls :: Cond.initialized cls :: vx_atS own ic cls names, vx_ot w = true)
    (hU : vx_Zq Bundle.tN "UNASSIGNED_STACK" Bundle.steD A s s.heap) (hN : vx_Zq Bundle.tN "SUPPRESSED_SENTINEL" Bundle.listD A s s.heap) (hS : va_S A s.heap H locs) (hsize : ls.size = c.maxLocals)
    (d0 : decode cc pc = .ok (.new ik, 3)) (d3 : decode cc (pc + 3) = .ok (.dup, 1)) (d4 : decode cc (pc + 4) = .ok (.ldc_w is, 3)) (d7 : decode cc (pc + 7) = .ok (.invokespecial ic, 3)) (d10 : decode cc (pc + 10) = .ok (.athrow, 1))
    (hout : ∀ x ∈ c.exceptionTable.toList, covers x (pc + 10) = false)
    (hRframes : names.length + 3 < R.frames) (hRlocals : (rest.map fun v => v.category).sum + (13 * (names.length + 1) + 43) ≤ R.locals) (hRcells : cells + 1 ≤ R.cells) (hRslots : slots + 6 ≤ R.slots) (hlocks : meth.locks = false)
    (hx : ∀ t : State, s.vm.Alike t.vm → H.size ≤ t.heap.size → (∀ q : Nat, q < H.size → t.heap[q]? = H[q]?) → XC cls s t)
    (hf : ∀ z ∈ locs, free z.base) (hc : cells + 1 ≤ mc) (hs : slots + 6 ≤ ms) :
    W p l e R s m args below meth c H locs cells slots (vx_MQ below Qc XC args s mc ms free) (F0 m pc ls rest) := by
  intro T hT X
  have htr : e.platform.stackTraces = false := (show e.platform.stackTraces = l.stackTraces by rw [X.admits.platform]).trans hl
  have Y := vx_rebase X (R' := { frames := R.frames, locals := R.locals, cells := 1, slots := 6 }) (Nat.le_refl _) (Nat.le_refl _) hRcells hRslots
  obtain ⟨s', hA⟩ : ∃ z, z = (T.setVm s.vm).setFrames (.invoking m args :: below) := ⟨_, rfl⟩
  rw [← hA] at Y
  have hvm : s'.vm = s.vm := by rw [hA]; rfl
  have hhp : s'.heap = H := by rw [hA]; exact hT
  have hW0 : s.WarmedH s'.vm := by rw [hvm]; exact State.WarmedH.refl s
  have hat' : ∀ w ∈ vx_atS own ic cls names, w.before args s' = true := fun w hw => vx_ot_at hW0 hvm.symm (hgood w (List.mem_cons_of_mem _ (List.mem_cons_of_mem _ hw))) (hat w hw)
  have hk' : (Cond.classLink own ik cls).before args s' = true := vx_ot_at hW0 hvm.symm (hgood _ List.mem_cons_self) hk
  have hini' : (Cond.initialized cls).before args s' = true := vx_ot_at hW0 hvm.symm (hgood _ (List.mem_cons_of_mem _ List.mem_cons_self)) hini
  have hU' : vx_Zq Bundle.tN "UNASSIGNED_STACK" Bundle.steD A s' s'.heap := by rw [hhp]; exact vx_Zq.moved hW0.alike (hU.kept hS.2.1)
  have hN' : vx_Zq Bundle.tN "SUPPRESSED_SENTINEL" Bundle.listD A s' s'.heap := by rw [hhp]; exact vx_Zq.moved hW0.alike (hN.kept hS.2.1)
  have h : ∀ w ∈ Bundle.ownAtoms own ic cls names, w.before args s' = true := vx_own hat' (vx_isRefq hU'.1) (vx_isRefq hN'.1) hU'.2.word hN'.2.word
  have hown' : s'.vm.findClass own = some m.cls := by rw [hvm]; exact hown
  have hins : (Cond.instantiable cls 6).before args s' = true := h _ (by simp [Bundle.ownAtoms])
  obtain ⟨vm₁, cX, kX, hfX, hkX, -, -, X₁, st1⟩ := Y.newCold hexec (own := own) (C := cls) (index := ik) (n := 6) hown' hk' hins hini'
    (g := F0 m pc ls rest) rfl (by rw [hb]; exact d0) (Nat.le_refl _) (Nat.le_refl _)
  generalize hT1 : (T.setVm vm₁).pushCell { cls := cX, slots := kX.instanceTypes.map defaultValue, vm := .none } = T1 at X₁ st1
  have hcat : (Value.ref T.heap.size).category = 1 := rfl
  have hcellA : T1.heap[T.heap.size]? = some (freshCell cX kX) := by rw [← hT1]; exact State.heap_pushCell_size _ _
  have d3' : decode c.code (pc + 3) = .ok (.dup, 1) := by rw [hb]; exact d3
  have d4' : decode c.code (pc + 4) = .ok (.ldc_w is, 3) := by rw [hb]; exact d4
  have hstr' : vk_R own is text sa s' := vk_R.warm hW0 hstr
  obtain ⟨U, hsteps, hrun, hend, hW, hsame, ce, hce, hO⟩ := X₁.ctorThrowS hexec htr (own := own) (cls := cls) (names := names) (ic := ic) hown' hcls hnames h (fun x hx => nomatch hx) hfX hkX hcellA (by rw [hhp, hT]; exact Nat.le_refl _) (msg := .ref sa) rfl
    (g := { method := m, pc := pc + 7, locals := ls, stack := .ref sa :: .ref T.heap.size :: .ref T.heap.size :: rest, locked := none }) rfl hsize rfl rfl (rest := rest) rfl
    (by rw [hb]; exact d7) (by rw [hb]; exact d10) hout hRframes (by simp only [List.map_cons, List.sum_cons, hcat]; omega) hlocks
  obtain ⟨f1, f2⟩ := vx_frame hsame
  rw [hhp] at f1 f2
  have hWs : s.WarmedH U.vm := State.WarmedH.trans hW0 hW
  have hcl : s.vm.findClass cls = some ce.cls := by
    have h9 := hO.cls
    rw [hvm] at h9
    exact h9
  have hall : s.sameButNew ({ U with vm := s.vm } : State) locs mc ms := by
    subst hA
    obtain ⟨e1, e2⟩ := hsame
    rw [State.setFrames_setFrames] at e1
    have h2 : (T.setVm s.vm).sameButNew ({ U with vm := s.vm } : State) [] (0 + 1) (0 + 6) := ⟨e1, e2⟩
    have h3 := X.same.trans h2
    rw [List.append_nil] at h3
    exact h3.mono hc hs
  refine ⟨U, ?_, .threw T.heap.size, hrun, hend, Or.inr ⟨T.heap.size, rfl, cls, ce, locs, hx U hWs.alike f1 (fun q hq => f2 q hq (fun z hz => nomatch hz)), hce, hO.vm, hcl, hWs, hall, hf⟩⟩
  refine st1 _ ?_
  show Steps p.tables e below (T1.setTop { method := m, pc := pc + 3, locals := ls, stack := .ref T.heap.size :: rest, locked := none }) _
  jvm_step X₁.here [X₁.here.top, hexec, d3', Value.category]
  exact X₁.ldcStringW hexec (own := own) (text := text) (index := is) (a := sa) hown' hstr'.1 hstr'.2
    (g := { method := m, pc := pc + 4, locals := ls, stack := .ref T.heap.size :: .ref T.heap.size :: rest, locked := none }) rfl d4' _ hsteps
end Ends
section Bodies
variable {l : Launch}
theorem vx_ofW {y : MethodName} {ws ws' : List Cond} {rm : Room} {Pc : Array Value → State → Prop} {Qc : Array Value → State → Outcome → State → Prop} {XC : String → State → State → Prop} {mc ms : Nat} {free : Addr → Prop} {cc : ByteArray} {maxL : Nat} {ret : Option FieldType}
    (hy : plainName y.cls = true) (hw : ws = Cond.code y cc maxL ret :: ws')
    (body : ∀ p e s m args below meth c s₁, BodyLoose p l y (headSpec ws rm) cc maxL ret e s m args below meth c s₁ → c.maxLocals = maxL → (∀ x ∈ c.exceptionTable.toList, False) → Pc args s →
      W p l e (headSpec ws rm).room s m args below meth c s.heap [] 0 0 (vx_MQ below Qc XC args s mc ms free) (entryFrame m args maxL)) : vx_Met l y ws rm Pc Qc XC mc ms free := by
  refine MetFree.of_bodyS (code := cc) (maxLocals := maxL) (ret := ret) hy ?_ ?_
  · intro args s m h hn
    obtain ⟨meth, c, h1, h2, h3, h4, h5, h6, -, -⟩ := Cond.code_spec hn (atoms_spec (ws := ws) h _ (by rw [hw]; exact List.mem_cons_self))
    exact ⟨meth, c, h1, h2, h3, h4, h5, h6⟩
  · intro p e s m args below meth c s₁ B hml hP _
    have hh0 : s₁.heap = s.heap := by rw [B.state]; rfl
    have ht : ∀ x ∈ c.exceptionTable.toList, False := by
      obtain ⟨meth9, c9, h1, h2, -, -, -, -, h7, -⟩ := Cond.code_spec B.named (atoms_spec (ws := ws) B.pre _ (by rw [hw]; exact List.mem_cons_self))
      cases Option.some.inj (h1.symm.trans B.method)
      cases Option.some.inj (h2.symm.trans (Stand.of_body B).code)
      intro x hx
      rw [Array.isEmpty_iff.mp h7] at hx
      cases hx
    obtain ⟨t, a1, o, b1, b2, b3⟩ := body p e s m args below meth c s₁ B hml ht hP s₁ hh0 (Stand.of_body B)
    exact ⟨t, o, a1, b1, b2, b3⟩
/-- the table of a body with handlers -/
theorem vx_table {p : Program} {x y : MethodName} {S : Spec} {cc bytes : ByteArray} {maxL maxL' : Nat} {ret ret' : Option FieldType} {e : Env} {s s₁ : State} {m : MethodId} {args : Array Value} {below : List Frame} {meth : Method} {c : Code} {hh : List (Nat × Nat × Nat × Nat)}
    (B : BodyLoose p l y S cc maxL ret e s m args below meth c s₁) (h : (Cond.codeWith y bytes maxL' ret' hh).before args s = true) : c.exceptionTable.toList = tableOf hh := by
  obtain ⟨m9, meth9, c9, hn9, h1, h2, -, -, h6, -⟩ := Cond.codeWith_spec h
  cases Option.some.inj (hn9.symm.trans B.named)
  cases Option.some.inj (h1.symm.trans B.method)
  cases Option.some.inj (h2.symm.trans (Stand.of_body B).code)
  rw [← h6, table_eq]
end Bodies
end VXA
/-! ===== END ===== -/
/-! ===== BEGIN a static call of a method with an exception table ===== -/
section VXS
variable {p : Program} {l : Launch} {e : Env} {R : Room} {s : State} {m : MethodId} {args : Array Value} {below : List Frame} {meth : Method} {c : Code} {T : State} {H : Heap} {locs : List Loc} {cells slots : Nat}
abbrev vx_CSW (R : Room) (s : State) (args : Array Value) (own : String) (index : Nat) (y : MethodName) (bytes : ByteArray) (maxL : Nat) (ret : Option FieldType) (hh : List (Nat × Nat × Nat × Nat)) (ws : List Cond) (rm : Room) (mc ms n : Nat) : Prop :=
  (rm.cells = mc ∧ rm.slots = ms ∧ rm.frames + 1 ≤ R.frames ∧ 8 + (maxL + 11) + rm.locals ≤ R.locals ∧ (∀ w ∈ ws, ∀ (a' : Array Value) (U : State), s.WarmedH U.vm → w.before a' U = true) ∧ Cond.codeWith y bytes maxL ret hh ∈ ws) ∧
  (Cond.codeWith y bytes maxL ret hh).before args s = true ∧ (Cond.initialized y.cls).before args s = true ∧ (y.cls ≠ "java/lang/invoke/MethodHandle" ∧ y.cls ≠ "java/lang/invoke/VarHandle") ∧
  (∀ sig, parseMethodDescriptor y.desc = some sig → n = sig.parameters.length) ∧ (Cond.methodLink own index y).before args s = true ∧ (Cond.static y).before args s = true
theorem vx_cwSW {own : String} {index maxL mc ms : Nat} {y : MethodName} {bytes : ByteArray} {ret : Option FieldType} {hh : List (Nat × Nat × Nat × Nat)} {Ts ws ws' : List Cond} {rm : Room} (n : Nat) (ht : ∀ w ∈ Ts, w.before args s = true) (hT : GoodIn Ts (va_wsS own index y ws)) (hw : ws = Cond.codeWith y bytes maxL ret hh :: ws') (hrc : rm.cells = mc) (hrs : rm.slots = ms)
    (hd : y.cls ≠ "java/lang/invoke/MethodHandle" ∧ y.cls ≠ "java/lang/invoke/VarHandle" ∧ (parseMethodDescriptor y.desc).map (fun d => d.parameters.length) = some n) (hR : rm.frames + 1 ≤ R.frames ∧ 8 + (maxL + 11) + rm.locals ≤ R.locals) :
    vx_CSW R s args own index y bytes maxL ret hh ws rm mc ms n := by
  have ok : ∀ w ∈ va_wsS own index y ws, w.before args s = true := fun w h => ht w (hT w h).1
  have hG : GoodIn Ts ws := fun w h => hT w (by unfold va_wsS; exact List.mem_append_right _ h)
  have hc : Cond.codeWith y bytes maxL ret hh ∈ ws := by rw [hw]; exact List.mem_cons_self
  refine ⟨⟨hrc, hrs, hR.1, hR.2, pay_in ht hG, hc⟩, ht _ (hG _ hc).1, ok _ (by simp [va_wsS]), ⟨hd.1, hd.2.1⟩, fun sig h => ?_, ok _ (by simp [va_wsS]), ok _ (by simp [va_wsS])⟩
  have h2 := hd.2.2
  rw [h] at h2
  exact (Option.some.inj h2).symm
theorem vx_callSW (X : Stand p l e R s m args below meth c T locs cells slots) (hexec : p.tables.exec = Jvm.exec) {own : String} {index : Nat} {y : MethodName} {bytes : ByteArray} {maxL : Nat} {ret : Option FieldType} {hh : List (Nat × Nat × Nat × Nat)}
    (hown : s.vm.findClass own = some m.cls) (hlink : (Cond.methodLink own index y).before args s = true) (hstat : (Cond.static y).before args s = true) (hinit : (Cond.initialized y.cls).before args s = true)
    (hcode : (Cond.codeWith y bytes maxL ret hh).before args s = true) (hy : y.cls ≠ "java/lang/invoke/MethodHandle" ∧ y.cls ≠ "java/lang/invoke/VarHandle")
    {W9 : Nat} {Pre : Pt → Array Value → Prop} {Post : Pt → Array Value → Option Value → Pt → Prop} (hK : Back l R p e below s args y 3 W9 Pre Post)
    {g : JFrame} (hg : g.method = m) (hsize : g.locals.size = c.maxLocals) {argsL rest : List Value} (hlen : ∀ sig, parseMethodDescriptor y.desc = some sig → argsL.length = sig.parameters.length)
    (hstack : g.stack = argsL.reverse ++ rest) (hW : 2 * g.monitorRoom + (rest.map fun v => v.category).sum ≤ W9) (hdg : decode c.code g.pc = .ok (.invokestatic index, 3))
    (hpre : ∀ vm₁, s.WarmedH vm₁ → Pre ⟨T.setVm vm₁, locs, cells, slots⟩ argsL.toArray) :
    ∃ (v : Option Value) (vm₁ : Vm) (B : Pt), s.WarmedH vm₁ ∧ Stand p l e R s m args below meth c B.U B.locs B.cells B.slots ∧ Post ⟨T.setVm vm₁, locs, cells, slots⟩ argsL.toArray v B ∧
      ∀ target, Steps p.tables e below (B.U.setTop { g with pc := g.pc + 3, stack := v.toList ++ rest }) target → Steps p.tables e below (T.setTop g) target := by
  obtain ⟨mk, methM, cM, hnamed, hmethM, -, -, -, -, -, -, hsigM⟩ := Cond.codeWith_spec hcode
  have hstatic : methM.isStatic = true := Cond.static_spec hnamed hmethM hstat
  obtain ⟨kP, hkP, -⟩ := className_of_methodNamed hnamed
  have hinitP : kP.init = .initialized := Cond.initialized_spec (findClass_of_methodNamed hnamed) hkP hinit
  obtain ⟨vm₁, X₁, hstep₁⟩ := X.invokestatic hexec hown hlink hnamed hmethM hstatic hkP hinitP hy (g := g) hg (argsL := argsL) (rest := rest) (hlen _ hsigM) hstack hdg
  obtain ⟨v, B, X', hpost, hsteps⟩ := hK m meth c ⟨T.setVm vm₁, locs, cells, slots⟩ { g with stack := rest } (.invokestatic index) mk argsL.toArray X₁ hg hsize hdg hW (X₁.named hnamed) (hpre vm₁ X₁.warmed)
  exact ⟨v, vm₁, B, X₁.warmed, X', hpost, fun target h => hstep₁ _ fun acts => by rw [doInvoke_state]; exact hsteps.trans h⟩
theorem vx_runSW {y : MethodName} {bytes cc : ByteArray} {maxL nL mc ms n index : Nat} {ret : Option FieldType} {hh : List (Nat × Nat × Nat × Nat)} {ws : List Cond} {rm : Room} {Pc : Array Value → State → Prop} {Qc : Array Value → State → Outcome → State → Prop} {free : Addr → Prop} {Ts : List Cond} {own : String} {As rest : List Value} {g : JFrame}
    (S : CallFix p m c cc nL s args Ts own) (hM : Met l y ws rm Pc Qc mc ms free) (cw : vx_CSW R s args own index y bytes maxL ret hh ws rm mc ms n) (hp : PreS s H Pc As)
    (hg : g.method = m) (hn : As.length = n) (hsize : g.locals.size = nL) (hstack : g.stack = As.reverse ++ rest) (hW : 2 * g.monitorRoom + (rest.map fun v => v.category).sum ≤ 8) (hdg : decode cc g.pc = .ok (.invokestatic index, 3)) (hf : cells + mc ≤ R.cells ∧ slots + ms ≤ R.slots) :
    va_Run p l e R s m args below meth c H locs cells slots mc ms g rest (Qc As.toArray) (free) := by
  obtain ⟨⟨hrc, hrs, hfr, hlo, hws, hcw⟩, hcode, hini, hy, hlen, hl, hstt⟩ := cw
  have hK : Back l R p e below s args y 3 8 (PreOf R mc ms Pc) (PostOf Qc mc ms free) := va_backW (hh := hh) (bytes := bytes) (maxL := maxL) (ret := ret) hM hp.1 hrc hrs hfr hlo hws hcw (fun a' U hW => word_at hW (Or.inl (by first | rfl | simp [Cond.onTables, Cond.keeps, Cond.steady])) hini)
  obtain ⟨hx, hb, hml, ho, -⟩ := S
  intro T hT X
  obtain ⟨v, vm₁, ⟨U', l2, c2, s2⟩, hW₁, X', ⟨g', mk, t, L, e1, e2, hq, h1, hL, h2, h3⟩, st⟩ := vx_callSW X hx (hh := hh) (bytes := bytes) (maxL := maxL) (ret := ret) ho hl hstt hini hcode hy hK hg (hsize.trans hml.symm) (argsL := As) (rest := rest) (fun sig h => hn.trans (hlen sig h)) hstack hW (by rw [hb]; exact hdg)
    (fun vm₁ hW₁ => ⟨hf.1, hf.2, hp.2 (T.setVm vm₁) hT hW₁⟩)
  dsimp only [Pt.U, Pt.locs, Pt.cells, Pt.slots] at X' e1 e2 h1 h2 h3 st
  subst h1; subst h2; subst h3
  exact ⟨v, (T.setVm vm₁).calling g' mk As.toArray, t, U', L, hT, X', hL, e1, e2, hq, st⟩
/-- not caught here, past rows that name other classes: it goes on to the caller -/
theorem vx_outP {p : Program} {l : Launch} {e : Env} {R : Room} {s : State} {m : MethodId} {args : Array Value} {below : List Frame} {meth : Method} {c : Code} {H : Heap} {locs : List Loc} {cells slots : Nat} {free : Addr → Prop} {ls : Array Slot} {rest : List Value} {Qc : Array Value → State → Outcome → State → Prop} {XC : String → State → State → Prop}
    {pc : Nat} {own E : String} {ce : Cell} {q : Addr} {mc ms : Nat} (hown : s.vm.findClass own = some m.cls) (hlocks : meth.locks = false)
    (hpass : ∀ z ∈ c.exceptionTable.toList, covers z pc = false ∨ (z.catchType ≠ 0 ∧ ∃ nm : String, (Cond.classLink own z.catchType nm).before args s = true ∧ va_Nc E nm s)) (hcell : H[q]? = some ce) (hv : ce.vm = .none) (hcl : s.vm.findClass E = some ce.cls)
    (hx : ∀ t : State, t.heap = H → s.vm.Alike t.vm → XC E s t) (hf : ∀ z ∈ locs, free z.base) (hc : cells ≤ mc) (hs : slots ≤ ms) :
    vx_W p l e R s m args below meth c H locs cells slots (vx_MQ below Qc XC args s mc ms free) (F0 m pc ls rest) q := by
  intro T hT X
  have hpl : e.platform.magicAccessors = ({} : Platform).magicAccessors := by rw [X.admits.platform]
  obtain ⟨vm', hW', X', st⟩ := X.outThrough hlocks q (g := F0 m pc ls rest) rfl rfl rfl (cell := ce) (by rw [hT]; exact hcell) (by rw [hv]; rfl)
    (by obtain ⟨k9, h9, -⟩ := Vm.findClass_spec hcl; exact ⟨k9, h9⟩) (fun z hz => by
      rcases hpass z hz with h | ⟨hz0, nm, hl1, hn1⟩
      · exact Or.inl h
      · obtain ⟨c6, hc6, hcl6⟩ := Cond.classLink_spec hown hl1 e.platform hpl
        obtain ⟨a8, b8, h1, h2, h3⟩ := hn1
        cases Option.some.inj (h1.symm.trans hcl)
        cases Option.some.inj (h2.symm.trans hc6)
        exact Or.inr ⟨hz0, _, hcl6, h3⟩)
  obtain ⟨g₀, hfr⟩ := X'.frames_eq
  have hcell9 : ((T.setVm vm').setFrames (.throwing q :: below)).heap[q]? = some ce := by
    show T.heap[q]? = some ce
    rw [hT]; exact hcell
  have hend : Ended ((T.setVm vm').setFrames (.throwing q :: below)) below (.threw q) := State.frames_setFrames _ (State.cur_lt_of_frames hfr)
  refine ⟨(T.setVm vm').setFrames (.throwing q :: below), ?_, .threw q, X'.here.running, hend, Or.inr ⟨q, rfl, E, ce, locs, hx _ hT (X'.ends _).1.alike, hcell9, hv, hcl, (X'.ends _).1, (X'.ends _).2.mono hc hs, hf⟩⟩
  rw [X.pushThrowing_eq]
  exact st
/-- a thing of a world lies in the heap -/
theorem vx_lt {D : va_G} {cl : List vw_C} {ws : va_W} {H1 : Heap} (h : va_P D cl ws H1) {k : Nat} {q : Nat × va_E} (hk : ws[k]? = some q) : q.1 < H1.size := (h k q hk).lt
end VXS
/-! ===== END ===== -/
/-! ===== BEGIN methods with a table of their own: called by a name, returning or throwing ===== -/
section VXH
/-! vx_backW, vx_callVX, vx_callSX, vx_callVW, vx_runVW, vx_runVX, vx_runSX, vx_ofWH follow the same proofs as their sisters above (Free/Laws.lean, Shelf42/LK1.lean); vx_outP calls Shelf42/NT130.lean (outThrough). -/
section
variable {l : Launch} {R : Room} {p : Program} {e : Env} {below : List Frame} {s : State} {sargs : Array Value} {y : MethodName} {len W9 : Nat}
theorem vx_backW {ws : List Cond} {rm : Room} {Pc : Array Value → State → Prop} {Qc : Array Value → State → Outcome → State → Prop} {XC : String → State → State → Prop} {mc ms : Nat} {free : Addr → Prop} {bytes : ByteArray} {maxL : Nat} {ret : Option FieldType} {hh : List (Nat × Nat × Nat × Nat)}
    (hM : vx_Met l y ws rm Pc Qc XC mc ms free) (hblind : FrameBlind Pc) (hrc : rm.cells = mc) (hrs : rm.slots = ms)
    (hframes : rm.frames + 1 ≤ R.frames) (hlocals : W9 + (maxL + 11) + rm.locals ≤ R.locals)
    (hws : ∀ w ∈ ws, ∀ a' U, s.WarmedH U.vm → w.before a' U = true) (hcode : Cond.codeWith y bytes maxL ret hh ∈ ws) (hinit : ∀ a' U, s.WarmedH U.vm → (Cond.initialized y.cls).before a' U = true) :
    vx_Back l R p e below s sargs y len W9 (PreOf R mc ms Pc) (PostOf Qc mc ms free) (vx_Post XC mc ms free) := by
  intro m meth c A g ig mk a X hg hsize hdg hW hn hp
  have h1 : (headSpec ws rm).pre.before a A.U = true := atoms_intro fun w hw => hws w hw _ _ X.warmed
  have h2 : (Cond.codeWith y bytes maxL ret hh).before a A.U = true := hws _ hcode _ _ X.warmed
  have h3 : (Cond.initialized y.cls).before a A.U = true := hinit _ _ X.warmed
  have h4 : A.cells + (headSpec ws rm).room.cells ≤ R.cells := by rw [show (headSpec ws rm).room.cells = mc from hrc]; exact hp.1
  have h5 : A.slots + (headSpec ws rm).room.slots ≤ R.slots := by rw [show (headSpec ws rm).room.slots = ms from hrs]; exact hp.2.1
  have hPc : Pc a (A.U.calling g mk a) := hblind _ _ _ _ hp.2.2
  obtain ⟨U, Ls, c0, s0⟩ := A
  dsimp only [Pt.U, Pt.locs, Pt.cells, Pt.slots] at h1 h2 h3 h4 h5 X hn hPc ⊢
  obtain ⟨m9, methY, cY, hn9, hmY, hcY, -, hlY, -⟩ := Cond.codeWith_spec h2
  cases Option.some.inj (hn9.symm.trans hn)
  obtain ⟨kY, hkY, -⟩ := className_of_methodNamed hn
  have hinitY : kY.init = .initialized := Cond.initialized_spec (findClass_of_methodNamed hn) hkY h3
  have h : At U g.method c below := by rw [hg]; exact X.here
  have hlocals9 : W9 + (maxL + 11) + (headSpec ws rm).room.locals ≤ R.locals := hlocals
  have happ : (headSpec ws rm).appliesLoose y e.platform (U.calling g mk a) = true :=
    Spec.appliesLoose_calling (g := g) h hdg hn hkY hinitY
      (X.room_calling (g := g) (R' := (headSpec ws rm).room) hsize hmY hcY hframes (by rw [hlY]; omega) h4 h5) h1
  obtain ⟨mid, hmid⟩ := h.above
  have hfr : (U.setTop g).frames = (.java g :: mid) ++ below := by rw [State.frames_setTop' g h.top, hmid]; rfl
  obtain ⟨o, s₂, hsteps, -, hend, hq⟩ := Steps.callFree hM p X.admits X.cas X.clock (acts := []) hfr happ hPc trivial
  have hq' : vx_Q Qc XC mc ms free a (U.calling g mk a) o s₂ := hq
  rw [State.frames_setTop' g h.top] at hend
  obtain ⟨g₀, hg0⟩ := Option.isSome_iff_exists.mp h.top
  obtain ⟨r, hr⟩ := State.topJava?_eq_some.mp hg0
  have hr' : (({ U with heap := s₂.heap, slotsUsed := s₂.slotsUsed } : State).setVm s₂.vm).frames = .java g₀ :: r := hr
  rcases hq' with ⟨hqc, L, hfe, hL⟩ | ⟨q, rfl, E, ce, L, hx, hce, hcv, hcl, hW₂, hsm, hL⟩
  · obtain ⟨⟨v, rfl⟩, hW₂, e2, q2, q3, q4, q5, q6⟩ := id hfe
    have e3 : s₂ = ({ (U.calling g mk a).setFrames s₂.frames with heap := s₂.heap, slotsUsed := s₂.slotsUsed } : State).setVm s₂.vm := by
      have : s₂ = ({ s₂ with vm := (U.calling g mk a).vm } : State).setVm s₂.vm := rfl
      rw [e2] at this
      exact this
    obtain ⟨c₂, i₂, len₂, hc₂, hd₂, hf₂⟩ := hend
    have hW' : U.WarmedH s₂.vm := hW₂
    have hcc : c₂ = c := by
      have h1 : s₂.code? g.method = U.code? g.method := by
        rw [State.code?_eq, State.code?_eq, hW'.alike.method?]
      exact Option.some.inj (hc₂.symm.trans (h1.trans h.code))
    subst hcc
    have hlen : len₂ = len := by rw [hdg] at hd₂; cases hd₂; rfl
    subst hlen
    have hs₂ : s₂ = (({ U with heap := s₂.heap, slotsUsed := s₂.slotsUsed } : State).setVm s₂.vm).setTop { g with pc := g.pc + len₂, stack := v.toList ++ g.stack } := by
      refine e3.trans ?_
      rw [hf₂, State.calling_eq h.top, State.setFrames_setFrames, State.setTop_of_frames _ hr', hr]
      rfl
    have hsame : U.sameButNew ({ U with heap := s₂.heap, slotsUsed := s₂.slotsUsed } : State) L mc ms := by
      refine ⟨?_, q2, q3, q4, q5, q6⟩
      obtain ⟨t, ht, -⟩ := State.frames_cons hr
      show ({ U with heap := s₂.heap, slotsUsed := s₂.slotsUsed } : State) = { U.setFrames U.frames with heap := s₂.heap, slotsUsed := s₂.slotsUsed }
      rw [State.setFrames_self ht]
    subst hg
    refine Or.inl ⟨v, ⟨(({ U with heap := s₂.heap, slotsUsed := s₂.slotsUsed } : State).setVm s₂.vm), Ls ++ L, c0 + mc, s0 + ms⟩,
      ⟨X.admits, X.cas, X.clock, X.frames, X.room, X.hears, X.method, X.code, (X.here.setHeapUsed s₂.heap s₂.slotsUsed).setVm hW'.alike, X.tail, State.WarmedH.trans X.warmed hW', X.limits, X.bytes, X.same.trans (hsame.setVm s.vm)⟩,
      ⟨g, mk, s₂, L, rfl, rfl, hqc, rfl, hL, rfl, rfl⟩, ?_⟩
    show Steps p.tables e below _ ((({ U with heap := s₂.heap, slotsUsed := s₂.slotsUsed } : State).setVm s₂.vm).setTop { g with pc := g.pc + len₂, stack := v.toList ++ g.stack })
    rw [← hs₂]
    exact hsteps
  · obtain ⟨e2, q2, q3, q4, q5, q6⟩ := id hsm
    have e3 : s₂ = ({ (U.calling g mk a).setFrames s₂.frames with heap := s₂.heap, slotsUsed := s₂.slotsUsed } : State).setVm s₂.vm := by
      have : s₂ = ({ s₂ with vm := (U.calling g mk a).vm } : State).setVm s₂.vm := rfl
      rw [e2] at this
      exact this
    have hf₂ : s₂.frames = .throwing q :: .java g :: U.frames.tail := hend
    have hW' : U.WarmedH s₂.vm := hW₂
    have hs₂ : s₂ = ((({ U with heap := s₂.heap, slotsUsed := s₂.slotsUsed } : State).setVm s₂.vm).setTop g).pushFrame (.throwing q) := by
      refine e3.trans ?_
      rw [hf₂, State.calling_eq h.top, State.setFrames_setFrames, State.pushFrame, State.frames_setTop _ hr', State.setTop_of_frames _ hr', State.setFrames_setFrames, hr]
      rfl
    have hsame : U.sameButNew ({ U with heap := s₂.heap, slotsUsed := s₂.slotsUsed } : State) L mc ms := by
      refine ⟨?_, q2, q3, q4, q5, q6⟩
      obtain ⟨t, ht, -⟩ := State.frames_cons hr
      show ({ U with heap := s₂.heap, slotsUsed := s₂.slotsUsed } : State) = { U.setFrames U.frames with heap := s₂.heap, slotsUsed := s₂.slotsUsed }
      rw [State.setFrames_self ht]
    subst hg
    refine Or.inr ⟨q, ⟨(({ U with heap := s₂.heap, slotsUsed := s₂.slotsUsed } : State).setVm s₂.vm), Ls ++ L, c0 + mc, s0 + ms⟩,
      ⟨X.admits, X.cas, X.clock, X.frames, X.room, X.hears, X.method, X.code, (X.here.setHeapUsed s₂.heap s₂.slotsUsed).setVm hW'.alike, X.tail, State.WarmedH.trans X.warmed hW', X.limits, X.bytes, X.same.trans (hsame.setVm s.vm)⟩,
      ⟨g, mk, s₂, L, E, ce, rfl, rfl, hx, hce, hcv, hcl, rfl, hL, rfl, rfl⟩, ?_⟩
    show Steps p.tables e below _ (((({ U with heap := s₂.heap, slotsUsed := s₂.slotsUsed } : State).setVm s₂.vm).setTop g).pushFrame (.throwing q))
    rw [← hs₂]
    exact hsteps
end
variable {p : Program} {l : Launch} {e : Env} {R : Room} {s : State} {m : MethodId} {args : Array Value} {below : List Frame} {meth : Method} {c : Code} {T : State} {H : Heap} {locs : List Loc} {cells slots : Nat}
theorem vx_callVX (X : Stand p l e R s m args below meth c T locs cells slots) (hexec : p.tables.exec = Jvm.exec) {own C : String} {index : Nat} {y : MethodName} {bytes : ByteArray} {maxL : Nat} {ret : Option FieldType} {hh : List (Nat × Nat × Nat × Nat)}
    (hown : s.vm.findClass own = some m.cls) (hlink : (Cond.methodLink own index y).before args s = true) (hinst : (Cond.instanceMethod y).before args s = true) (hsel : (Cond.selects C y y).before args s = true)
    (hcode : (Cond.codeWith y bytes maxL ret hh).before args s = true) (hy : y.cls ≠ "java/lang/invoke/MethodHandle" ∧ y.cls ≠ "java/lang/invoke/VarHandle")
    {W9 : Nat} {Pre : Pt → Array Value → Prop} {Post : Pt → Array Value → Option Value → Pt → Prop} {PostX : Pt → Array Value → Addr → Pt → Prop} (hK : vx_Back l R p e below s args y 3 W9 Pre Post PostX)
    {b : Addr} {cellB : Cell} (hcell : T.heap[b]? = some cellB) (hobj : cellB.vm.isStatics = false) (hcls : s.vm.findClass C = some cellB.cls)
    {g : JFrame} (hg : g.method = m) (hsize : g.locals.size = c.maxLocals) {argsL rest : List Value} (hlen : ∀ sig, parseMethodDescriptor y.desc = some sig → argsL.length = sig.parameters.length)
    (hstack : g.stack = argsL.reverse ++ .ref b :: rest) (hW : 2 * g.monitorRoom + (rest.map fun v => v.category).sum ≤ W9) (hdg : decode c.code g.pc = .ok (.invokevirtual index, 3))
    (hpre : ∀ vm₁, s.WarmedH vm₁ → Pre ⟨T.setVm vm₁, locs, cells, slots⟩ (Value.ref b :: argsL).toArray) :
    (∃ (v : Option Value) (vm₁ : Vm) (B : Pt), s.WarmedH vm₁ ∧ Stand p l e R s m args below meth c B.U B.locs B.cells B.slots ∧ Post ⟨T.setVm vm₁, locs, cells, slots⟩ (Value.ref b :: argsL).toArray v B ∧
      ∀ target, Steps p.tables e below (B.U.setTop { g with pc := g.pc + 3, stack := v.toList ++ rest }) target → Steps p.tables e below (T.setTop g) target) ∨
    (∃ (q : Addr) (vm₁ : Vm) (B : Pt), s.WarmedH vm₁ ∧ Stand p l e R s m args below meth c B.U B.locs B.cells B.slots ∧ PostX ⟨T.setVm vm₁, locs, cells, slots⟩ (Value.ref b :: argsL).toArray q B ∧
      Steps p.tables e below (T.setTop g) ((B.U.setTop { g with stack := rest }).pushFrame (.throwing q))) := by
  obtain ⟨mk, methM, hnamed, hmethM, hstM, habM⟩ := Cond.instanceMethod_spec hinst
  obtain ⟨m8, methM', cM, hn8, hmethM', -, -, -, -, -, -, hsigM⟩ := Cond.codeWith_spec hcode
  cases Option.some.inj (hn8.symm.trans hnamed)
  cases hmethM.symm.trans hmethM'
  obtain ⟨c2, r2, m2, q1, q2, q3, q4, kP, hkP, hkPi⟩ := Cond.selects_spec hsel
  cases hcls.symm.trans q1
  cases (State.methodFound?_of_named hnamed hy).symm.trans q2
  cases hnamed.symm.trans q3
  have hselP : selectMethod e.platform s.vm cellB.cls mk = .method mk := by rw [Launch.admits_selectMethod X.admits]; exact q4
  obtain ⟨vm₁, X₁, hstep₁⟩ := X.invokevirtual hexec hown hlink hnamed hmethM hstM hkP hkPi hy (a := b) (cell := cellB) hcell
    (fun z h => by rw [h] at hobj; cases hobj) hselP hmethM habM hkP hkPi (g := g) hg (argsL := argsL) (rest := rest) (hlen _ hsigM) hstack hdg
  rcases hK m meth c ⟨T.setVm vm₁, locs, cells, slots⟩ { g with stack := rest } (.invokevirtual index) mk (Value.ref b :: argsL).toArray X₁ hg hsize hdg hW (X₁.named hnamed) (hpre vm₁ X₁.warmed) with ⟨v, B, X', hpost, hsteps⟩ | ⟨q, B, X', hpost, hsteps⟩
  · exact Or.inl ⟨v, vm₁, B, X₁.warmed, X', hpost, fun target h => hstep₁ _ fun acts => by rw [doInvoke_state]; exact hsteps.trans h⟩
  · exact Or.inr ⟨q, vm₁, B, X₁.warmed, X', hpost, hstep₁ _ fun acts => by rw [doInvoke_state]; exact hsteps⟩
theorem vx_callSX (X : Stand p l e R s m args below meth c T locs cells slots) (hexec : p.tables.exec = Jvm.exec) {own : String} {index : Nat} {y : MethodName} {bytes : ByteArray} {maxL : Nat} {ret : Option FieldType} {hh : List (Nat × Nat × Nat × Nat)}
    (hown : s.vm.findClass own = some m.cls) (hlink : (Cond.methodLink own index y).before args s = true) (hstat : (Cond.static y).before args s = true) (hinit : (Cond.initialized y.cls).before args s = true)
    (hcode : (Cond.codeWith y bytes maxL ret hh).before args s = true) (hy : y.cls ≠ "java/lang/invoke/MethodHandle" ∧ y.cls ≠ "java/lang/invoke/VarHandle")
    {W9 : Nat} {Pre : Pt → Array Value → Prop} {Post : Pt → Array Value → Option Value → Pt → Prop} {PostX : Pt → Array Value → Addr → Pt → Prop} (hK : vx_Back l R p e below s args y 3 W9 Pre Post PostX)
    {g : JFrame} (hg : g.method = m) (hsize : g.locals.size = c.maxLocals) {argsL rest : List Value} (hlen : ∀ sig, parseMethodDescriptor y.desc = some sig → argsL.length = sig.parameters.length)
    (hstack : g.stack = argsL.reverse ++ rest) (hW : 2 * g.monitorRoom + (rest.map fun v => v.category).sum ≤ W9) (hdg : decode c.code g.pc = .ok (.invokestatic index, 3))
    (hpre : ∀ vm₁, s.WarmedH vm₁ → Pre ⟨T.setVm vm₁, locs, cells, slots⟩ argsL.toArray) :
    (∃ (v : Option Value) (vm₁ : Vm) (B : Pt), s.WarmedH vm₁ ∧ Stand p l e R s m args below meth c B.U B.locs B.cells B.slots ∧ Post ⟨T.setVm vm₁, locs, cells, slots⟩ argsL.toArray v B ∧
      ∀ target, Steps p.tables e below (B.U.setTop { g with pc := g.pc + 3, stack := v.toList ++ rest }) target → Steps p.tables e below (T.setTop g) target) ∨
    (∃ (q : Addr) (vm₁ : Vm) (B : Pt), s.WarmedH vm₁ ∧ Stand p l e R s m args below meth c B.U B.locs B.cells B.slots ∧ PostX ⟨T.setVm vm₁, locs, cells, slots⟩ argsL.toArray q B ∧
      Steps p.tables e below (T.setTop g) ((B.U.setTop { g with stack := rest }).pushFrame (.throwing q))) := by
  obtain ⟨mk, methM, cM, hnamed, hmethM, -, -, -, -, -, -, hsigM⟩ := Cond.codeWith_spec hcode
  have hstatic : methM.isStatic = true := Cond.static_spec hnamed hmethM hstat
  obtain ⟨kP, hkP, -⟩ := className_of_methodNamed hnamed
  have hinitP : kP.init = .initialized := Cond.initialized_spec (findClass_of_methodNamed hnamed) hkP hinit
  obtain ⟨vm₁, X₁, hstep₁⟩ := X.invokestatic hexec hown hlink hnamed hmethM hstatic hkP hinitP hy (g := g) hg (argsL := argsL) (rest := rest) (hlen _ hsigM) hstack hdg
  rcases hK m meth c ⟨T.setVm vm₁, locs, cells, slots⟩ { g with stack := rest } (.invokestatic index) mk argsL.toArray X₁ hg hsize hdg hW (X₁.named hnamed) (hpre vm₁ X₁.warmed) with ⟨v, B, X', hpost, hsteps⟩ | ⟨q, B, X', hpost, hsteps⟩
  · exact Or.inl ⟨v, vm₁, B, X₁.warmed, X', hpost, fun target h => hstep₁ _ fun acts => by rw [doInvoke_state]; exact hsteps.trans h⟩
  · exact Or.inr ⟨q, vm₁, B, X₁.warmed, X', hpost, hstep₁ _ fun acts => by rw [doInvoke_state]; exact hsteps⟩
theorem vx_callVW (X : Stand p l e R s m args below meth c T locs cells slots) (hexec : p.tables.exec = Jvm.exec) {own C : String} {index : Nat} {y : MethodName} {bytes : ByteArray} {maxL : Nat} {ret : Option FieldType} {hh : List (Nat × Nat × Nat × Nat)}
    (hown : s.vm.findClass own = some m.cls) (hlink : (Cond.methodLink own index y).before args s = true) (hinst : (Cond.instanceMethod y).before args s = true) (hsel : (Cond.selects C y y).before args s = true)
    (hcode : (Cond.codeWith y bytes maxL ret hh).before args s = true) (hy : y.cls ≠ "java/lang/invoke/MethodHandle" ∧ y.cls ≠ "java/lang/invoke/VarHandle")
    {W9 : Nat} {Pre : Pt → Array Value → Prop} {Post : Pt → Array Value → Option Value → Pt → Prop} (hK : Back l R p e below s args y 3 W9 Pre Post)
    {b : Addr} {cellB : Cell} (hcell : T.heap[b]? = some cellB) (hobj : cellB.vm.isStatics = false) (hcls : s.vm.findClass C = some cellB.cls)
    {g : JFrame} (hg : g.method = m) (hsize : g.locals.size = c.maxLocals) {argsL rest : List Value} (hlen : ∀ sig, parseMethodDescriptor y.desc = some sig → argsL.length = sig.parameters.length)
    (hstack : g.stack = argsL.reverse ++ .ref b :: rest) (hW : 2 * g.monitorRoom + (rest.map fun v => v.category).sum ≤ W9) (hdg : decode c.code g.pc = .ok (.invokevirtual index, 3))
    (hpre : ∀ vm₁, s.WarmedH vm₁ → Pre ⟨T.setVm vm₁, locs, cells, slots⟩ (Value.ref b :: argsL).toArray) :
    ∃ (v : Option Value) (vm₁ : Vm) (B : Pt), s.WarmedH vm₁ ∧ Stand p l e R s m args below meth c B.U B.locs B.cells B.slots ∧ Post ⟨T.setVm vm₁, locs, cells, slots⟩ (Value.ref b :: argsL).toArray v B ∧
      ∀ target, Steps p.tables e below (B.U.setTop { g with pc := g.pc + 3, stack := v.toList ++ rest }) target → Steps p.tables e below (T.setTop g) target := by
  obtain ⟨mk, methM, hnamed, hmethM, hstM, habM⟩ := Cond.instanceMethod_spec hinst
  obtain ⟨m8, methM', cM, hn8, hmethM', -, -, -, -, -, -, hsigM⟩ := Cond.codeWith_spec hcode
  cases Option.some.inj (hn8.symm.trans hnamed)
  cases hmethM.symm.trans hmethM'
  obtain ⟨c2, r2, m2, q1, q2, q3, q4, kP, hkP, hkPi⟩ := Cond.selects_spec hsel
  cases hcls.symm.trans q1
  cases (State.methodFound?_of_named hnamed hy).symm.trans q2
  cases hnamed.symm.trans q3
  have hselP : selectMethod e.platform s.vm cellB.cls mk = .method mk := by rw [Launch.admits_selectMethod X.admits]; exact q4
  obtain ⟨vm₁, X₁, hstep₁⟩ := X.invokevirtual hexec hown hlink hnamed hmethM hstM hkP hkPi hy (a := b) (cell := cellB) hcell
    (fun z h => by rw [h] at hobj; cases hobj) hselP hmethM habM hkP hkPi (g := g) hg (argsL := argsL) (rest := rest) (hlen _ hsigM) hstack hdg
  obtain ⟨v, B, X', hpost, hsteps⟩ := hK m meth c ⟨T.setVm vm₁, locs, cells, slots⟩ { g with stack := rest } (.invokevirtual index) mk (Value.ref b :: argsL).toArray X₁ hg hsize hdg hW (X₁.named hnamed) (hpre vm₁ X₁.warmed)
  exact ⟨v, vm₁, B, X₁.warmed, X', hpost, fun target h => hstep₁ _ fun acts => by rw [doInvoke_state]; exact hsteps.trans h⟩
abbrev vx_CVW (R : Room) (s : State) (args : Array Value) (own C : String) (index : Nat) (y : MethodName) (bytes : ByteArray) (maxL : Nat) (ret : Option FieldType) (hh : List (Nat × Nat × Nat × Nat)) (ws : List Cond) (rm : Room) (mc ms n : Nat) : Prop :=
  (rm.cells = mc ∧ rm.slots = ms ∧ rm.frames + 1 ≤ R.frames ∧ 8 + (maxL + 11) + rm.locals ≤ R.locals ∧ (∀ w ∈ ws, ∀ (a' : Array Value) (U : State), s.WarmedH U.vm → w.before a' U = true) ∧ Cond.codeWith y bytes maxL ret hh ∈ ws) ∧
  (Cond.codeWith y bytes maxL ret hh).before args s = true ∧ (Cond.initialized y.cls).before args s = true ∧ (y.cls ≠ "java/lang/invoke/MethodHandle" ∧ y.cls ≠ "java/lang/invoke/VarHandle") ∧
  (∀ sig, parseMethodDescriptor y.desc = some sig → n = sig.parameters.length) ∧ (Cond.methodLink own index y).before args s = true ∧ (Cond.instanceMethod y).before args s = true ∧ (Cond.selects C y y).before args s = true
theorem vx_cwVW {own C : String} {index maxL mc ms : Nat} {y : MethodName} {bytes : ByteArray} {ret : Option FieldType} {hh : List (Nat × Nat × Nat × Nat)} {Ts ws ws' : List Cond} {rm : Room} (n : Nat) (ht : ∀ w ∈ Ts, w.before args s = true) (hT : GoodIn Ts (wsV own index C y ws)) (hw : ws = Cond.codeWith y bytes maxL ret hh :: ws') (hrc : rm.cells = mc) (hrs : rm.slots = ms)
    (hd : y.cls = C ∧ y.cls ≠ "java/lang/invoke/MethodHandle" ∧ y.cls ≠ "java/lang/invoke/VarHandle" ∧ (parseMethodDescriptor y.desc).map (fun d => d.parameters.length) = some n) (hR : rm.frames + 1 ≤ R.frames ∧ 8 + (maxL + 11) + rm.locals ≤ R.locals) :
    vx_CVW R s args own C index y bytes maxL ret hh ws rm mc ms n := by
  obtain ⟨hC, hd⟩ := hd
  subst hC
  have ok : ∀ w ∈ wsV own index y.cls y ws, w.before args s = true := fun w h => ht w (hT w h).1
  have hG : GoodIn Ts ws := fun w h => hT w (by unfold wsV; exact List.mem_append_right _ h)
  have hc : Cond.codeWith y bytes maxL ret hh ∈ ws := by rw [hw]; exact List.mem_cons_self
  refine ⟨⟨hrc, hrs, hR.1, hR.2, pay_in ht hG, hc⟩, ht _ (hG _ hc).1, ok _ (by simp [wsV]), ⟨hd.1, hd.2.1⟩, fun sig h => ?_, ok _ (by simp [wsV]), ok _ (by simp [wsV]), ok _ (by simp [wsV])⟩
  have h2 := hd.2.2
  rw [h] at h2
  exact (Option.some.inj h2).symm
theorem vx_runVW {y : MethodName} {bytes cc : ByteArray} {maxL nL mc ms n index : Nat} {ret : Option FieldType} {hh : List (Nat × Nat × Nat × Nat)} {ws : List Cond} {rm : Room} {Pc : Array Value → State → Prop} {Qc : Array Value → State → Outcome → State → Prop} {free : Addr → Prop} {Ts : List Cond} {own C : String} {b : Addr} {As rest : List Value} {g : JFrame}
    (S : CallFix p m c cc nL s args Ts own) (hM : Met l y ws rm Pc Qc mc ms free) (cw : vx_CVW R s args own C index y bytes maxL ret hh ws rm mc ms n) (hp : PreV s H C b Pc As)
    (hg : g.method = m) (hn : As.length = n) (hsize : g.locals.size = nL) (hstack : g.stack = As.reverse ++ .ref b :: rest) (hW : 2 * g.monitorRoom + (rest.map fun v => v.category).sum ≤ 8) (hdg : decode cc g.pc = .ok (.invokevirtual index, 3)) (hf : cells + mc ≤ R.cells ∧ slots + ms ≤ R.slots) :
    va_Run p l e R s m args below meth c H locs cells slots mc ms g rest (Qc (Value.ref b :: As).toArray) free := by
  obtain ⟨⟨hrc, hrs, hfr, hlo, hws, hcw⟩, hcode, hini, hy, hlen, hl, hin, hse⟩ := cw
  have hK : Back l R p e below s args y 3 8 (PreOf R mc ms Pc) (PostOf Qc mc ms free) := va_backW (hh := hh) (bytes := bytes) (maxL := maxL) (ret := ret) hM hp.1 hrc hrs hfr hlo hws hcw (fun a' U hW => word_at hW (Or.inl (by first | rfl | simp [Cond.onTables, Cond.keeps, Cond.steady])) hini)
  obtain ⟨hx, hb, hml, ho, -⟩ := S
  obtain ⟨-, ⟨cellB, hcB, hoB, hclB⟩, hPc⟩ := hp
  intro T hT X
  obtain ⟨v, vm₁, ⟨U', l2, c2, s2⟩, hW₁, X', ⟨g', mk, t, L, e1, e2, hq, h1, hL, h2, h3⟩, st⟩ := vx_callVW X hx (C := C) (hh := hh) (bytes := bytes) (maxL := maxL) (ret := ret) ho hl hin hse hcode hy hK (by rw [hT]; exact hcB) hoB hclB hg (hsize.trans hml.symm) (argsL := As) (rest := rest) (fun sig h => hn.trans (hlen sig h)) hstack hW (by rw [hb]; exact hdg)
    (fun vm₁ hW₁ => ⟨hf.1, hf.2, hPc (T.setVm vm₁) hT hW₁⟩)
  dsimp only [Pt.U, Pt.locs, Pt.cells, Pt.slots] at X' e1 e2 h1 h2 h3 st
  subst h1; subst h2; subst h3
  exact ⟨v, (T.setVm vm₁).calling g' mk (Value.ref b :: As).toArray, t, U', L, hT, X', hL, e1, e2, hq, st⟩
section
variable {y : MethodName} {bytes cc : ByteArray} {maxL nL mc ms n index : Nat} {ret : Option FieldType} {ws : List Cond} {rm : Room} {Pc : Array Value → State → Prop} {Qc : Array Value → State → Outcome → State → Prop} {XC : String → State → State → Prop} {free : Addr → Prop} {Ts : List Cond} {own C : String} {b : Addr} {As rest : List Value} {g : JFrame}
theorem vx_runVX {hh : List (Nat × Nat × Nat × Nat)} (S : CallFix p m c cc nL s args Ts own) (hM : vx_Met l y ws rm Pc Qc XC mc ms free) (cw : vx_CVW R s args own C index y bytes maxL ret hh ws rm mc ms n) (hp : PreV s H C b Pc As)
    (hg : g.method = m) (hn : As.length = n) (hsize : g.locals.size = nL) (hstack : g.stack = As.reverse ++ .ref b :: rest) (hW : 2 * g.monitorRoom + (rest.map fun v => v.category).sum ≤ 8) (hdg : decode cc g.pc = .ok (.invokevirtual index, 3)) (hf : cells + mc ≤ R.cells ∧ slots + ms ≤ R.slots) :
    vx_Run p l e R s m args below meth c H locs cells slots mc ms g rest (Qc (Value.ref b :: As).toArray) XC free := by
  obtain ⟨⟨hrc, hrs, hfr, hlo, hws, hcw⟩, hcode, hini, hy, hlen, hl, hin, hse⟩ := cw
  have hK : vx_Back l R p e below s args y 3 8 (PreOf R mc ms Pc) (PostOf Qc mc ms free) (vx_Post XC mc ms free) := vx_backW (hh := hh) (bytes := bytes) (maxL := maxL) (ret := ret) hM hp.1 hrc hrs hfr hlo hws hcw (fun a' U hW => word_at hW (Or.inl (by first | rfl | simp [Cond.onTables, Cond.keeps, Cond.steady])) hini)
  obtain ⟨hx, hb, hml, ho, -⟩ := S
  obtain ⟨-, ⟨cellB, hcB, hoB, hclB⟩, hPc⟩ := hp
  intro T hT X
  rcases vx_callVX X hx (C := C) (hh := hh) (bytes := bytes) (maxL := maxL) (ret := ret) ho hl hin hse hcode hy hK (by rw [hT]; exact hcB) hoB hclB hg (hsize.trans hml.symm) (argsL := As) (rest := rest) (fun sig h => hn.trans (hlen sig h)) hstack hW (by rw [hb]; exact hdg)
    (fun vm₁ hW₁ => ⟨hf.1, hf.2, hPc (T.setVm vm₁) hT hW₁⟩) with ⟨v, vm₁, ⟨U', l2, c2, s2⟩, hW₁, X', ⟨g', mk, t, L, e1, e2, hq, h1, hL, h2, h3⟩, st⟩ | ⟨q, vm₁, ⟨U', l2, c2, s2⟩, hW₁, X', ⟨g', mk, t, L, E, ce, e1, e2, hq, hce, hcv, hcl, h1, hL, h2, h3⟩, st⟩
  · dsimp only [Pt.U, Pt.locs, Pt.cells, Pt.slots] at X' e1 e2 h1 h2 h3 st
    subst h1; subst h2; subst h3
    exact Or.inl ⟨v, (T.setVm vm₁).calling g' mk (Value.ref b :: As).toArray, t, U', L, hT, X', hL, e1, e2, hq, st⟩
  · dsimp only [Pt.U, Pt.locs, Pt.cells, Pt.slots] at X' e1 e2 h1 h2 h3 st hcl
    subst h1; subst h2; subst h3
    exact Or.inr ⟨q, (T.setVm vm₁).calling g' mk (Value.ref b :: As).toArray, t, U', L, E, ce, hT, X', hL, e1, e2, hq, hce, hcv, vx_cls hW₁ hcl, st⟩
theorem vx_runSX {hh : List (Nat × Nat × Nat × Nat)} (S : CallFix p m c cc nL s args Ts own) (hM : vx_Met l y ws rm Pc Qc XC mc ms free) (cw : vx_CSW R s args own index y bytes maxL ret hh ws rm mc ms n) (hp : PreS s H Pc As)
    (hg : g.method = m) (hn : As.length = n) (hsize : g.locals.size = nL) (hstack : g.stack = As.reverse ++ rest) (hW : 2 * g.monitorRoom + (rest.map fun v => v.category).sum ≤ 8) (hdg : decode cc g.pc = .ok (.invokestatic index, 3)) (hf : cells + mc ≤ R.cells ∧ slots + ms ≤ R.slots) :
    vx_Run p l e R s m args below meth c H locs cells slots mc ms g rest (Qc As.toArray) XC free := by
  obtain ⟨⟨hrc, hrs, hfr, hlo, hws, hcw⟩, hcode, hini, hy, hlen, hl, hstt⟩ := cw
  have hK : vx_Back l R p e below s args y 3 8 (PreOf R mc ms Pc) (PostOf Qc mc ms free) (vx_Post XC mc ms free) := vx_backW (hh := hh) (bytes := bytes) (maxL := maxL) (ret := ret) hM hp.1 hrc hrs hfr hlo hws hcw (fun a' U hW => word_at hW (Or.inl (by first | rfl | simp [Cond.onTables, Cond.keeps, Cond.steady])) hini)
  obtain ⟨hx, hb, hml, ho, -⟩ := S
  intro T hT X
  rcases vx_callSX X hx (hh := hh) (bytes := bytes) (maxL := maxL) (ret := ret) ho hl hstt hini hcode hy hK hg (hsize.trans hml.symm) (argsL := As) (rest := rest) (fun sig h => hn.trans (hlen sig h)) hstack hW (by rw [hb]; exact hdg)
    (fun vm₁ hW₁ => ⟨hf.1, hf.2, hp.2 (T.setVm vm₁) hT hW₁⟩) with ⟨v, vm₁, ⟨U', l2, c2, s2⟩, hW₁, X', ⟨g', mk, t, L, e1, e2, hq, h1, hL, h2, h3⟩, st⟩ | ⟨q, vm₁, ⟨U', l2, c2, s2⟩, hW₁, X', ⟨g', mk, t, L, E, ce, e1, e2, hq, hce, hcv, hcl, h1, hL, h2, h3⟩, st⟩
  · dsimp only [Pt.U, Pt.locs, Pt.cells, Pt.slots] at X' e1 e2 h1 h2 h3 st
    subst h1; subst h2; subst h3
    exact Or.inl ⟨v, (T.setVm vm₁).calling g' mk As.toArray, t, U', L, hT, X', hL, e1, e2, hq, st⟩
  · dsimp only [Pt.U, Pt.locs, Pt.cells, Pt.slots] at X' e1 e2 h1 h2 h3 st hcl
    subst h1; subst h2; subst h3
    exact Or.inr ⟨q, (T.setVm vm₁).calling g' mk As.toArray, t, U', L, E, ce, hT, X', hL, e1, e2, hq, hce, hcv, vx_cls hW₁ hcl, st⟩
end
end VXH
theorem vx_ofWH {l : Launch} {y : MethodName} {ws ws' : List Cond} {rm : Room} {Pc : Array Value → State → Prop} {Qc : Array Value → State → Outcome → State → Prop} {XC : String → State → State → Prop} {mc ms : Nat} {free : Addr → Prop} {cc : ByteArray} {maxL : Nat} {ret : Option FieldType} {hh : List (Nat × Nat × Nat × Nat)}
    (hy : plainName y.cls = true) (hw : ws = Cond.codeWith y cc maxL ret hh :: ws')
    (body : ∀ p e s m args below meth c s₁, BodyLoose p l y (headSpec ws rm) cc maxL ret e s m args below meth c s₁ → c.maxLocals = maxL → Pc args s →
      W p l e (headSpec ws rm).room s m args below meth c s.heap [] 0 0 (vx_MQ below Qc XC args s mc ms free) (entryFrame m args maxL)) : vx_Met l y ws rm Pc Qc XC mc ms free := by
  refine MetFree.of_bodyS (code := cc) (maxLocals := maxL) (ret := ret) hy ?_ ?_
  · intro args s m h hn
    obtain ⟨m9, meth, c, hn9, h1, h2, h3, h4, -, h5, h6, -⟩ := Cond.codeWith_spec (atoms_spec (ws := ws) h _ (by rw [hw]; exact List.mem_cons_self))
    cases hn.symm.trans hn9
    exact ⟨meth, c, h1, h2, h3, h4, h5, h6⟩
  · intro p e s m args below meth c s₁ B hml hP _
    have hh0 : s₁.heap = s.heap := by rw [B.state]; rfl
    obtain ⟨t, a1, o, b1, b2, b3⟩ := body p e s m args below meth c s₁ B hml hP s₁ hh0 (Stand.of_body B)
    exact ⟨t, o, a1, b1, b2, b3⟩
/-! ===== END ===== -/
end
section
def RX0 : String := "InspectionOffice$Course"
def TX0 : u_T := fun k => match k with
  | 0 => ("InspectionOffice$Course", "steady", "Z", false)
  | 1 => ("InspectionOffice$Course", "rate", "I", false)
  | 2 => ("InspectionOffice$Course", "state", "I", false)
  | 3 => ("InspectionOffice$Course", "skipping", "Z", false)
  | 4 => ("InspectionOffice$Course", "history", "LInspectionOffice$History;", true)
  | 5 => ("InspectionOffice$Course", "changedAt", "I", false)
  | 6 => ("InspectionOffice$Course", "acceptedInRow", "I", false)
  | _ => ("InspectionOffice$Course", "passedInGroup", "I", false)
def tyX0 : Nat → FieldType := fun k => match k with
  | 0 => .boolean
  | 1 => .int
  | 2 => .int
  | 3 => .boolean
  | 4 => .object "InspectionOffice$History"
  | 5 => .int
  | 6 => .int
  | _ => .int
abbrev wsX00 : List Cond := u_ws RX0 TX0 8
theorem nmX0 : ∀ a, a < 8 → ∀ b, b < 8 → a ≠ b → (TX0 a).2.1 ≠ (TX0 b).2.1 := by decide +kernel
theorem tyX0_ok : ∀ k, k < 8 → parseFieldDescriptor (TX0 k).2.2.1 = some (tyX0 k) := by decide +kernel
abbrev cX0_init : ByteArray := prog_2_method_1_code
def yX0_init : MethodName := ⟨RX0, "<init>", "()V"⟩
abbrev cX0_restart : ByteArray := prog_2_method_2_code
def yX0_restart : MethodName := ⟨RX0, "restart", "()V"⟩
abbrev cX0_pass : ByteArray := prog_2_method_3_code
def yX0_pass : MethodName := ⟨RX0, "pass", "(LInspectionOffice$Lot;ILInspectionOffice$Plans;)V"⟩
abbrev cX0_begin : ByteArray := prog_2_method_4_code
def yX0_begin : MethodName := ⟨RX0, "begin", "(I)V"⟩
abbrev cX0_nextBehind : ByteArray := prog_2_method_5_code
def yX0_nextBehind : MethodName := ⟨RX0, "nextBehind", "(LInspectionOffice$Lot;LInspectionOffice$Plans;)I"⟩
abbrev cX0_behindNormal : ByteArray := prog_2_method_6_code
def yX0_behindNormal : MethodName := ⟨RX0, "behindNormal", "()I"⟩
abbrev cX0_behindTightened : ByteArray := prog_2_method_7_code
def yX0_behindTightened : MethodName := ⟨RX0, "behindTightened", "()I"⟩
abbrev cX0_isPassedOver : ByteArray := prog_2_method_8_code
def yX0_isPassedOver : MethodName := ⟨RX0, "isPassedOver", "()Z"⟩
abbrev cX0_countForSkipping : ByteArray := prog_2_method_9_code
def yX0_countForSkipping : MethodName := ⟨RX0, "countForSkipping", "(LInspectionOffice$Lot;)V"⟩
def RX1 : String := "InspectionOffice$Curves"
def TX1 : u_T := fun k => match k with
  | _ => ("", "", "", false)
def tyX1 : Nat → FieldType := fun k => match k with
  | _ => .int
abbrev wsX10 : List Cond := u_ws RX1 TX1 0
theorem nmX1 : ∀ a, a < 0 → ∀ b, b < 0 → a ≠ b → (TX1 a).2.1 ≠ (TX1 b).2.1 := by decide +kernel
theorem tyX1_ok : ∀ k, k < 0 → parseFieldDescriptor (TX1 k).2.2.1 = some (tyX1 k) := by decide +kernel
abbrev cX1_choices : ByteArray := prog_3_method_2_code
def yX1_choices : MethodName := ⟨RX1, "choices", "(II)J"⟩
abbrev cX1_withExactly : ByteArray := prog_3_method_3_code
def yX1_withExactly : MethodName := ⟨RX1, "withExactly", "(IIII)J"⟩
abbrev cX1_withAtMost : ByteArray := prog_3_method_4_code
def yX1_withAtMost : MethodName := ⟨RX1, "withAtMost", "(IIII)J"⟩
abbrev cX1_listedWithAtMost : ByteArray := prog_3_method_5_code
def yX1_listedWithAtMost : MethodName := ⟨RX1, "listedWithAtMost", "(IIII)J"⟩
abbrev cX1_nextWithAsManyBits : ByteArray := prog_3_method_6_code
def yX1_nextWithAsManyBits : MethodName := ⟨RX1, "nextWithAsManyBits", "(I)I"⟩
def RX2 : String := "InspectionOffice$History"
def TX2 : u_T := fun k => match k with
  | 0 => ("InspectionOffice$History", "refused", "[Z", true)
  | 1 => ("InspectionOffice$History", "bad", "[I", true)
  | _ => ("InspectionOffice$History", "length", "I", false)
def tyX2 : Nat → FieldType := fun k => match k with
  | 0 => .array .boolean
  | 1 => .array .int
  | _ => .int
abbrev wsX20 : List Cond := u_ws RX2 TX2 3
theorem nmX2 : ∀ a, a < 3 → ∀ b, b < 3 → a ≠ b → (TX2 a).2.1 ≠ (TX2 b).2.1 := by decide +kernel
theorem tyX2_ok : ∀ k, k < 3 → parseFieldDescriptor (TX2 k).2.2.1 = some (tyX2 k) := by decide +kernel
abbrev cX2_init : ByteArray := prog_4_method_1_code
def yX2_init : MethodName := ⟨RX2, "<init>", "()V"⟩
abbrev cX2_clear : ByteArray := prog_4_method_2_code
def yX2_clear : MethodName := ⟨RX2, "clear", "()V"⟩
abbrev cX2_add : ByteArray := prog_4_method_3_code
def yX2_add : MethodName := ⟨RX2, "add", "(LInspectionOffice$Lot;)V"⟩
abbrev cX2_refusedInLast : ByteArray := prog_4_method_4_code
def yX2_refusedInLast : MethodName := ⟨RX2, "refusedInLast", "(I)I"⟩
abbrev cX2_badInLast : ByteArray := prog_4_method_5_code
def yX2_badInLast : MethodName := ⟨RX2, "badInLast", "(I)I"⟩
abbrev cX2_lastWereAccepted : ByteArray := prog_4_method_6_code
def yX2_lastWereAccepted : MethodName := ⟨RX2, "lastWereAccepted", "(I)Z"⟩
def RX3 : String := "InspectionOffice$Lot"
def TX3 : u_T := fun k => match k with
  | 0 => ("InspectionOffice$Lot", "order", "I", true)
  | 1 => ("InspectionOffice$Lot", "size", "I", true)
  | 2 => ("InspectionOffice$Lot", "findings", "J", false)
  | 3 => ("InspectionOffice$Lot", "verdict", "I", false)
  | 4 => ("InspectionOffice$Lot", "state", "I", false)
  | 5 => ("InspectionOffice$Lot", "inspected", "I", false)
  | _ => ("InspectionOffice$Lot", "bad", "I", false)
def tyX3 : Nat → FieldType := fun k => match k with
  | 0 => .int
  | 1 => .int
  | 2 => .long
  | 3 => .int
  | 4 => .int
  | 5 => .int
  | _ => .int
abbrev wsX30 : List Cond := u_ws RX3 TX3 7
theorem nmX3 : ∀ a, a < 7 → ∀ b, b < 7 → a ≠ b → (TX3 a).2.1 ≠ (TX3 b).2.1 := by decide +kernel
theorem tyX3_ok : ∀ k, k < 7 → parseFieldDescriptor (TX3 k).2.2.1 = some (tyX3 k) := by decide +kernel
abbrev cX3_init : ByteArray := prog_5_method_1_code
def yX3_init : MethodName := ⟨RX3, "<init>", "(IIJ)V"⟩
abbrev cX3_inspectFirst : ByteArray := prog_5_method_2_code
def yX3_inspectFirst : MethodName := ⟨RX3, "inspectFirst", "(I)V"⟩
abbrev cX3_leaveUninspected : ByteArray := prog_5_method_3_code
def yX3_leaveUninspected : MethodName := ⟨RX3, "leaveUninspected", "(I)V"⟩
abbrev cX3_judge : ByteArray := prog_5_method_4_code
def yX3_judge : MethodName := ⟨RX3, "judge", "(Z)V"⟩
def RX4 : String := "InspectionOffice$Plans"
def TX4 : u_T := fun k => match k with
  | 0 => ("InspectionOffice$Plans", "level", "I", false)
  | 1 => ("InspectionOffice$Plans", "quality", "I", false)
  | _ => ("InspectionOffice$Plans", "twice", "Z", false)
def tyX4 : Nat → FieldType := fun k => match k with
  | 0 => .int
  | 1 => .int
  | _ => .boolean
abbrev wsX40 : List Cond := u_ws RX4 TX4 3
theorem nmX4 : ∀ a, a < 3 → ∀ b, b < 3 → a ≠ b → (TX4 a).2.1 ≠ (TX4 b).2.1 := by decide +kernel
theorem tyX4_ok : ∀ k, k < 3 → parseFieldDescriptor (TX4 k).2.2.1 = some (tyX4 k) := by decide +kernel
abbrev cX4_init : ByteArray := prog_6_method_1_code
def yX4_init : MethodName := ⟨RX4, "<init>", "()V"⟩
abbrev cX4_letterFor : ByteArray := prog_6_method_2_code
def yX4_letterFor : MethodName := ⟨RX4, "letterFor", "(I)I"⟩
abbrev cX4_sampleUnder : ByteArray := prog_6_method_3_code
def yX4_sampleUnder : MethodName := ⟨RX4, "sampleUnder", "(II)I"⟩
abbrev cX4_acceptingUnder : ByteArray := prog_6_method_4_code
def yX4_acceptingUnder : MethodName := ⟨RX4, "acceptingUnder", "(II)I"⟩
abbrev cX4_sampleOf : ByteArray := prog_6_method_5_code
def yX4_sampleOf : MethodName := ⟨RX4, "sampleOf", "(I)I"⟩
abbrev cX4_inspect : ByteArray := prog_6_method_6_code
def yX4_inspect : MethodName := ⟨RX4, "inspect", "(LInspectionOffice$Lot;I)V"⟩
abbrev cX4_inspectTwice : ByteArray := prog_6_method_7_code
def yX4_inspectTwice : MethodName := ⟨RX4, "inspectTwice", "(LInspectionOffice$Lot;II)V"⟩
def RX5 : String := "InspectionOffice"
def TX5 : u_T := fun k => match k with
  | 0 => ("InspectionOffice", "lotByOrder", "[LInspectionOffice$Lot;", true)
  | 1 => ("InspectionOffice", "markByOrder", "[Z", true)
  | 2 => ("InspectionOffice", "plans", "LInspectionOffice$Plans;", true)
  | 3 => ("InspectionOffice", "course", "LInspectionOffice$Course;", true)
  | _ => ("InspectionOffice", "lotCount", "I", false)
def tyX5 : Nat → FieldType := fun k => match k with
  | 0 => .array (.object "InspectionOffice$Lot")
  | 1 => .array .boolean
  | 2 => .object "InspectionOffice$Plans"
  | 3 => .object "InspectionOffice$Course"
  | _ => .int
abbrev wsX50 : List Cond := u_ws RX5 TX5 5
theorem nmX5 : ∀ a, a < 5 → ∀ b, b < 5 → a ≠ b → (TX5 a).2.1 ≠ (TX5 b).2.1 := by decide +kernel
theorem tyX5_ok : ∀ k, k < 5 → parseFieldDescriptor (TX5 k).2.2.1 = some (tyX5 k) := by decide +kernel
abbrev cX5_init : ByteArray := prog_1_method_1_code
def yX5_init : MethodName := ⟨RX5, "<init>", "()V"⟩
abbrev cX5_setPlan : ByteArray := prog_1_method_2_code
def yX5_setPlan : MethodName := ⟨RX5, "setPlan", "(II)V"⟩
abbrev cX5_setWays : ByteArray := prog_1_method_3_code
def yX5_setWays : MethodName := ⟨RX5, "setWays", "(ZZI)V"⟩
abbrev cX5_toggleMark : ByteArray := prog_1_method_4_code
def yX5_toggleMark : MethodName := ⟨RX5, "toggleMark", "(I)Z"⟩
abbrev cX5_record : ByteArray := prog_1_method_5_code
def yX5_record : MethodName := ⟨RX5, "record", "(IIJ)I"⟩
abbrev cX5_correct : ByteArray := prog_1_method_6_code
def yX5_correct : MethodName := ⟨RX5, "correct", "(IJ)J"⟩
abbrev cX5_strike : ByteArray := prog_1_method_7_code
def yX5_strike : MethodName := ⟨RX5, "strike", "(I)I"⟩
abbrev cX5_lots : ByteArray := prog_1_method_8_code
def yX5_lots : MethodName := ⟨RX5, "lots", "()I"⟩
abbrev cX5_orderAt : ByteArray := prog_1_method_9_code
def yX5_orderAt : MethodName := ⟨RX5, "orderAt", "(I)I"⟩
abbrev cX5_verdict : ByteArray := prog_1_method_10_code
def yX5_verdict : MethodName := ⟨RX5, "verdict", "(I)I"⟩
abbrev cX5_stateAt : ByteArray := prog_1_method_11_code
def yX5_stateAt : MethodName := ⟨RX5, "stateAt", "(I)I"⟩
abbrev cX5_state : ByteArray := prog_1_method_12_code
def yX5_state : MethodName := ⟨RX5, "state", "()I"⟩
abbrev cX5_isSkipping : ByteArray := prog_1_method_13_code
def yX5_isSkipping : MethodName := ⟨RX5, "isSkipping", "()Z"⟩
abbrev cX5_inspected : ByteArray := prog_1_method_14_code
def yX5_inspected : MethodName := ⟨RX5, "inspected", "(I)I"⟩
abbrev cX5_badIn : ByteArray := prog_1_method_15_code
def yX5_badIn : MethodName := ⟨RX5, "badIn", "(I)I"⟩
abbrev cX5_count : ByteArray := prog_1_method_16_code
def yX5_count : MethodName := ⟨RX5, "count", "(I)I"⟩
abbrev cX5_samples : ByteArray := prog_1_method_20_code
def yX5_samples : MethodName := ⟨RX5, "samples", "(II)J"⟩
abbrev cX5_accepted : ByteArray := prog_1_method_21_code
def yX5_accepted : MethodName := ⟨RX5, "accepted", "(IIII)J"⟩
abbrev cX5_acceptedByListing : ByteArray := prog_1_method_22_code
def yX5_acceptedByListing : MethodName := ⟨RX5, "acceptedByListing", "(IIII)J"⟩
abbrev cX5_isWithin : ByteArray := prog_1_method_24_code
def yX5_isWithin : MethodName := ⟨RX5, "isWithin", "(III)Z"⟩
abbrev cX5_isOrder : ByteArray := prog_1_method_25_code
def yX5_isOrder : MethodName := ⟨RX5, "isOrder", "(I)Z"⟩
abbrev cX5_isLotSize : ByteArray := prog_1_method_26_code
def yX5_isLotSize : MethodName := ⟨RX5, "isLotSize", "(I)Z"⟩
abbrev cX5_isFindings : ByteArray := prog_1_method_27_code
def yX5_isFindings : MethodName := ⟨RX5, "isFindings", "(J)Z"⟩
abbrev cX5_findLot : ByteArray := prog_1_method_28_code
def yX5_findLot : MethodName := ⟨RX5, "findLot", "(I)LInspectionOffice$Lot;"⟩
abbrev cX5_judgeAll : ByteArray := prog_1_method_29_code
def yX5_judgeAll : MethodName := ⟨RX5, "judgeAll", "()V"⟩
def RX6 : String := "InspectionOfficeModel"
def TX6 : u_T := fun k => match k with
  | _ => ("", "", "", false)
def tyX6 : Nat → FieldType := fun k => match k with
  | _ => .int
abbrev wsX60 : List Cond := u_ws RX6 TX6 0
theorem nmX6 : ∀ a, a < 0 → ∀ b, b < 0 → a ≠ b → (TX6 a).2.1 ≠ (TX6 b).2.1 := by decide +kernel
theorem tyX6_ok : ∀ k, k < 0 → parseFieldDescriptor (TX6 k).2.2.1 = some (tyX6 k) := by decide +kernel
def RJ6 : String := "java/lang/Integer"
def TJ6 : u_T := fun k => match k with
  | _ => ("", "", "", false)
def tyJ6 : Nat → FieldType := fun k => match k with
  | _ => .int
abbrev wsJ60 : List Cond := u_ws RJ6 TJ6 0
theorem nmJ6 : ∀ a, a < 0 → ∀ b, b < 0 → a ≠ b → (TJ6 a).2.1 ≠ (TJ6 b).2.1 := by decide +kernel
theorem tyJ6_ok : ∀ k, k < 0 → parseFieldDescriptor (TJ6 k).2.2.1 = some (tyJ6 k) := by decide +kernel
abbrev cJ6_bitCount_0f7a4 : ByteArray := prog_13_method_49_code
def yJ6_bitCount_0f7a4 : MethodName := ⟨RJ6, "bitCount", "(I)I"⟩
def RJ13 : String := "java/lang/Long"
def TJ13 : u_T := fun k => match k with
  | _ => ("", "", "", false)
def tyJ13 : Nat → FieldType := fun k => match k with
  | _ => .int
abbrev wsJ130 : List Cond := u_ws RJ13 TJ13 0
theorem nmJ13 : ∀ a, a < 0 → ∀ b, b < 0 → a ≠ b → (TJ13 a).2.1 ≠ (TJ13 b).2.1 := by decide +kernel
theorem tyJ13_ok : ∀ k, k < 0 → parseFieldDescriptor (TJ13 k).2.2.1 = some (tyJ13 k) := by decide +kernel
abbrev cJ13_bitCount_95d88 : ByteArray := prog_14_method_50_code
def yJ13_bitCount_95d88 : MethodName := ⟨RJ13, "bitCount", "(J)I"⟩
def RJ9 : String := "java/lang/Math"
def TJ9 : u_T := fun k => match k with
  | _ => ("", "", "", false)
def tyJ9 : Nat → FieldType := fun k => match k with
  | _ => .int
abbrev wsJ90 : List Cond := u_ws RJ9 TJ9 0
theorem nmJ9 : ∀ a, a < 0 → ∀ b, b < 0 → a ≠ b → (TJ9 a).2.1 ≠ (TJ9 b).2.1 := by decide +kernel
theorem tyJ9_ok : ∀ k, k < 0 → parseFieldDescriptor (TJ9 k).2.2.1 = some (tyJ9 k) := by decide +kernel
abbrev cJ9_min_7cf53 : ByteArray := prog_15_method_69_code
def yJ9_min_7cf53 : MethodName := ⟨RJ9, "min", "(II)I"⟩
def RJ0 : String := "java/lang/String"
def TJ0 : u_T := fun k => match k with
  | _ => ("", "", "", false)
def tyJ0 : Nat → FieldType := fun k => match k with
  | _ => .int
abbrev wsJ00 : List Cond := u_ws RJ0 TJ0 0
theorem nmJ0 : ∀ a, a < 0 → ∀ b, b < 0 → a ≠ b → (TJ0 a).2.1 ≠ (TJ0 b).2.1 := by decide +kernel
theorem tyJ0_ok : ∀ k, k < 0 → parseFieldDescriptor (TJ0 k).2.2.1 = some (tyJ0 k) := by decide +kernel
def RL : String := "InspectionOfficeLaw"
abbrev cL_low : ByteArray := method_2_code
def yL_low : MethodName := ⟨RL, "low", "(II)I"⟩
abbrev cL_cell : ByteArray := method_3_code
def yL_cell : MethodName := ⟨RL, "cell", "([II)I"⟩
abbrev cL_record : ByteArray := method_4_code
def yL_record : MethodName := ⟨RL, "record", "(LInspectionOffice;IIJ)I"⟩
abbrev cL_strike : ByteArray := method_5_code
def yL_strike : MethodName := ⟨RL, "strike", "(LInspectionOffice;I)I"⟩
abbrev cL_findings : ByteArray := method_6_code
def yL_findings : MethodName := ⟨RL, "findings", "(II)J"⟩
abbrev cL_holds : ByteArray := method_7_code
def yL_holds : MethodName := ⟨RL, "holds", "(LInspectionOffice;)Z"⟩
abbrev cL_again : ByteArray := method_8_code
def yL_again : MethodName := ⟨RL, "again", "(LInspectionOffice;IIJ)Z"⟩
abbrev cL_curves : ByteArray := method_9_code
def yL_curves : MethodName := ⟨RL, "curves", "(LInspectionOffice;I)Z"⟩
abbrev cL_law : ByteArray := code
def yL_law : MethodName := ⟨RL, "law", "([I)Z"⟩
def wsX2_init : List Cond := .code yX2_init cX2_init 1 none :: ([.methodLink RX2 3 objectInit, .instanceMethod objectInit, .code objectInit ⟨#[0xb1]⟩ 1 none, .arrayClass .boolean, .fieldLink RX2 9 "InspectionOffice$History" "refused" "[Z", .arrayClass .int, .fieldLink RX2 15 "InspectionOffice$History" "bad" "[I"] ++ wsX20)
def wsX0_init : List Cond := .code yX0_init cX0_init 1 none :: ([.methodLink RX0 3 objectInit, .instanceMethod objectInit, .code objectInit ⟨#[0xb1]⟩ 1 none, .classLink RX0 9 RX2, .instantiable RX2 3, .initialized RX2, .fieldLink RX0 12 "InspectionOffice$Course" "history" "LInspectionOffice$History;", .instanceMethod yX2_init, .code yX2_init cX2_init 1 none, .methodLink RX2 3 objectInit, .arrayClass .boolean, .fieldLink RX2 9 "InspectionOffice$History" "refused" "[Z", .arrayClass .int, .fieldLink RX2 15 "InspectionOffice$History" "bad" "[I"] ++ wsX20 ++ wsX00)
def wsX2_clear : List Cond := .code yX2_clear cX2_clear 1 none :: ([.fieldLink RX2 19 "InspectionOffice$History" "length" "I"] ++ wsX20)
def wsX0_begin : List Cond := .code yX0_begin cX0_begin 2 none :: ([.fieldLink RX0 30 "InspectionOffice$Course" "state" "I", .fieldLink RX0 12 "InspectionOffice$Course" "history" "LInspectionOffice$History;", .methodLink RX0 66 yX2_clear, .instanceMethod yX2_clear, .selects RX2 yX2_clear yX2_clear, .initialized RX2, .code yX2_clear cX2_clear 1 none, .fieldLink RX2 19 "InspectionOffice$History" "length" "I"] ++ wsX00 ++ wsX20)
def wsX0_restart : List Cond := .code yX0_restart cX0_restart 1 none :: ([.fieldLink RX0 22 "InspectionOffice$Course" "skipping" "Z", .fieldLink RX0 26 "InspectionOffice$Course" "acceptedInRow" "I", .methodLink RX0 18 yX0_begin, .instanceMethod yX0_begin, .selects RX0 yX0_begin yX0_begin, .initialized RX0, .code yX0_begin cX0_begin 2 none, .fieldLink RX0 30 "InspectionOffice$Course" "state" "I", .fieldLink RX0 12 "InspectionOffice$Course" "history" "LInspectionOffice$History;", .methodLink RX0 66 yX2_clear, .instanceMethod yX2_clear, .selects RX2 yX2_clear yX2_clear, .initialized RX2, .code yX2_clear cX2_clear 1 none, .fieldLink RX2 19 "InspectionOffice$History" "length" "I"] ++ wsX00 ++ wsX20)
def wsX3_leaveUninspected : List Cond := .code yX3_leaveUninspected cX3_leaveUninspected 2 none :: ([.fieldLink RX3 22 "InspectionOffice$Lot" "inspected" "I", .fieldLink RX3 31 "InspectionOffice$Lot" "bad" "I", .fieldLink RX3 34 "InspectionOffice$Lot" "verdict" "I"] ++ wsX30)
def wsX0_isPassedOver : List Cond := .code yX0_isPassedOver cX0_isPassedOver 1 (some .boolean) :: ([.fieldLink RX0 22 "InspectionOffice$Course" "skipping" "Z", .fieldLink RX0 100 "InspectionOffice$Course" "passedInGroup" "I", .fieldLink RX0 103 "InspectionOffice$Course" "rate" "I"] ++ wsX00)
def wsX4_sampleOf : List Cond := .code yX4_sampleOf cX4_sampleOf 2 (some .int) :: ([.fieldLink RX4 29 "InspectionOffice$Plans" "SAMPLE_OF_LETTER" "[I"])
def wsX4_letterFor : List Cond := .code yX4_letterFor cX4_letterFor 7 (some .int) :: ([.fieldLink RX4 9 "InspectionOffice$Plans" "level" "I", .fieldLink RX4 18 "InspectionOffice$Plans" "LARGEST_OF_CLASS" "[I", .methodLink RX4 22 yX4_sampleOf, .static yX4_sampleOf, .initialized RX4, .code yX4_sampleOf cX4_sampleOf 2 (some .int), .fieldLink RX4 29 "InspectionOffice$Plans" "SAMPLE_OF_LETTER" "[I"] ++ wsX40)
def wsX4_sampleUnder : List Cond := .code yX4_sampleUnder cX4_sampleUnder 4 (some .int) :: ([.methodLink RX4 26 yX4_letterFor, .instanceMethod yX4_letterFor, .selects RX4 yX4_letterFor yX4_letterFor, .initialized RX4, .code yX4_letterFor cX4_letterFor 7 (some .int), .fieldLink RX4 9 "InspectionOffice$Plans" "level" "I", .fieldLink RX4 18 "InspectionOffice$Plans" "LARGEST_OF_CLASS" "[I", .methodLink RX4 22 yX4_sampleOf, .static yX4_sampleOf, .code yX4_sampleOf cX4_sampleOf 2 (some .int), .fieldLink RX4 29 "InspectionOffice$Plans" "SAMPLE_OF_LETTER" "[I"] ++ wsX40)
def wsX4_acceptingUnder : List Cond := .code yX4_acceptingUnder cX4_acceptingUnder 4 (some .int) :: ([.fieldLink RX4 15 "InspectionOffice$Plans" "quality" "I", .methodLink RX4 26 yX4_letterFor, .instanceMethod yX4_letterFor, .selects RX4 yX4_letterFor yX4_letterFor, .initialized RX4, .code yX4_letterFor cX4_letterFor 7 (some .int), .fieldLink RX4 9 "InspectionOffice$Plans" "level" "I", .fieldLink RX4 18 "InspectionOffice$Plans" "LARGEST_OF_CLASS" "[I", .methodLink RX4 22 yX4_sampleOf, .static yX4_sampleOf, .code yX4_sampleOf cX4_sampleOf 2 (some .int), .fieldLink RX4 29 "InspectionOffice$Plans" "SAMPLE_OF_LETTER" "[I"] ++ wsX40)
def wsJ13_bitCount_95d88 : List Cond := .code yJ13_bitCount_95d88 cJ13_bitCount_95d88 2 (some .int) :: ([.constantLong RJ13 314 (6148914691236517205), .constantLong RJ13 316 (3689348814741910323), .constantLong RJ13 318 (1085102592571150095)])
def wsX3_inspectFirst : List Cond := .code yX3_inspectFirst cX3_inspectFirst 2 none :: ([.fieldLink RX3 22 "InspectionOffice$Lot" "inspected" "I", .fieldLink RX3 18 "InspectionOffice$Lot" "findings" "J", .fieldLink RX3 31 "InspectionOffice$Lot" "bad" "I", .methodLink RX3 25 yJ13_bitCount_95d88, .static yJ13_bitCount_95d88, .initialized RJ13, .code yJ13_bitCount_95d88 cJ13_bitCount_95d88 2 (some .int), .constantLong RJ13 314 (6148914691236517205), .constantLong RJ13 316 (3689348814741910323), .constantLong RJ13 318 (1085102592571150095)] ++ wsX30)
def wsX3_judge : List Cond := .code yX3_judge cX3_judge 2 none :: ([.fieldLink RX3 34 "InspectionOffice$Lot" "verdict" "I"] ++ wsX30)
def wsX4_inspectTwice_r1 : List Cond := [Cond.fieldLink RX4 56 "InspectionOffice$Lot" "bad" "I", Cond.fieldLink RX4 32 "InspectionOffice$Lot" "size" "I", Cond.methodLink RX4 63 Lib.Math.min.name, Cond.static Lib.Math.min.name, Cond.initialized "java/lang/Math", Cond.code Lib.Math.min.name Lib.Math.min.code 2 (some .int), Cond.methodLink RX4 52 yX3_inspectFirst, Cond.instanceMethod yX3_inspectFirst, Cond.selects RX3 yX3_inspectFirst yX3_inspectFirst, Cond.initialized RX3, Cond.code yX3_inspectFirst cX3_inspectFirst 2 none, Cond.fieldLink RX3 22 "InspectionOffice$Lot" "inspected" "I", Cond.fieldLink RX3 18 "InspectionOffice$Lot" "findings" "J", Cond.fieldLink RX3 31 "InspectionOffice$Lot" "bad" "I", Cond.methodLink RX3 25 yJ13_bitCount_95d88, Cond.static yJ13_bitCount_95d88, Cond.initialized RJ13, Cond.code yJ13_bitCount_95d88 cJ13_bitCount_95d88 2 (some .int), Cond.constantLong RJ13 314 (6148914691236517205), Cond.constantLong RJ13 316 (3689348814741910323), Cond.constantLong RJ13 318 (1085102592571150095), Cond.methodLink RX4 59 yX3_judge, Cond.instanceMethod yX3_judge, Cond.selects RX3 yX3_judge yX3_judge]
def wsX4_inspectTwice_r2 : List Cond := [Cond.code yX3_judge cX3_judge 2 none, Cond.fieldLink RX3 34 "InspectionOffice$Lot" "verdict" "I"]
def wsX4_inspectTwice : List Cond := .code yX4_inspectTwice cX4_inspectTwice 5 none :: ((wsX4_inspectTwice_r1 ++ wsX4_inspectTwice_r2) ++ wsX30)
def wsX4_inspect_r1 : List Cond := [Cond.fieldLink RX4 32 "InspectionOffice$Lot" "size" "I", Cond.fieldLink RX4 44 "InspectionOffice$Plans" "twice" "Z", Cond.fieldLink RX4 56 "InspectionOffice$Lot" "bad" "I", Cond.methodLink RX4 37 yX4_sampleUnder, Cond.instanceMethod yX4_sampleUnder, Cond.selects RX4 yX4_sampleUnder yX4_sampleUnder, Cond.initialized RX4, Cond.code yX4_sampleUnder cX4_sampleUnder 4 (some .int), Cond.methodLink RX4 26 yX4_letterFor, Cond.instanceMethod yX4_letterFor, Cond.selects RX4 yX4_letterFor yX4_letterFor, Cond.code yX4_letterFor cX4_letterFor 7 (some .int), Cond.fieldLink RX4 9 "InspectionOffice$Plans" "level" "I", Cond.fieldLink RX4 18 "InspectionOffice$Plans" "LARGEST_OF_CLASS" "[I", Cond.methodLink RX4 22 yX4_sampleOf, Cond.static yX4_sampleOf, Cond.code yX4_sampleOf cX4_sampleOf 2 (some .int), Cond.fieldLink RX4 29 "InspectionOffice$Plans" "SAMPLE_OF_LETTER" "[I", Cond.methodLink RX4 41 yX4_acceptingUnder, Cond.instanceMethod yX4_acceptingUnder, Cond.selects RX4 yX4_acceptingUnder yX4_acceptingUnder, Cond.code yX4_acceptingUnder cX4_acceptingUnder 4 (some .int), Cond.fieldLink RX4 15 "InspectionOffice$Plans" "quality" "I", Cond.methodLink RX4 48 yX4_inspectTwice]
def wsX4_inspect_r2 : List Cond := [Cond.static yX4_inspectTwice, Cond.code yX4_inspectTwice cX4_inspectTwice 5 none, Cond.methodLink RX4 63 Lib.Math.min.name, Cond.static Lib.Math.min.name, Cond.initialized "java/lang/Math", Cond.code Lib.Math.min.name Lib.Math.min.code 2 (some .int), Cond.methodLink RX4 52 yX3_inspectFirst, Cond.instanceMethod yX3_inspectFirst, Cond.selects RX3 yX3_inspectFirst yX3_inspectFirst, Cond.initialized RX3, Cond.code yX3_inspectFirst cX3_inspectFirst 2 none, Cond.fieldLink RX3 22 "InspectionOffice$Lot" "inspected" "I", Cond.fieldLink RX3 18 "InspectionOffice$Lot" "findings" "J", Cond.fieldLink RX3 31 "InspectionOffice$Lot" "bad" "I", Cond.methodLink RX3 25 yJ13_bitCount_95d88, Cond.static yJ13_bitCount_95d88, Cond.initialized RJ13, Cond.code yJ13_bitCount_95d88 cJ13_bitCount_95d88 2 (some .int), Cond.constantLong RJ13 314 (6148914691236517205), Cond.constantLong RJ13 316 (3689348814741910323), Cond.constantLong RJ13 318 (1085102592571150095), Cond.methodLink RX4 59 yX3_judge, Cond.instanceMethod yX3_judge, Cond.selects RX3 yX3_judge yX3_judge]
def wsX4_inspect_r3 : List Cond := [Cond.code yX3_judge cX3_judge 2 none, Cond.fieldLink RX3 34 "InspectionOffice$Lot" "verdict" "I"]
def wsX4_inspect : List Cond := .code yX4_inspect cX4_inspect 5 none :: ((wsX4_inspect_r1 ++ (wsX4_inspect_r2 ++ wsX4_inspect_r3)) ++ wsX30 ++ wsX40)
def wsX2_add : List Cond := .code yX2_add cX2_add 2 none :: ([.fieldLink RX2 19 "InspectionOffice$History" "length" "I", .fieldLink RX2 9 "InspectionOffice$History" "refused" "[Z", .fieldLink RX2 23 "InspectionOffice$Lot" "verdict" "I", .fieldLink RX2 15 "InspectionOffice$History" "bad" "[I", .fieldLink RX2 28 "InspectionOffice$Lot" "bad" "I"] ++ wsX20 ++ wsX30)
def wsX2_refusedInLast : List Cond := .code yX2_refusedInLast cX2_refusedInLast 5 (some .int) :: ([.fieldLink RX2 19 "InspectionOffice$History" "length" "I", .fieldLink RX2 9 "InspectionOffice$History" "refused" "[Z"] ++ wsX20)
def wsX2_lastWereAccepted : List Cond := .code yX2_lastWereAccepted cX2_lastWereAccepted 2 (some .boolean) :: ([.fieldLink RX2 19 "InspectionOffice$History" "length" "I", .methodLink RX2 30 yX2_refusedInLast, .instanceMethod yX2_refusedInLast, .selects RX2 yX2_refusedInLast yX2_refusedInLast, .initialized RX2, .code yX2_refusedInLast cX2_refusedInLast 5 (some .int), .fieldLink RX2 9 "InspectionOffice$History" "refused" "[Z"] ++ wsX20)
def wsX2_badInLast : List Cond := .code yX2_badInLast cX2_badInLast 5 (some .int) :: ([.fieldLink RX2 19 "InspectionOffice$History" "length" "I", .fieldLink RX2 15 "InspectionOffice$History" "bad" "[I"] ++ wsX20)
def wsX0_behindNormal : List Cond := .code yX0_behindNormal cX0_behindNormal 2 (some .int) :: ([.fieldLink RX0 12 "InspectionOffice$Course" "history" "LInspectionOffice$History;", .fieldLink RX0 97 "InspectionOffice$Course" "steady" "Z", .methodLink RX0 86 yX2_refusedInLast, .instanceMethod yX2_refusedInLast, .selects RX2 yX2_refusedInLast yX2_refusedInLast, .initialized RX2, .code yX2_refusedInLast cX2_refusedInLast 5 (some .int), .fieldLink RX2 19 "InspectionOffice$History" "length" "I", .fieldLink RX2 9 "InspectionOffice$History" "refused" "[Z", .methodLink RX0 90 yX2_lastWereAccepted, .instanceMethod yX2_lastWereAccepted, .selects RX2 yX2_lastWereAccepted yX2_lastWereAccepted, .code yX2_lastWereAccepted cX2_lastWereAccepted 2 (some .boolean), .methodLink RX2 30 yX2_refusedInLast, .methodLink RX0 94 yX2_badInLast, .instanceMethod yX2_badInLast, .selects RX2 yX2_badInLast yX2_badInLast, .code yX2_badInLast cX2_badInLast 5 (some .int), .fieldLink RX2 15 "InspectionOffice$History" "bad" "[I"] ++ wsX00 ++ wsX20)
def wsX0_behindTightened : List Cond := .code yX0_behindTightened cX0_behindTightened 1 (some .int) :: ([.fieldLink RX0 12 "InspectionOffice$Course" "history" "LInspectionOffice$History;", .methodLink RX0 90 yX2_lastWereAccepted, .instanceMethod yX2_lastWereAccepted, .selects RX2 yX2_lastWereAccepted yX2_lastWereAccepted, .initialized RX2, .code yX2_lastWereAccepted cX2_lastWereAccepted 2 (some .boolean), .fieldLink RX2 19 "InspectionOffice$History" "length" "I", .methodLink RX2 30 yX2_refusedInLast, .instanceMethod yX2_refusedInLast, .selects RX2 yX2_refusedInLast yX2_refusedInLast, .code yX2_refusedInLast cX2_refusedInLast 5 (some .int), .fieldLink RX2 9 "InspectionOffice$History" "refused" "[Z", .methodLink RX0 86 yX2_refusedInLast] ++ wsX00 ++ wsX20)
def wsX0_nextBehind_r1 : List Cond := [Cond.fieldLink RX0 30 "InspectionOffice$Course" "state" "I", Cond.fieldLink RX0 76 "InspectionOffice$Lot" "bad" "I", Cond.fieldLink RX0 79 "InspectionOffice$Lot" "size" "I", Cond.methodLink RX0 69 yX0_behindNormal, Cond.instanceMethod yX0_behindNormal, Cond.selects RX0 yX0_behindNormal yX0_behindNormal, Cond.initialized RX0, Cond.code yX0_behindNormal cX0_behindNormal 2 (some .int), Cond.fieldLink RX0 12 "InspectionOffice$Course" "history" "LInspectionOffice$History;", Cond.fieldLink RX0 97 "InspectionOffice$Course" "steady" "Z", Cond.methodLink RX0 86 yX2_refusedInLast, Cond.instanceMethod yX2_refusedInLast, Cond.selects RX2 yX2_refusedInLast yX2_refusedInLast, Cond.initialized RX2, Cond.code yX2_refusedInLast cX2_refusedInLast 5 (some .int), Cond.fieldLink RX2 19 "InspectionOffice$History" "length" "I", Cond.fieldLink RX2 9 "InspectionOffice$History" "refused" "[Z", Cond.methodLink RX0 90 yX2_lastWereAccepted, Cond.instanceMethod yX2_lastWereAccepted, Cond.selects RX2 yX2_lastWereAccepted yX2_lastWereAccepted, Cond.code yX2_lastWereAccepted cX2_lastWereAccepted 2 (some .boolean), Cond.methodLink RX2 30 yX2_refusedInLast, Cond.methodLink RX0 94 yX2_badInLast, Cond.instanceMethod yX2_badInLast]
def wsX0_nextBehind_r2 : List Cond := [Cond.selects RX2 yX2_badInLast yX2_badInLast, Cond.code yX2_badInLast cX2_badInLast 5 (some .int), Cond.fieldLink RX2 15 "InspectionOffice$History" "bad" "[I", Cond.methodLink RX0 73 yX0_behindTightened, Cond.instanceMethod yX0_behindTightened, Cond.selects RX0 yX0_behindTightened yX0_behindTightened, Cond.code yX0_behindTightened cX0_behindTightened 1 (some .int), Cond.methodLink RX0 82 yX4_acceptingUnder, Cond.instanceMethod yX4_acceptingUnder, Cond.selects RX4 yX4_acceptingUnder yX4_acceptingUnder, Cond.initialized RX4, Cond.code yX4_acceptingUnder cX4_acceptingUnder 4 (some .int), Cond.fieldLink RX4 15 "InspectionOffice$Plans" "quality" "I", Cond.methodLink RX4 26 yX4_letterFor, Cond.instanceMethod yX4_letterFor, Cond.selects RX4 yX4_letterFor yX4_letterFor, Cond.code yX4_letterFor cX4_letterFor 7 (some .int), Cond.fieldLink RX4 9 "InspectionOffice$Plans" "level" "I", Cond.fieldLink RX4 18 "InspectionOffice$Plans" "LARGEST_OF_CLASS" "[I", Cond.methodLink RX4 22 yX4_sampleOf, Cond.static yX4_sampleOf, Cond.code yX4_sampleOf cX4_sampleOf 2 (some .int), Cond.fieldLink RX4 29 "InspectionOffice$Plans" "SAMPLE_OF_LETTER" "[I"]
def wsX0_nextBehind : List Cond := .code yX0_nextBehind cX0_nextBehind 4 (some .int) :: ((wsX0_nextBehind_r1 ++ wsX0_nextBehind_r2) ++ wsX00 ++ wsX30 ++ wsX20 ++ wsX40)
def wsX0_countForSkipping : List Cond := .code yX0_countForSkipping cX0_countForSkipping 2 none :: ([.fieldLink RX0 106 "InspectionOffice$Lot" "verdict" "I", .fieldLink RX0 36 "InspectionOffice$Lot" "state" "I", .fieldLink RX0 30 "InspectionOffice$Course" "state" "I", .fieldLink RX0 22 "InspectionOffice$Course" "skipping" "Z", .fieldLink RX0 26 "InspectionOffice$Course" "acceptedInRow" "I", .fieldLink RX0 103 "InspectionOffice$Course" "rate" "I", .fieldLink RX0 100 "InspectionOffice$Course" "passedInGroup" "I"] ++ wsX30 ++ wsX00)
def wsX0_pass_r1 : List Cond := [Cond.fieldLink RX0 30 "InspectionOffice$Course" "state" "I", Cond.fieldLink RX0 33 "InspectionOffice$Course" "changedAt" "I", Cond.fieldLink RX0 36 "InspectionOffice$Lot" "state" "I", Cond.fieldLink RX0 12 "InspectionOffice$Course" "history" "LInspectionOffice$History;", Cond.fieldLink RX0 60 "InspectionOffice$Lot" "order" "I", Cond.methodLink RX0 18 yX0_begin, Cond.instanceMethod yX0_begin, Cond.selects RX0 yX0_begin yX0_begin, Cond.initialized RX0, Cond.code yX0_begin cX0_begin 2 none, Cond.methodLink RX0 66 yX2_clear, Cond.instanceMethod yX2_clear, Cond.selects RX2 yX2_clear yX2_clear, Cond.initialized RX2, Cond.code yX2_clear cX2_clear 1 none, Cond.fieldLink RX2 19 "InspectionOffice$History" "length" "I", Cond.methodLink RX0 39 yX3_leaveUninspected, Cond.instanceMethod yX3_leaveUninspected, Cond.selects RX3 yX3_leaveUninspected yX3_leaveUninspected, Cond.initialized RX3, Cond.code yX3_leaveUninspected cX3_leaveUninspected 2 none, Cond.fieldLink RX3 22 "InspectionOffice$Lot" "inspected" "I", Cond.fieldLink RX3 31 "InspectionOffice$Lot" "bad" "I", Cond.fieldLink RX3 34 "InspectionOffice$Lot" "verdict" "I"]
def wsX0_pass_r2 : List Cond := [Cond.methodLink RX0 42 yX0_isPassedOver, Cond.instanceMethod yX0_isPassedOver, Cond.selects RX0 yX0_isPassedOver yX0_isPassedOver, Cond.code yX0_isPassedOver cX0_isPassedOver 1 (some .boolean), Cond.fieldLink RX0 22 "InspectionOffice$Course" "skipping" "Z", Cond.fieldLink RX0 100 "InspectionOffice$Course" "passedInGroup" "I", Cond.fieldLink RX0 103 "InspectionOffice$Course" "rate" "I", Cond.methodLink RX0 46 yX4_inspect, Cond.instanceMethod yX4_inspect, Cond.selects RX4 yX4_inspect yX4_inspect, Cond.initialized RX4, Cond.code yX4_inspect cX4_inspect 5 none, Cond.fieldLink RX4 32 "InspectionOffice$Lot" "size" "I", Cond.fieldLink RX4 44 "InspectionOffice$Plans" "twice" "Z", Cond.fieldLink RX4 56 "InspectionOffice$Lot" "bad" "I", Cond.methodLink RX4 37 yX4_sampleUnder, Cond.instanceMethod yX4_sampleUnder, Cond.selects RX4 yX4_sampleUnder yX4_sampleUnder, Cond.code yX4_sampleUnder cX4_sampleUnder 4 (some .int), Cond.methodLink RX4 26 yX4_letterFor, Cond.instanceMethod yX4_letterFor, Cond.selects RX4 yX4_letterFor yX4_letterFor, Cond.code yX4_letterFor cX4_letterFor 7 (some .int), Cond.fieldLink RX4 9 "InspectionOffice$Plans" "level" "I"]
def wsX0_pass_r3 : List Cond := [Cond.fieldLink RX4 18 "InspectionOffice$Plans" "LARGEST_OF_CLASS" "[I", Cond.methodLink RX4 22 yX4_sampleOf, Cond.static yX4_sampleOf, Cond.code yX4_sampleOf cX4_sampleOf 2 (some .int), Cond.fieldLink RX4 29 "InspectionOffice$Plans" "SAMPLE_OF_LETTER" "[I", Cond.methodLink RX4 41 yX4_acceptingUnder, Cond.instanceMethod yX4_acceptingUnder, Cond.selects RX4 yX4_acceptingUnder yX4_acceptingUnder, Cond.code yX4_acceptingUnder cX4_acceptingUnder 4 (some .int), Cond.fieldLink RX4 15 "InspectionOffice$Plans" "quality" "I", Cond.methodLink RX4 48 yX4_inspectTwice, Cond.static yX4_inspectTwice, Cond.code yX4_inspectTwice cX4_inspectTwice 5 none, Cond.methodLink RX4 63 Lib.Math.min.name, Cond.static Lib.Math.min.name, Cond.initialized "java/lang/Math", Cond.code Lib.Math.min.name Lib.Math.min.code 2 (some .int), Cond.methodLink RX4 52 yX3_inspectFirst, Cond.instanceMethod yX3_inspectFirst, Cond.selects RX3 yX3_inspectFirst yX3_inspectFirst, Cond.code yX3_inspectFirst cX3_inspectFirst 2 none, Cond.fieldLink RX3 18 "InspectionOffice$Lot" "findings" "J", Cond.methodLink RX3 25 yJ13_bitCount_95d88, Cond.static yJ13_bitCount_95d88]
def wsX0_pass_r4 : List Cond := [Cond.initialized RJ13, Cond.code yJ13_bitCount_95d88 cJ13_bitCount_95d88 2 (some .int), Cond.constantLong RJ13 314 (6148914691236517205), Cond.constantLong RJ13 316 (3689348814741910323), Cond.constantLong RJ13 318 (1085102592571150095), Cond.methodLink RX4 59 yX3_judge, Cond.instanceMethod yX3_judge, Cond.selects RX3 yX3_judge yX3_judge, Cond.code yX3_judge cX3_judge 2 none, Cond.methodLink RX0 52 yX2_add, Cond.instanceMethod yX2_add, Cond.selects RX2 yX2_add yX2_add, Cond.code yX2_add cX2_add 2 none, Cond.fieldLink RX2 9 "InspectionOffice$History" "refused" "[Z", Cond.fieldLink RX2 23 "InspectionOffice$Lot" "verdict" "I", Cond.fieldLink RX2 15 "InspectionOffice$History" "bad" "[I", Cond.fieldLink RX2 28 "InspectionOffice$Lot" "bad" "I", Cond.methodLink RX0 56 yX0_nextBehind, Cond.instanceMethod yX0_nextBehind, Cond.selects RX0 yX0_nextBehind yX0_nextBehind, Cond.code yX0_nextBehind cX0_nextBehind 4 (some .int), Cond.fieldLink RX0 76 "InspectionOffice$Lot" "bad" "I", Cond.fieldLink RX0 79 "InspectionOffice$Lot" "size" "I", Cond.methodLink RX0 69 yX0_behindNormal]
def wsX0_pass_r5 : List Cond := [Cond.instanceMethod yX0_behindNormal, Cond.selects RX0 yX0_behindNormal yX0_behindNormal, Cond.code yX0_behindNormal cX0_behindNormal 2 (some .int), Cond.fieldLink RX0 97 "InspectionOffice$Course" "steady" "Z", Cond.methodLink RX0 86 yX2_refusedInLast, Cond.instanceMethod yX2_refusedInLast, Cond.selects RX2 yX2_refusedInLast yX2_refusedInLast, Cond.code yX2_refusedInLast cX2_refusedInLast 5 (some .int), Cond.methodLink RX0 90 yX2_lastWereAccepted, Cond.instanceMethod yX2_lastWereAccepted, Cond.selects RX2 yX2_lastWereAccepted yX2_lastWereAccepted, Cond.code yX2_lastWereAccepted cX2_lastWereAccepted 2 (some .boolean), Cond.methodLink RX2 30 yX2_refusedInLast, Cond.methodLink RX0 94 yX2_badInLast, Cond.instanceMethod yX2_badInLast, Cond.selects RX2 yX2_badInLast yX2_badInLast, Cond.code yX2_badInLast cX2_badInLast 5 (some .int), Cond.methodLink RX0 73 yX0_behindTightened, Cond.instanceMethod yX0_behindTightened, Cond.selects RX0 yX0_behindTightened yX0_behindTightened, Cond.code yX0_behindTightened cX0_behindTightened 1 (some .int), Cond.methodLink RX0 82 yX4_acceptingUnder, Cond.methodLink RX0 63 yX0_countForSkipping, Cond.instanceMethod yX0_countForSkipping]
def wsX0_pass_r6 : List Cond := [Cond.selects RX0 yX0_countForSkipping yX0_countForSkipping, Cond.code yX0_countForSkipping cX0_countForSkipping 2 none, Cond.fieldLink RX0 106 "InspectionOffice$Lot" "verdict" "I", Cond.fieldLink RX0 26 "InspectionOffice$Course" "acceptedInRow" "I"]
def wsX0_pass : List Cond := .code yX0_pass cX0_pass 5 none :: ((wsX0_pass_r1 ++ (wsX0_pass_r2 ++ (wsX0_pass_r3 ++ (wsX0_pass_r4 ++ (wsX0_pass_r5 ++ wsX0_pass_r6))))) ++ wsX00 ++ wsX30 ++ wsX20 ++ wsX40)
def wsX1_choices : List Cond := .code yX1_choices cX1_choices 5 (some .long) :: ([])
def wsX1_withExactly : List Cond := .code yX1_withExactly cX1_withExactly 4 (some .long) :: ([.methodLink RX1 7 yX1_choices, .static yX1_choices, .initialized RX1, .code yX1_choices cX1_choices 5 (some .long)])
def wsX1_withAtMost : List Cond := .code yX1_withAtMost cX1_withAtMost 7 (some .long) :: ([.methodLink RX1 13 yX1_withExactly, .static yX1_withExactly, .initialized RX1, .code yX1_withExactly cX1_withExactly 4 (some .long), .methodLink RX1 7 yX1_choices, .static yX1_choices, .code yX1_choices cX1_choices 5 (some .long)])
def wsJ6_bitCount_0f7a4 : List Cond := .code yJ6_bitCount_0f7a4 cJ6_bitCount_0f7a4 1 (some .int) :: ([.constant RJ6 265 (1431655765), .constant RJ6 266 (858993459), .constant RJ6 267 (252645135)])
def wsX1_nextWithAsManyBits : List Cond := .code yX1_nextWithAsManyBits cX1_nextWithAsManyBits 3 (some .int) :: ([.constant RX1 26 (2147483647)])
def wsX1_listedWithAtMost : List Cond := .code yX1_listedWithAtMost cX1_listedWithAtMost 10 (some .long) :: ([.methodLink RX1 17 yJ6_bitCount_0f7a4, .static yJ6_bitCount_0f7a4, .initialized RJ6, .code yJ6_bitCount_0f7a4 cJ6_bitCount_0f7a4 1 (some .int), .constant RJ6 265 (1431655765), .constant RJ6 266 (858993459), .constant RJ6 267 (252645135), .methodLink RX1 23 yX1_nextWithAsManyBits, .static yX1_nextWithAsManyBits, .initialized RX1, .code yX1_nextWithAsManyBits cX1_nextWithAsManyBits 3 (some .int), .constant RX1 26 (2147483647)])
def wsX3_init : List Cond := .code yX3_init cX3_init 5 none :: ([.methodLink RX3 3 objectInit, .instanceMethod objectInit, .code objectInit ⟨#[0xb1]⟩ 1 none, .fieldLink RX3 9 "InspectionOffice$Lot" "order" "I", .fieldLink RX3 15 "InspectionOffice$Lot" "size" "I", .fieldLink RX3 18 "InspectionOffice$Lot" "findings" "J"] ++ wsX30)
def wsX4_init : List Cond := .code yX4_init cX4_init 1 none :: ([.methodLink RX4 3 objectInit, .instanceMethod objectInit, .code objectInit ⟨#[0xb1]⟩ 1 none, .fieldLink RX4 9 "InspectionOffice$Plans" "level" "I", .fieldLink RX4 15 "InspectionOffice$Plans" "quality" "I"] ++ wsX40)
def wsX5_init_r1 : List Cond := [Cond.methodLink RX5 3 objectInit, Cond.instanceMethod objectInit, Cond.code objectInit ⟨#[0xb1]⟩ 1 none, Cond.classLink RX5 9 RX3, Cond.fieldLink RX5 11 "InspectionOffice" "lotByOrder" "[LInspectionOffice$Lot;", Cond.arrayClass .boolean, Cond.fieldLink RX5 15 "InspectionOffice" "markByOrder" "[Z", Cond.classLink RX5 19 RX4, Cond.instantiable RX4 3, Cond.initialized RX4, Cond.fieldLink RX5 22 "InspectionOffice" "plans" "LInspectionOffice$Plans;", Cond.classLink RX5 26 RX0, Cond.instantiable RX0 8, Cond.initialized RX0, Cond.fieldLink RX5 29 "InspectionOffice" "course" "LInspectionOffice$Course;", Cond.instanceMethod yX4_init, Cond.code yX4_init cX4_init 1 none, Cond.methodLink RX4 3 objectInit, Cond.fieldLink RX4 9 "InspectionOffice$Plans" "level" "I", Cond.fieldLink RX4 15 "InspectionOffice$Plans" "quality" "I", Cond.instanceMethod yX0_init, Cond.code yX0_init cX0_init 1 none, Cond.methodLink RX0 3 objectInit, Cond.classLink RX0 9 RX2]
def wsX5_init_r2 : List Cond := [Cond.instantiable RX2 3, Cond.initialized RX2, Cond.fieldLink RX0 12 "InspectionOffice$Course" "history" "LInspectionOffice$History;", Cond.instanceMethod yX2_init, Cond.code yX2_init cX2_init 1 none, Cond.methodLink RX2 3 objectInit, Cond.fieldLink RX2 9 "InspectionOffice$History" "refused" "[Z", Cond.arrayClass .int, Cond.fieldLink RX2 15 "InspectionOffice$History" "bad" "[I"]
def wsX5_init : List Cond := .code yX5_init cX5_init 1 none :: ((wsX5_init_r1 ++ wsX5_init_r2) ++ wsX50 ++ wsX40 ++ wsX00 ++ wsX20)
def wsX5_isWithin : List Cond := .code yX5_isWithin cX5_isWithin 3 (some .boolean) :: ([])
def wsX5_judgeAll_r1 : List Cond := [Cond.fieldLink RX5 29 "InspectionOffice" "course" "LInspectionOffice$Course;", Cond.fieldLink RX5 15 "InspectionOffice" "markByOrder" "[Z", Cond.fieldLink RX5 11 "InspectionOffice" "lotByOrder" "[LInspectionOffice$Lot;", Cond.fieldLink RX5 22 "InspectionOffice" "plans" "LInspectionOffice$Plans;", Cond.methodLink RX5 164 yX0_restart, Cond.instanceMethod yX0_restart, Cond.selects RX0 yX0_restart yX0_restart, Cond.initialized RX0, Cond.code yX0_restart cX0_restart 1 none, Cond.fieldLink RX0 22 "InspectionOffice$Course" "skipping" "Z", Cond.fieldLink RX0 26 "InspectionOffice$Course" "acceptedInRow" "I", Cond.methodLink RX0 18 yX0_begin, Cond.instanceMethod yX0_begin, Cond.selects RX0 yX0_begin yX0_begin, Cond.code yX0_begin cX0_begin 2 none, Cond.fieldLink RX0 30 "InspectionOffice$Course" "state" "I", Cond.fieldLink RX0 12 "InspectionOffice$Course" "history" "LInspectionOffice$History;", Cond.methodLink RX0 66 yX2_clear, Cond.instanceMethod yX2_clear, Cond.selects RX2 yX2_clear yX2_clear, Cond.initialized RX2, Cond.code yX2_clear cX2_clear 1 none, Cond.fieldLink RX2 19 "InspectionOffice$History" "length" "I", Cond.methodLink RX5 167 yX0_pass]
def wsX5_judgeAll_r2 : List Cond := [Cond.instanceMethod yX0_pass, Cond.selects RX0 yX0_pass yX0_pass, Cond.code yX0_pass cX0_pass 5 none, Cond.fieldLink RX0 33 "InspectionOffice$Course" "changedAt" "I", Cond.fieldLink RX0 36 "InspectionOffice$Lot" "state" "I", Cond.fieldLink RX0 60 "InspectionOffice$Lot" "order" "I", Cond.methodLink RX0 39 yX3_leaveUninspected, Cond.instanceMethod yX3_leaveUninspected, Cond.selects RX3 yX3_leaveUninspected yX3_leaveUninspected, Cond.initialized RX3, Cond.code yX3_leaveUninspected cX3_leaveUninspected 2 none, Cond.fieldLink RX3 22 "InspectionOffice$Lot" "inspected" "I", Cond.fieldLink RX3 31 "InspectionOffice$Lot" "bad" "I", Cond.fieldLink RX3 34 "InspectionOffice$Lot" "verdict" "I", Cond.methodLink RX0 42 yX0_isPassedOver, Cond.instanceMethod yX0_isPassedOver, Cond.selects RX0 yX0_isPassedOver yX0_isPassedOver, Cond.code yX0_isPassedOver cX0_isPassedOver 1 (some .boolean), Cond.fieldLink RX0 100 "InspectionOffice$Course" "passedInGroup" "I", Cond.fieldLink RX0 103 "InspectionOffice$Course" "rate" "I", Cond.methodLink RX0 46 yX4_inspect, Cond.instanceMethod yX4_inspect, Cond.selects RX4 yX4_inspect yX4_inspect, Cond.initialized RX4]
def wsX5_judgeAll_r3 : List Cond := [Cond.code yX4_inspect cX4_inspect 5 none, Cond.fieldLink RX4 32 "InspectionOffice$Lot" "size" "I", Cond.fieldLink RX4 44 "InspectionOffice$Plans" "twice" "Z", Cond.fieldLink RX4 56 "InspectionOffice$Lot" "bad" "I", Cond.methodLink RX4 37 yX4_sampleUnder, Cond.instanceMethod yX4_sampleUnder, Cond.selects RX4 yX4_sampleUnder yX4_sampleUnder, Cond.code yX4_sampleUnder cX4_sampleUnder 4 (some .int), Cond.methodLink RX4 26 yX4_letterFor, Cond.instanceMethod yX4_letterFor, Cond.selects RX4 yX4_letterFor yX4_letterFor, Cond.code yX4_letterFor cX4_letterFor 7 (some .int), Cond.fieldLink RX4 9 "InspectionOffice$Plans" "level" "I", Cond.fieldLink RX4 18 "InspectionOffice$Plans" "LARGEST_OF_CLASS" "[I", Cond.methodLink RX4 22 yX4_sampleOf, Cond.static yX4_sampleOf, Cond.code yX4_sampleOf cX4_sampleOf 2 (some .int), Cond.fieldLink RX4 29 "InspectionOffice$Plans" "SAMPLE_OF_LETTER" "[I", Cond.methodLink RX4 41 yX4_acceptingUnder, Cond.instanceMethod yX4_acceptingUnder, Cond.selects RX4 yX4_acceptingUnder yX4_acceptingUnder, Cond.code yX4_acceptingUnder cX4_acceptingUnder 4 (some .int), Cond.fieldLink RX4 15 "InspectionOffice$Plans" "quality" "I", Cond.methodLink RX4 48 yX4_inspectTwice]
def wsX5_judgeAll_r4 : List Cond := [Cond.static yX4_inspectTwice, Cond.code yX4_inspectTwice cX4_inspectTwice 5 none, Cond.methodLink RX4 63 Lib.Math.min.name, Cond.static Lib.Math.min.name, Cond.initialized "java/lang/Math", Cond.code Lib.Math.min.name Lib.Math.min.code 2 (some .int), Cond.methodLink RX4 52 yX3_inspectFirst, Cond.instanceMethod yX3_inspectFirst, Cond.selects RX3 yX3_inspectFirst yX3_inspectFirst, Cond.code yX3_inspectFirst cX3_inspectFirst 2 none, Cond.fieldLink RX3 18 "InspectionOffice$Lot" "findings" "J", Cond.methodLink RX3 25 yJ13_bitCount_95d88, Cond.static yJ13_bitCount_95d88, Cond.initialized RJ13, Cond.code yJ13_bitCount_95d88 cJ13_bitCount_95d88 2 (some .int), Cond.constantLong RJ13 314 (6148914691236517205), Cond.constantLong RJ13 316 (3689348814741910323), Cond.constantLong RJ13 318 (1085102592571150095), Cond.methodLink RX4 59 yX3_judge, Cond.instanceMethod yX3_judge, Cond.selects RX3 yX3_judge yX3_judge, Cond.code yX3_judge cX3_judge 2 none, Cond.methodLink RX0 52 yX2_add, Cond.instanceMethod yX2_add]
def wsX5_judgeAll_r5 : List Cond := [Cond.selects RX2 yX2_add yX2_add, Cond.code yX2_add cX2_add 2 none, Cond.fieldLink RX2 9 "InspectionOffice$History" "refused" "[Z", Cond.fieldLink RX2 23 "InspectionOffice$Lot" "verdict" "I", Cond.fieldLink RX2 15 "InspectionOffice$History" "bad" "[I", Cond.fieldLink RX2 28 "InspectionOffice$Lot" "bad" "I", Cond.methodLink RX0 56 yX0_nextBehind, Cond.instanceMethod yX0_nextBehind, Cond.selects RX0 yX0_nextBehind yX0_nextBehind, Cond.code yX0_nextBehind cX0_nextBehind 4 (some .int), Cond.fieldLink RX0 76 "InspectionOffice$Lot" "bad" "I", Cond.fieldLink RX0 79 "InspectionOffice$Lot" "size" "I", Cond.methodLink RX0 69 yX0_behindNormal, Cond.instanceMethod yX0_behindNormal, Cond.selects RX0 yX0_behindNormal yX0_behindNormal, Cond.code yX0_behindNormal cX0_behindNormal 2 (some .int), Cond.fieldLink RX0 97 "InspectionOffice$Course" "steady" "Z", Cond.methodLink RX0 86 yX2_refusedInLast, Cond.instanceMethod yX2_refusedInLast, Cond.selects RX2 yX2_refusedInLast yX2_refusedInLast, Cond.code yX2_refusedInLast cX2_refusedInLast 5 (some .int), Cond.methodLink RX0 90 yX2_lastWereAccepted, Cond.instanceMethod yX2_lastWereAccepted, Cond.selects RX2 yX2_lastWereAccepted yX2_lastWereAccepted]
def wsX5_judgeAll_r6 : List Cond := [Cond.code yX2_lastWereAccepted cX2_lastWereAccepted 2 (some .boolean), Cond.methodLink RX2 30 yX2_refusedInLast, Cond.methodLink RX0 94 yX2_badInLast, Cond.instanceMethod yX2_badInLast, Cond.selects RX2 yX2_badInLast yX2_badInLast, Cond.code yX2_badInLast cX2_badInLast 5 (some .int), Cond.methodLink RX0 73 yX0_behindTightened, Cond.instanceMethod yX0_behindTightened, Cond.selects RX0 yX0_behindTightened yX0_behindTightened, Cond.code yX0_behindTightened cX0_behindTightened 1 (some .int), Cond.methodLink RX0 82 yX4_acceptingUnder, Cond.methodLink RX0 63 yX0_countForSkipping, Cond.instanceMethod yX0_countForSkipping, Cond.selects RX0 yX0_countForSkipping yX0_countForSkipping, Cond.code yX0_countForSkipping cX0_countForSkipping 2 none, Cond.fieldLink RX0 106 "InspectionOffice$Lot" "verdict" "I"]
def wsX5_judgeAll : List Cond := .code yX5_judgeAll cX5_judgeAll 4 none :: ((wsX5_judgeAll_r1 ++ (wsX5_judgeAll_r2 ++ (wsX5_judgeAll_r3 ++ (wsX5_judgeAll_r4 ++ (wsX5_judgeAll_r5 ++ wsX5_judgeAll_r6))))) ++ wsX50 ++ wsX00 ++ wsX20 ++ wsX30 ++ wsX40)
def wsX5_setPlan_r1 : List Cond := [Cond.classLink RX5 37 "java/lang/IllegalArgumentException", Cond.initialized "java/lang/IllegalArgumentException", Cond.fieldLink RX5 22 "InspectionOffice" "plans" "LInspectionOffice$Plans;", Cond.fieldLink RX5 44 "InspectionOffice$Plans" "level" "I", Cond.fieldLink RX5 48 "InspectionOffice$Plans" "quality" "I", Cond.methodLink RX5 33 yX5_isWithin, Cond.static yX5_isWithin, Cond.initialized RX5, Cond.code yX5_isWithin cX5_isWithin 3 (some .boolean), Cond.methodLink RX5 51 yX5_judgeAll, Cond.instanceMethod yX5_judgeAll, Cond.selects RX5 yX5_judgeAll yX5_judgeAll, Cond.code yX5_judgeAll cX5_judgeAll 4 none, Cond.fieldLink RX5 29 "InspectionOffice" "course" "LInspectionOffice$Course;", Cond.fieldLink RX5 15 "InspectionOffice" "markByOrder" "[Z", Cond.fieldLink RX5 11 "InspectionOffice" "lotByOrder" "[LInspectionOffice$Lot;", Cond.methodLink RX5 164 yX0_restart, Cond.instanceMethod yX0_restart, Cond.selects RX0 yX0_restart yX0_restart, Cond.initialized RX0, Cond.code yX0_restart cX0_restart 1 none, Cond.fieldLink RX0 22 "InspectionOffice$Course" "skipping" "Z", Cond.fieldLink RX0 26 "InspectionOffice$Course" "acceptedInRow" "I", Cond.methodLink RX0 18 yX0_begin]
def wsX5_setPlan_r2 : List Cond := [Cond.instanceMethod yX0_begin, Cond.selects RX0 yX0_begin yX0_begin, Cond.code yX0_begin cX0_begin 2 none, Cond.fieldLink RX0 30 "InspectionOffice$Course" "state" "I", Cond.fieldLink RX0 12 "InspectionOffice$Course" "history" "LInspectionOffice$History;", Cond.methodLink RX0 66 yX2_clear, Cond.instanceMethod yX2_clear, Cond.selects RX2 yX2_clear yX2_clear, Cond.initialized RX2, Cond.code yX2_clear cX2_clear 1 none, Cond.fieldLink RX2 19 "InspectionOffice$History" "length" "I", Cond.methodLink RX5 167 yX0_pass, Cond.instanceMethod yX0_pass, Cond.selects RX0 yX0_pass yX0_pass, Cond.code yX0_pass cX0_pass 5 none, Cond.fieldLink RX0 33 "InspectionOffice$Course" "changedAt" "I", Cond.fieldLink RX0 36 "InspectionOffice$Lot" "state" "I", Cond.fieldLink RX0 60 "InspectionOffice$Lot" "order" "I", Cond.methodLink RX0 39 yX3_leaveUninspected, Cond.instanceMethod yX3_leaveUninspected, Cond.selects RX3 yX3_leaveUninspected yX3_leaveUninspected, Cond.initialized RX3, Cond.code yX3_leaveUninspected cX3_leaveUninspected 2 none, Cond.fieldLink RX3 22 "InspectionOffice$Lot" "inspected" "I"]
def wsX5_setPlan_r3 : List Cond := [Cond.fieldLink RX3 31 "InspectionOffice$Lot" "bad" "I", Cond.fieldLink RX3 34 "InspectionOffice$Lot" "verdict" "I", Cond.methodLink RX0 42 yX0_isPassedOver, Cond.instanceMethod yX0_isPassedOver, Cond.selects RX0 yX0_isPassedOver yX0_isPassedOver, Cond.code yX0_isPassedOver cX0_isPassedOver 1 (some .boolean), Cond.fieldLink RX0 100 "InspectionOffice$Course" "passedInGroup" "I", Cond.fieldLink RX0 103 "InspectionOffice$Course" "rate" "I", Cond.methodLink RX0 46 yX4_inspect, Cond.instanceMethod yX4_inspect, Cond.selects RX4 yX4_inspect yX4_inspect, Cond.initialized RX4, Cond.code yX4_inspect cX4_inspect 5 none, Cond.fieldLink RX4 32 "InspectionOffice$Lot" "size" "I", Cond.fieldLink RX4 44 "InspectionOffice$Plans" "twice" "Z", Cond.fieldLink RX4 56 "InspectionOffice$Lot" "bad" "I", Cond.methodLink RX4 37 yX4_sampleUnder, Cond.instanceMethod yX4_sampleUnder, Cond.selects RX4 yX4_sampleUnder yX4_sampleUnder, Cond.code yX4_sampleUnder cX4_sampleUnder 4 (some .int), Cond.methodLink RX4 26 yX4_letterFor, Cond.instanceMethod yX4_letterFor, Cond.selects RX4 yX4_letterFor yX4_letterFor, Cond.code yX4_letterFor cX4_letterFor 7 (some .int)]
def wsX5_setPlan_r4 : List Cond := [Cond.fieldLink RX4 9 "InspectionOffice$Plans" "level" "I", Cond.fieldLink RX4 18 "InspectionOffice$Plans" "LARGEST_OF_CLASS" "[I", Cond.methodLink RX4 22 yX4_sampleOf, Cond.static yX4_sampleOf, Cond.code yX4_sampleOf cX4_sampleOf 2 (some .int), Cond.fieldLink RX4 29 "InspectionOffice$Plans" "SAMPLE_OF_LETTER" "[I", Cond.methodLink RX4 41 yX4_acceptingUnder, Cond.instanceMethod yX4_acceptingUnder, Cond.selects RX4 yX4_acceptingUnder yX4_acceptingUnder, Cond.code yX4_acceptingUnder cX4_acceptingUnder 4 (some .int), Cond.fieldLink RX4 15 "InspectionOffice$Plans" "quality" "I", Cond.methodLink RX4 48 yX4_inspectTwice, Cond.static yX4_inspectTwice, Cond.code yX4_inspectTwice cX4_inspectTwice 5 none, Cond.methodLink RX4 63 Lib.Math.min.name, Cond.static Lib.Math.min.name, Cond.initialized "java/lang/Math", Cond.code Lib.Math.min.name Lib.Math.min.code 2 (some .int), Cond.methodLink RX4 52 yX3_inspectFirst, Cond.instanceMethod yX3_inspectFirst, Cond.selects RX3 yX3_inspectFirst yX3_inspectFirst, Cond.code yX3_inspectFirst cX3_inspectFirst 2 none, Cond.fieldLink RX3 18 "InspectionOffice$Lot" "findings" "J", Cond.methodLink RX3 25 yJ13_bitCount_95d88]
def wsX5_setPlan_r5 : List Cond := [Cond.static yJ13_bitCount_95d88, Cond.initialized RJ13, Cond.code yJ13_bitCount_95d88 cJ13_bitCount_95d88 2 (some .int), Cond.constantLong RJ13 314 (6148914691236517205), Cond.constantLong RJ13 316 (3689348814741910323), Cond.constantLong RJ13 318 (1085102592571150095), Cond.methodLink RX4 59 yX3_judge, Cond.instanceMethod yX3_judge, Cond.selects RX3 yX3_judge yX3_judge, Cond.code yX3_judge cX3_judge 2 none, Cond.methodLink RX0 52 yX2_add, Cond.instanceMethod yX2_add, Cond.selects RX2 yX2_add yX2_add, Cond.code yX2_add cX2_add 2 none, Cond.fieldLink RX2 9 "InspectionOffice$History" "refused" "[Z", Cond.fieldLink RX2 23 "InspectionOffice$Lot" "verdict" "I", Cond.fieldLink RX2 15 "InspectionOffice$History" "bad" "[I", Cond.fieldLink RX2 28 "InspectionOffice$Lot" "bad" "I", Cond.methodLink RX0 56 yX0_nextBehind, Cond.instanceMethod yX0_nextBehind, Cond.selects RX0 yX0_nextBehind yX0_nextBehind, Cond.code yX0_nextBehind cX0_nextBehind 4 (some .int), Cond.fieldLink RX0 76 "InspectionOffice$Lot" "bad" "I", Cond.fieldLink RX0 79 "InspectionOffice$Lot" "size" "I"]
def wsX5_setPlan_r6 : List Cond := [Cond.methodLink RX0 69 yX0_behindNormal, Cond.instanceMethod yX0_behindNormal, Cond.selects RX0 yX0_behindNormal yX0_behindNormal, Cond.code yX0_behindNormal cX0_behindNormal 2 (some .int), Cond.fieldLink RX0 97 "InspectionOffice$Course" "steady" "Z", Cond.methodLink RX0 86 yX2_refusedInLast, Cond.instanceMethod yX2_refusedInLast, Cond.selects RX2 yX2_refusedInLast yX2_refusedInLast, Cond.code yX2_refusedInLast cX2_refusedInLast 5 (some .int), Cond.methodLink RX0 90 yX2_lastWereAccepted, Cond.instanceMethod yX2_lastWereAccepted, Cond.selects RX2 yX2_lastWereAccepted yX2_lastWereAccepted, Cond.code yX2_lastWereAccepted cX2_lastWereAccepted 2 (some .boolean), Cond.methodLink RX2 30 yX2_refusedInLast, Cond.methodLink RX0 94 yX2_badInLast, Cond.instanceMethod yX2_badInLast, Cond.selects RX2 yX2_badInLast yX2_badInLast, Cond.code yX2_badInLast cX2_badInLast 5 (some .int), Cond.methodLink RX0 73 yX0_behindTightened, Cond.instanceMethod yX0_behindTightened, Cond.selects RX0 yX0_behindTightened yX0_behindTightened, Cond.code yX0_behindTightened cX0_behindTightened 1 (some .int), Cond.methodLink RX0 82 yX4_acceptingUnder, Cond.methodLink RX0 63 yX0_countForSkipping]
def wsX5_setPlan_r7 : List Cond := [Cond.instanceMethod yX0_countForSkipping, Cond.selects RX0 yX0_countForSkipping yX0_countForSkipping, Cond.code yX0_countForSkipping cX0_countForSkipping 2 none, Cond.fieldLink RX0 106 "InspectionOffice$Lot" "verdict" "I"]
def wsX5_setPlan : List Cond := .code yX5_setPlan cX5_setPlan 3 none :: ((wsX5_setPlan_r1 ++ (wsX5_setPlan_r2 ++ (wsX5_setPlan_r3 ++ (wsX5_setPlan_r4 ++ (wsX5_setPlan_r5 ++ (wsX5_setPlan_r6 ++ wsX5_setPlan_r7)))))) ++ wsX50 ++ wsX40 ++ wsX00 ++ wsX20 ++ wsX30 ++ (vx_atS RX5 41 "java/lang/IllegalArgumentException" ["java/lang/RuntimeException", "java/lang/Exception"]).filter goodWord)
def wsX5_setWays_r1 : List Cond := [Cond.classLink RX5 37 "java/lang/IllegalArgumentException", Cond.initialized "java/lang/IllegalArgumentException", Cond.fieldLink RX5 22 "InspectionOffice" "plans" "LInspectionOffice$Plans;", Cond.fieldLink RX5 56 "InspectionOffice$Plans" "twice" "Z", Cond.fieldLink RX5 29 "InspectionOffice" "course" "LInspectionOffice$Course;", Cond.fieldLink RX5 60 "InspectionOffice$Course" "steady" "Z", Cond.fieldLink RX5 63 "InspectionOffice$Course" "rate" "I", Cond.methodLink RX5 33 yX5_isWithin, Cond.static yX5_isWithin, Cond.initialized RX5, Cond.code yX5_isWithin cX5_isWithin 3 (some .boolean), Cond.methodLink RX5 51 yX5_judgeAll, Cond.instanceMethod yX5_judgeAll, Cond.selects RX5 yX5_judgeAll yX5_judgeAll, Cond.code yX5_judgeAll cX5_judgeAll 4 none, Cond.fieldLink RX5 15 "InspectionOffice" "markByOrder" "[Z", Cond.fieldLink RX5 11 "InspectionOffice" "lotByOrder" "[LInspectionOffice$Lot;", Cond.methodLink RX5 164 yX0_restart, Cond.instanceMethod yX0_restart, Cond.selects RX0 yX0_restart yX0_restart, Cond.initialized RX0, Cond.code yX0_restart cX0_restart 1 none, Cond.fieldLink RX0 22 "InspectionOffice$Course" "skipping" "Z", Cond.fieldLink RX0 26 "InspectionOffice$Course" "acceptedInRow" "I"]
def wsX5_setWays_r2 : List Cond := [Cond.methodLink RX0 18 yX0_begin, Cond.instanceMethod yX0_begin, Cond.selects RX0 yX0_begin yX0_begin, Cond.code yX0_begin cX0_begin 2 none, Cond.fieldLink RX0 30 "InspectionOffice$Course" "state" "I", Cond.fieldLink RX0 12 "InspectionOffice$Course" "history" "LInspectionOffice$History;", Cond.methodLink RX0 66 yX2_clear, Cond.instanceMethod yX2_clear, Cond.selects RX2 yX2_clear yX2_clear, Cond.initialized RX2, Cond.code yX2_clear cX2_clear 1 none, Cond.fieldLink RX2 19 "InspectionOffice$History" "length" "I", Cond.methodLink RX5 167 yX0_pass, Cond.instanceMethod yX0_pass, Cond.selects RX0 yX0_pass yX0_pass, Cond.code yX0_pass cX0_pass 5 none, Cond.fieldLink RX0 33 "InspectionOffice$Course" "changedAt" "I", Cond.fieldLink RX0 36 "InspectionOffice$Lot" "state" "I", Cond.fieldLink RX0 60 "InspectionOffice$Lot" "order" "I", Cond.methodLink RX0 39 yX3_leaveUninspected, Cond.instanceMethod yX3_leaveUninspected, Cond.selects RX3 yX3_leaveUninspected yX3_leaveUninspected, Cond.initialized RX3, Cond.code yX3_leaveUninspected cX3_leaveUninspected 2 none]
def wsX5_setWays_r3 : List Cond := [Cond.fieldLink RX3 22 "InspectionOffice$Lot" "inspected" "I", Cond.fieldLink RX3 31 "InspectionOffice$Lot" "bad" "I", Cond.fieldLink RX3 34 "InspectionOffice$Lot" "verdict" "I", Cond.methodLink RX0 42 yX0_isPassedOver, Cond.instanceMethod yX0_isPassedOver, Cond.selects RX0 yX0_isPassedOver yX0_isPassedOver, Cond.code yX0_isPassedOver cX0_isPassedOver 1 (some .boolean), Cond.fieldLink RX0 100 "InspectionOffice$Course" "passedInGroup" "I", Cond.fieldLink RX0 103 "InspectionOffice$Course" "rate" "I", Cond.methodLink RX0 46 yX4_inspect, Cond.instanceMethod yX4_inspect, Cond.selects RX4 yX4_inspect yX4_inspect, Cond.initialized RX4, Cond.code yX4_inspect cX4_inspect 5 none, Cond.fieldLink RX4 32 "InspectionOffice$Lot" "size" "I", Cond.fieldLink RX4 44 "InspectionOffice$Plans" "twice" "Z", Cond.fieldLink RX4 56 "InspectionOffice$Lot" "bad" "I", Cond.methodLink RX4 37 yX4_sampleUnder, Cond.instanceMethod yX4_sampleUnder, Cond.selects RX4 yX4_sampleUnder yX4_sampleUnder, Cond.code yX4_sampleUnder cX4_sampleUnder 4 (some .int), Cond.methodLink RX4 26 yX4_letterFor, Cond.instanceMethod yX4_letterFor, Cond.selects RX4 yX4_letterFor yX4_letterFor]
def wsX5_setWays_r4 : List Cond := [Cond.code yX4_letterFor cX4_letterFor 7 (some .int), Cond.fieldLink RX4 9 "InspectionOffice$Plans" "level" "I", Cond.fieldLink RX4 18 "InspectionOffice$Plans" "LARGEST_OF_CLASS" "[I", Cond.methodLink RX4 22 yX4_sampleOf, Cond.static yX4_sampleOf, Cond.code yX4_sampleOf cX4_sampleOf 2 (some .int), Cond.fieldLink RX4 29 "InspectionOffice$Plans" "SAMPLE_OF_LETTER" "[I", Cond.methodLink RX4 41 yX4_acceptingUnder, Cond.instanceMethod yX4_acceptingUnder, Cond.selects RX4 yX4_acceptingUnder yX4_acceptingUnder, Cond.code yX4_acceptingUnder cX4_acceptingUnder 4 (some .int), Cond.fieldLink RX4 15 "InspectionOffice$Plans" "quality" "I", Cond.methodLink RX4 48 yX4_inspectTwice, Cond.static yX4_inspectTwice, Cond.code yX4_inspectTwice cX4_inspectTwice 5 none, Cond.methodLink RX4 63 Lib.Math.min.name, Cond.static Lib.Math.min.name, Cond.initialized "java/lang/Math", Cond.code Lib.Math.min.name Lib.Math.min.code 2 (some .int), Cond.methodLink RX4 52 yX3_inspectFirst, Cond.instanceMethod yX3_inspectFirst, Cond.selects RX3 yX3_inspectFirst yX3_inspectFirst, Cond.code yX3_inspectFirst cX3_inspectFirst 2 none, Cond.fieldLink RX3 18 "InspectionOffice$Lot" "findings" "J"]
def wsX5_setWays_r5 : List Cond := [Cond.methodLink RX3 25 yJ13_bitCount_95d88, Cond.static yJ13_bitCount_95d88, Cond.initialized RJ13, Cond.code yJ13_bitCount_95d88 cJ13_bitCount_95d88 2 (some .int), Cond.constantLong RJ13 314 (6148914691236517205), Cond.constantLong RJ13 316 (3689348814741910323), Cond.constantLong RJ13 318 (1085102592571150095), Cond.methodLink RX4 59 yX3_judge, Cond.instanceMethod yX3_judge, Cond.selects RX3 yX3_judge yX3_judge, Cond.code yX3_judge cX3_judge 2 none, Cond.methodLink RX0 52 yX2_add, Cond.instanceMethod yX2_add, Cond.selects RX2 yX2_add yX2_add, Cond.code yX2_add cX2_add 2 none, Cond.fieldLink RX2 9 "InspectionOffice$History" "refused" "[Z", Cond.fieldLink RX2 23 "InspectionOffice$Lot" "verdict" "I", Cond.fieldLink RX2 15 "InspectionOffice$History" "bad" "[I", Cond.fieldLink RX2 28 "InspectionOffice$Lot" "bad" "I", Cond.methodLink RX0 56 yX0_nextBehind, Cond.instanceMethod yX0_nextBehind, Cond.selects RX0 yX0_nextBehind yX0_nextBehind, Cond.code yX0_nextBehind cX0_nextBehind 4 (some .int), Cond.fieldLink RX0 76 "InspectionOffice$Lot" "bad" "I"]
def wsX5_setWays_r6 : List Cond := [Cond.fieldLink RX0 79 "InspectionOffice$Lot" "size" "I", Cond.methodLink RX0 69 yX0_behindNormal, Cond.instanceMethod yX0_behindNormal, Cond.selects RX0 yX0_behindNormal yX0_behindNormal, Cond.code yX0_behindNormal cX0_behindNormal 2 (some .int), Cond.fieldLink RX0 97 "InspectionOffice$Course" "steady" "Z", Cond.methodLink RX0 86 yX2_refusedInLast, Cond.instanceMethod yX2_refusedInLast, Cond.selects RX2 yX2_refusedInLast yX2_refusedInLast, Cond.code yX2_refusedInLast cX2_refusedInLast 5 (some .int), Cond.methodLink RX0 90 yX2_lastWereAccepted, Cond.instanceMethod yX2_lastWereAccepted, Cond.selects RX2 yX2_lastWereAccepted yX2_lastWereAccepted, Cond.code yX2_lastWereAccepted cX2_lastWereAccepted 2 (some .boolean), Cond.methodLink RX2 30 yX2_refusedInLast, Cond.methodLink RX0 94 yX2_badInLast, Cond.instanceMethod yX2_badInLast, Cond.selects RX2 yX2_badInLast yX2_badInLast, Cond.code yX2_badInLast cX2_badInLast 5 (some .int), Cond.methodLink RX0 73 yX0_behindTightened, Cond.instanceMethod yX0_behindTightened, Cond.selects RX0 yX0_behindTightened yX0_behindTightened, Cond.code yX0_behindTightened cX0_behindTightened 1 (some .int), Cond.methodLink RX0 82 yX4_acceptingUnder]
def wsX5_setWays_r7 : List Cond := [Cond.methodLink RX0 63 yX0_countForSkipping, Cond.instanceMethod yX0_countForSkipping, Cond.selects RX0 yX0_countForSkipping yX0_countForSkipping, Cond.code yX0_countForSkipping cX0_countForSkipping 2 none, Cond.fieldLink RX0 106 "InspectionOffice$Lot" "verdict" "I"]
def wsX5_setWays : List Cond := .code yX5_setWays cX5_setWays 4 none :: ((wsX5_setWays_r1 ++ (wsX5_setWays_r2 ++ (wsX5_setWays_r3 ++ (wsX5_setWays_r4 ++ (wsX5_setWays_r5 ++ (wsX5_setWays_r6 ++ wsX5_setWays_r7)))))) ++ wsX50 ++ wsX40 ++ wsX00 ++ wsX20 ++ wsX30 ++ (vx_atS RX5 41 "java/lang/IllegalArgumentException" ["java/lang/RuntimeException", "java/lang/Exception"]).filter goodWord)
def wsX5_isOrder : List Cond := .code yX5_isOrder cX5_isOrder 1 (some .boolean) :: ([])
def wsX5_toggleMark_r1 : List Cond := [Cond.classLink RX5 37 "java/lang/IllegalArgumentException", Cond.initialized "java/lang/IllegalArgumentException", Cond.fieldLink RX5 15 "InspectionOffice" "markByOrder" "[Z", Cond.methodLink RX5 66 yX5_isOrder, Cond.static yX5_isOrder, Cond.initialized RX5, Cond.code yX5_isOrder cX5_isOrder 1 (some .boolean), Cond.methodLink RX5 51 yX5_judgeAll, Cond.instanceMethod yX5_judgeAll, Cond.selects RX5 yX5_judgeAll yX5_judgeAll, Cond.code yX5_judgeAll cX5_judgeAll 4 none, Cond.fieldLink RX5 29 "InspectionOffice" "course" "LInspectionOffice$Course;", Cond.fieldLink RX5 11 "InspectionOffice" "lotByOrder" "[LInspectionOffice$Lot;", Cond.fieldLink RX5 22 "InspectionOffice" "plans" "LInspectionOffice$Plans;", Cond.methodLink RX5 164 yX0_restart, Cond.instanceMethod yX0_restart, Cond.selects RX0 yX0_restart yX0_restart, Cond.initialized RX0, Cond.code yX0_restart cX0_restart 1 none, Cond.fieldLink RX0 22 "InspectionOffice$Course" "skipping" "Z", Cond.fieldLink RX0 26 "InspectionOffice$Course" "acceptedInRow" "I", Cond.methodLink RX0 18 yX0_begin, Cond.instanceMethod yX0_begin, Cond.selects RX0 yX0_begin yX0_begin]
def wsX5_toggleMark_r2 : List Cond := [Cond.code yX0_begin cX0_begin 2 none, Cond.fieldLink RX0 30 "InspectionOffice$Course" "state" "I", Cond.fieldLink RX0 12 "InspectionOffice$Course" "history" "LInspectionOffice$History;", Cond.methodLink RX0 66 yX2_clear, Cond.instanceMethod yX2_clear, Cond.selects RX2 yX2_clear yX2_clear, Cond.initialized RX2, Cond.code yX2_clear cX2_clear 1 none, Cond.fieldLink RX2 19 "InspectionOffice$History" "length" "I", Cond.methodLink RX5 167 yX0_pass, Cond.instanceMethod yX0_pass, Cond.selects RX0 yX0_pass yX0_pass, Cond.code yX0_pass cX0_pass 5 none, Cond.fieldLink RX0 33 "InspectionOffice$Course" "changedAt" "I", Cond.fieldLink RX0 36 "InspectionOffice$Lot" "state" "I", Cond.fieldLink RX0 60 "InspectionOffice$Lot" "order" "I", Cond.methodLink RX0 39 yX3_leaveUninspected, Cond.instanceMethod yX3_leaveUninspected, Cond.selects RX3 yX3_leaveUninspected yX3_leaveUninspected, Cond.initialized RX3, Cond.code yX3_leaveUninspected cX3_leaveUninspected 2 none, Cond.fieldLink RX3 22 "InspectionOffice$Lot" "inspected" "I", Cond.fieldLink RX3 31 "InspectionOffice$Lot" "bad" "I", Cond.fieldLink RX3 34 "InspectionOffice$Lot" "verdict" "I"]
def wsX5_toggleMark_r3 : List Cond := [Cond.methodLink RX0 42 yX0_isPassedOver, Cond.instanceMethod yX0_isPassedOver, Cond.selects RX0 yX0_isPassedOver yX0_isPassedOver, Cond.code yX0_isPassedOver cX0_isPassedOver 1 (some .boolean), Cond.fieldLink RX0 100 "InspectionOffice$Course" "passedInGroup" "I", Cond.fieldLink RX0 103 "InspectionOffice$Course" "rate" "I", Cond.methodLink RX0 46 yX4_inspect, Cond.instanceMethod yX4_inspect, Cond.selects RX4 yX4_inspect yX4_inspect, Cond.initialized RX4, Cond.code yX4_inspect cX4_inspect 5 none, Cond.fieldLink RX4 32 "InspectionOffice$Lot" "size" "I", Cond.fieldLink RX4 44 "InspectionOffice$Plans" "twice" "Z", Cond.fieldLink RX4 56 "InspectionOffice$Lot" "bad" "I", Cond.methodLink RX4 37 yX4_sampleUnder, Cond.instanceMethod yX4_sampleUnder, Cond.selects RX4 yX4_sampleUnder yX4_sampleUnder, Cond.code yX4_sampleUnder cX4_sampleUnder 4 (some .int), Cond.methodLink RX4 26 yX4_letterFor, Cond.instanceMethod yX4_letterFor, Cond.selects RX4 yX4_letterFor yX4_letterFor, Cond.code yX4_letterFor cX4_letterFor 7 (some .int), Cond.fieldLink RX4 9 "InspectionOffice$Plans" "level" "I", Cond.fieldLink RX4 18 "InspectionOffice$Plans" "LARGEST_OF_CLASS" "[I"]
def wsX5_toggleMark_r4 : List Cond := [Cond.methodLink RX4 22 yX4_sampleOf, Cond.static yX4_sampleOf, Cond.code yX4_sampleOf cX4_sampleOf 2 (some .int), Cond.fieldLink RX4 29 "InspectionOffice$Plans" "SAMPLE_OF_LETTER" "[I", Cond.methodLink RX4 41 yX4_acceptingUnder, Cond.instanceMethod yX4_acceptingUnder, Cond.selects RX4 yX4_acceptingUnder yX4_acceptingUnder, Cond.code yX4_acceptingUnder cX4_acceptingUnder 4 (some .int), Cond.fieldLink RX4 15 "InspectionOffice$Plans" "quality" "I", Cond.methodLink RX4 48 yX4_inspectTwice, Cond.static yX4_inspectTwice, Cond.code yX4_inspectTwice cX4_inspectTwice 5 none, Cond.methodLink RX4 63 Lib.Math.min.name, Cond.static Lib.Math.min.name, Cond.initialized "java/lang/Math", Cond.code Lib.Math.min.name Lib.Math.min.code 2 (some .int), Cond.methodLink RX4 52 yX3_inspectFirst, Cond.instanceMethod yX3_inspectFirst, Cond.selects RX3 yX3_inspectFirst yX3_inspectFirst, Cond.code yX3_inspectFirst cX3_inspectFirst 2 none, Cond.fieldLink RX3 18 "InspectionOffice$Lot" "findings" "J", Cond.methodLink RX3 25 yJ13_bitCount_95d88, Cond.static yJ13_bitCount_95d88, Cond.initialized RJ13]
def wsX5_toggleMark_r5 : List Cond := [Cond.code yJ13_bitCount_95d88 cJ13_bitCount_95d88 2 (some .int), Cond.constantLong RJ13 314 (6148914691236517205), Cond.constantLong RJ13 316 (3689348814741910323), Cond.constantLong RJ13 318 (1085102592571150095), Cond.methodLink RX4 59 yX3_judge, Cond.instanceMethod yX3_judge, Cond.selects RX3 yX3_judge yX3_judge, Cond.code yX3_judge cX3_judge 2 none, Cond.methodLink RX0 52 yX2_add, Cond.instanceMethod yX2_add, Cond.selects RX2 yX2_add yX2_add, Cond.code yX2_add cX2_add 2 none, Cond.fieldLink RX2 9 "InspectionOffice$History" "refused" "[Z", Cond.fieldLink RX2 23 "InspectionOffice$Lot" "verdict" "I", Cond.fieldLink RX2 15 "InspectionOffice$History" "bad" "[I", Cond.fieldLink RX2 28 "InspectionOffice$Lot" "bad" "I", Cond.methodLink RX0 56 yX0_nextBehind, Cond.instanceMethod yX0_nextBehind, Cond.selects RX0 yX0_nextBehind yX0_nextBehind, Cond.code yX0_nextBehind cX0_nextBehind 4 (some .int), Cond.fieldLink RX0 76 "InspectionOffice$Lot" "bad" "I", Cond.fieldLink RX0 79 "InspectionOffice$Lot" "size" "I", Cond.methodLink RX0 69 yX0_behindNormal, Cond.instanceMethod yX0_behindNormal]
def wsX5_toggleMark_r6 : List Cond := [Cond.selects RX0 yX0_behindNormal yX0_behindNormal, Cond.code yX0_behindNormal cX0_behindNormal 2 (some .int), Cond.fieldLink RX0 97 "InspectionOffice$Course" "steady" "Z", Cond.methodLink RX0 86 yX2_refusedInLast, Cond.instanceMethod yX2_refusedInLast, Cond.selects RX2 yX2_refusedInLast yX2_refusedInLast, Cond.code yX2_refusedInLast cX2_refusedInLast 5 (some .int), Cond.methodLink RX0 90 yX2_lastWereAccepted, Cond.instanceMethod yX2_lastWereAccepted, Cond.selects RX2 yX2_lastWereAccepted yX2_lastWereAccepted, Cond.code yX2_lastWereAccepted cX2_lastWereAccepted 2 (some .boolean), Cond.methodLink RX2 30 yX2_refusedInLast, Cond.methodLink RX0 94 yX2_badInLast, Cond.instanceMethod yX2_badInLast, Cond.selects RX2 yX2_badInLast yX2_badInLast, Cond.code yX2_badInLast cX2_badInLast 5 (some .int), Cond.methodLink RX0 73 yX0_behindTightened, Cond.instanceMethod yX0_behindTightened, Cond.selects RX0 yX0_behindTightened yX0_behindTightened, Cond.code yX0_behindTightened cX0_behindTightened 1 (some .int), Cond.methodLink RX0 82 yX4_acceptingUnder, Cond.methodLink RX0 63 yX0_countForSkipping, Cond.instanceMethod yX0_countForSkipping, Cond.selects RX0 yX0_countForSkipping yX0_countForSkipping]
def wsX5_toggleMark_r7 : List Cond := [Cond.code yX0_countForSkipping cX0_countForSkipping 2 none, Cond.fieldLink RX0 106 "InspectionOffice$Lot" "verdict" "I"]
def wsX5_toggleMark : List Cond := .code yX5_toggleMark cX5_toggleMark 2 (some .boolean) :: ((wsX5_toggleMark_r1 ++ (wsX5_toggleMark_r2 ++ (wsX5_toggleMark_r3 ++ (wsX5_toggleMark_r4 ++ (wsX5_toggleMark_r5 ++ (wsX5_toggleMark_r6 ++ wsX5_toggleMark_r7)))))) ++ wsX50 ++ wsX00 ++ wsX20 ++ wsX30 ++ wsX40 ++ (vx_atS RX5 41 "java/lang/IllegalArgumentException" ["java/lang/RuntimeException", "java/lang/Exception"]).filter goodWord)
def wsX5_isLotSize : List Cond := .code yX5_isLotSize cX5_isLotSize 1 (some .boolean) :: ([.methodLink RX5 33 yX5_isWithin, .static yX5_isWithin, .initialized RX5, .code yX5_isWithin cX5_isWithin 3 (some .boolean)])
def wsX5_isFindings : List Cond := .code yX5_isFindings cX5_isFindings 2 (some .boolean) :: ([.constantLong RX5 162 (1125899906842623)])
def wsX5_record_r1 : List Cond := [Cond.classLink RX5 37 "java/lang/IllegalArgumentException", Cond.initialized "java/lang/IllegalArgumentException", Cond.classLink RX5 84 "java/lang/IllegalStateException", Cond.initialized "java/lang/IllegalStateException", Cond.fieldLink RX5 11 "InspectionOffice" "lotByOrder" "[LInspectionOffice$Lot;", Cond.fieldLink RX5 81 "InspectionOffice" "lotCount" "I", Cond.classLink RX5 9 RX3, Cond.instantiable RX3 7, Cond.initialized RX3, Cond.methodLink RX5 66 yX5_isOrder, Cond.static yX5_isOrder, Cond.initialized RX5, Cond.code yX5_isOrder cX5_isOrder 1 (some .boolean), Cond.methodLink RX5 72 yX5_isLotSize, Cond.static yX5_isLotSize, Cond.code yX5_isLotSize cX5_isLotSize 1 (some .boolean), Cond.methodLink RX5 33 yX5_isWithin, Cond.static yX5_isWithin, Cond.code yX5_isWithin cX5_isWithin 3 (some .boolean), Cond.methodLink RX5 75 yX5_isFindings, Cond.static yX5_isFindings, Cond.code yX5_isFindings cX5_isFindings 2 (some .boolean), Cond.constantLong RX5 162 (1125899906842623), Cond.methodLink RX5 89 yX3_init]
def wsX5_record_r2 : List Cond := [Cond.instanceMethod yX3_init, Cond.code yX3_init cX3_init 5 none, Cond.methodLink RX3 3 objectInit, Cond.instanceMethod objectInit, Cond.code objectInit ⟨#[0xb1]⟩ 1 none, Cond.fieldLink RX3 9 "InspectionOffice$Lot" "order" "I", Cond.fieldLink RX3 15 "InspectionOffice$Lot" "size" "I", Cond.fieldLink RX3 18 "InspectionOffice$Lot" "findings" "J", Cond.methodLink RX5 51 yX5_judgeAll, Cond.instanceMethod yX5_judgeAll, Cond.selects RX5 yX5_judgeAll yX5_judgeAll, Cond.code yX5_judgeAll cX5_judgeAll 4 none, Cond.fieldLink RX5 29 "InspectionOffice" "course" "LInspectionOffice$Course;", Cond.fieldLink RX5 15 "InspectionOffice" "markByOrder" "[Z", Cond.fieldLink RX5 22 "InspectionOffice" "plans" "LInspectionOffice$Plans;", Cond.methodLink RX5 164 yX0_restart, Cond.instanceMethod yX0_restart, Cond.selects RX0 yX0_restart yX0_restart, Cond.initialized RX0, Cond.code yX0_restart cX0_restart 1 none, Cond.fieldLink RX0 22 "InspectionOffice$Course" "skipping" "Z", Cond.fieldLink RX0 26 "InspectionOffice$Course" "acceptedInRow" "I", Cond.methodLink RX0 18 yX0_begin, Cond.instanceMethod yX0_begin]
def wsX5_record_r3 : List Cond := [Cond.selects RX0 yX0_begin yX0_begin, Cond.code yX0_begin cX0_begin 2 none, Cond.fieldLink RX0 30 "InspectionOffice$Course" "state" "I", Cond.fieldLink RX0 12 "InspectionOffice$Course" "history" "LInspectionOffice$History;", Cond.methodLink RX0 66 yX2_clear, Cond.instanceMethod yX2_clear, Cond.selects RX2 yX2_clear yX2_clear, Cond.initialized RX2, Cond.code yX2_clear cX2_clear 1 none, Cond.fieldLink RX2 19 "InspectionOffice$History" "length" "I", Cond.methodLink RX5 167 yX0_pass, Cond.instanceMethod yX0_pass, Cond.selects RX0 yX0_pass yX0_pass, Cond.code yX0_pass cX0_pass 5 none, Cond.fieldLink RX0 33 "InspectionOffice$Course" "changedAt" "I", Cond.fieldLink RX0 36 "InspectionOffice$Lot" "state" "I", Cond.fieldLink RX0 60 "InspectionOffice$Lot" "order" "I", Cond.methodLink RX0 39 yX3_leaveUninspected, Cond.instanceMethod yX3_leaveUninspected, Cond.selects RX3 yX3_leaveUninspected yX3_leaveUninspected, Cond.code yX3_leaveUninspected cX3_leaveUninspected 2 none, Cond.fieldLink RX3 22 "InspectionOffice$Lot" "inspected" "I", Cond.fieldLink RX3 31 "InspectionOffice$Lot" "bad" "I", Cond.fieldLink RX3 34 "InspectionOffice$Lot" "verdict" "I"]
def wsX5_record_r4 : List Cond := [Cond.methodLink RX0 42 yX0_isPassedOver, Cond.instanceMethod yX0_isPassedOver, Cond.selects RX0 yX0_isPassedOver yX0_isPassedOver, Cond.code yX0_isPassedOver cX0_isPassedOver 1 (some .boolean), Cond.fieldLink RX0 100 "InspectionOffice$Course" "passedInGroup" "I", Cond.fieldLink RX0 103 "InspectionOffice$Course" "rate" "I", Cond.methodLink RX0 46 yX4_inspect, Cond.instanceMethod yX4_inspect, Cond.selects RX4 yX4_inspect yX4_inspect, Cond.initialized RX4, Cond.code yX4_inspect cX4_inspect 5 none, Cond.fieldLink RX4 32 "InspectionOffice$Lot" "size" "I", Cond.fieldLink RX4 44 "InspectionOffice$Plans" "twice" "Z", Cond.fieldLink RX4 56 "InspectionOffice$Lot" "bad" "I", Cond.methodLink RX4 37 yX4_sampleUnder, Cond.instanceMethod yX4_sampleUnder, Cond.selects RX4 yX4_sampleUnder yX4_sampleUnder, Cond.code yX4_sampleUnder cX4_sampleUnder 4 (some .int), Cond.methodLink RX4 26 yX4_letterFor, Cond.instanceMethod yX4_letterFor, Cond.selects RX4 yX4_letterFor yX4_letterFor, Cond.code yX4_letterFor cX4_letterFor 7 (some .int), Cond.fieldLink RX4 9 "InspectionOffice$Plans" "level" "I", Cond.fieldLink RX4 18 "InspectionOffice$Plans" "LARGEST_OF_CLASS" "[I"]
def wsX5_record_r5 : List Cond := [Cond.methodLink RX4 22 yX4_sampleOf, Cond.static yX4_sampleOf, Cond.code yX4_sampleOf cX4_sampleOf 2 (some .int), Cond.fieldLink RX4 29 "InspectionOffice$Plans" "SAMPLE_OF_LETTER" "[I", Cond.methodLink RX4 41 yX4_acceptingUnder, Cond.instanceMethod yX4_acceptingUnder, Cond.selects RX4 yX4_acceptingUnder yX4_acceptingUnder, Cond.code yX4_acceptingUnder cX4_acceptingUnder 4 (some .int), Cond.fieldLink RX4 15 "InspectionOffice$Plans" "quality" "I", Cond.methodLink RX4 48 yX4_inspectTwice, Cond.static yX4_inspectTwice, Cond.code yX4_inspectTwice cX4_inspectTwice 5 none, Cond.methodLink RX4 63 Lib.Math.min.name, Cond.static Lib.Math.min.name, Cond.initialized "java/lang/Math", Cond.code Lib.Math.min.name Lib.Math.min.code 2 (some .int), Cond.methodLink RX4 52 yX3_inspectFirst, Cond.instanceMethod yX3_inspectFirst, Cond.selects RX3 yX3_inspectFirst yX3_inspectFirst, Cond.code yX3_inspectFirst cX3_inspectFirst 2 none, Cond.methodLink RX3 25 yJ13_bitCount_95d88, Cond.static yJ13_bitCount_95d88, Cond.initialized RJ13, Cond.code yJ13_bitCount_95d88 cJ13_bitCount_95d88 2 (some .int)]
def wsX5_record_r6 : List Cond := [Cond.constantLong RJ13 314 (6148914691236517205), Cond.constantLong RJ13 316 (3689348814741910323), Cond.constantLong RJ13 318 (1085102592571150095), Cond.methodLink RX4 59 yX3_judge, Cond.instanceMethod yX3_judge, Cond.selects RX3 yX3_judge yX3_judge, Cond.code yX3_judge cX3_judge 2 none, Cond.methodLink RX0 52 yX2_add, Cond.instanceMethod yX2_add, Cond.selects RX2 yX2_add yX2_add, Cond.code yX2_add cX2_add 2 none, Cond.fieldLink RX2 9 "InspectionOffice$History" "refused" "[Z", Cond.fieldLink RX2 23 "InspectionOffice$Lot" "verdict" "I", Cond.fieldLink RX2 15 "InspectionOffice$History" "bad" "[I", Cond.fieldLink RX2 28 "InspectionOffice$Lot" "bad" "I", Cond.methodLink RX0 56 yX0_nextBehind, Cond.instanceMethod yX0_nextBehind, Cond.selects RX0 yX0_nextBehind yX0_nextBehind, Cond.code yX0_nextBehind cX0_nextBehind 4 (some .int), Cond.fieldLink RX0 76 "InspectionOffice$Lot" "bad" "I", Cond.fieldLink RX0 79 "InspectionOffice$Lot" "size" "I", Cond.methodLink RX0 69 yX0_behindNormal, Cond.instanceMethod yX0_behindNormal, Cond.selects RX0 yX0_behindNormal yX0_behindNormal]
def wsX5_record_r7 : List Cond := [Cond.code yX0_behindNormal cX0_behindNormal 2 (some .int), Cond.fieldLink RX0 97 "InspectionOffice$Course" "steady" "Z", Cond.methodLink RX0 86 yX2_refusedInLast, Cond.instanceMethod yX2_refusedInLast, Cond.selects RX2 yX2_refusedInLast yX2_refusedInLast, Cond.code yX2_refusedInLast cX2_refusedInLast 5 (some .int), Cond.methodLink RX0 90 yX2_lastWereAccepted, Cond.instanceMethod yX2_lastWereAccepted, Cond.selects RX2 yX2_lastWereAccepted yX2_lastWereAccepted, Cond.code yX2_lastWereAccepted cX2_lastWereAccepted 2 (some .boolean), Cond.methodLink RX2 30 yX2_refusedInLast, Cond.methodLink RX0 94 yX2_badInLast, Cond.instanceMethod yX2_badInLast, Cond.selects RX2 yX2_badInLast yX2_badInLast, Cond.code yX2_badInLast cX2_badInLast 5 (some .int), Cond.methodLink RX0 73 yX0_behindTightened, Cond.instanceMethod yX0_behindTightened, Cond.selects RX0 yX0_behindTightened yX0_behindTightened, Cond.code yX0_behindTightened cX0_behindTightened 1 (some .int), Cond.methodLink RX0 82 yX4_acceptingUnder, Cond.methodLink RX0 63 yX0_countForSkipping, Cond.instanceMethod yX0_countForSkipping, Cond.selects RX0 yX0_countForSkipping yX0_countForSkipping, Cond.code yX0_countForSkipping cX0_countForSkipping 2 none]
def wsX5_record_r8 : List Cond := [Cond.fieldLink RX0 106 "InspectionOffice$Lot" "verdict" "I"]
def wsX5_record : List Cond := .code yX5_record cX5_record 5 (some .int) :: ((wsX5_record_r1 ++ (wsX5_record_r2 ++ (wsX5_record_r3 ++ (wsX5_record_r4 ++ (wsX5_record_r5 ++ (wsX5_record_r6 ++ (wsX5_record_r7 ++ wsX5_record_r8))))))) ++ wsX50 ++ wsX30 ++ wsX00 ++ wsX20 ++ wsX40 ++ (vx_atS RX5 41 "java/lang/IllegalArgumentException" ["java/lang/RuntimeException", "java/lang/Exception"]).filter goodWord ++ (vx_atS RX5 88 "java/lang/IllegalStateException" ["java/lang/RuntimeException", "java/lang/Exception"]).filter goodWord)
def wsX5_findLot : List Cond := .code yX5_findLot cX5_findLot 2 (some (.object "InspectionOffice$Lot")) :: ([.fieldLink RX5 11 "InspectionOffice" "lotByOrder" "[LInspectionOffice$Lot;", .methodLink RX5 66 yX5_isOrder, .static yX5_isOrder, .initialized RX5, .code yX5_isOrder cX5_isOrder 1 (some .boolean)] ++ wsX50)
def wsX5_correct_r1 : List Cond := [Cond.classLink RX5 37 "java/lang/IllegalArgumentException", Cond.initialized "java/lang/IllegalArgumentException", Cond.classLink RX5 84 "java/lang/IllegalStateException", Cond.initialized "java/lang/IllegalStateException", Cond.fieldLink RX5 100 "InspectionOffice$Lot" "findings" "J", Cond.methodLink RX5 75 yX5_isFindings, Cond.static yX5_isFindings, Cond.initialized RX5, Cond.code yX5_isFindings cX5_isFindings 2 (some .boolean), Cond.constantLong RX5 162 (1125899906842623), Cond.methodLink RX5 94 yX5_findLot, Cond.instanceMethod yX5_findLot, Cond.selects RX5 yX5_findLot yX5_findLot, Cond.code yX5_findLot cX5_findLot 2 (some (.object "InspectionOffice$Lot")), Cond.fieldLink RX5 11 "InspectionOffice" "lotByOrder" "[LInspectionOffice$Lot;", Cond.methodLink RX5 66 yX5_isOrder, Cond.static yX5_isOrder, Cond.code yX5_isOrder cX5_isOrder 1 (some .boolean), Cond.methodLink RX5 51 yX5_judgeAll, Cond.instanceMethod yX5_judgeAll, Cond.selects RX5 yX5_judgeAll yX5_judgeAll, Cond.code yX5_judgeAll cX5_judgeAll 4 none, Cond.fieldLink RX5 29 "InspectionOffice" "course" "LInspectionOffice$Course;", Cond.fieldLink RX5 15 "InspectionOffice" "markByOrder" "[Z"]
def wsX5_correct_r2 : List Cond := [Cond.fieldLink RX5 22 "InspectionOffice" "plans" "LInspectionOffice$Plans;", Cond.methodLink RX5 164 yX0_restart, Cond.instanceMethod yX0_restart, Cond.selects RX0 yX0_restart yX0_restart, Cond.initialized RX0, Cond.code yX0_restart cX0_restart 1 none, Cond.fieldLink RX0 22 "InspectionOffice$Course" "skipping" "Z", Cond.fieldLink RX0 26 "InspectionOffice$Course" "acceptedInRow" "I", Cond.methodLink RX0 18 yX0_begin, Cond.instanceMethod yX0_begin, Cond.selects RX0 yX0_begin yX0_begin, Cond.code yX0_begin cX0_begin 2 none, Cond.fieldLink RX0 30 "InspectionOffice$Course" "state" "I", Cond.fieldLink RX0 12 "InspectionOffice$Course" "history" "LInspectionOffice$History;", Cond.methodLink RX0 66 yX2_clear, Cond.instanceMethod yX2_clear, Cond.selects RX2 yX2_clear yX2_clear, Cond.initialized RX2, Cond.code yX2_clear cX2_clear 1 none, Cond.fieldLink RX2 19 "InspectionOffice$History" "length" "I", Cond.methodLink RX5 167 yX0_pass, Cond.instanceMethod yX0_pass, Cond.selects RX0 yX0_pass yX0_pass, Cond.code yX0_pass cX0_pass 5 none]
def wsX5_correct_r3 : List Cond := [Cond.fieldLink RX0 33 "InspectionOffice$Course" "changedAt" "I", Cond.fieldLink RX0 36 "InspectionOffice$Lot" "state" "I", Cond.fieldLink RX0 60 "InspectionOffice$Lot" "order" "I", Cond.methodLink RX0 39 yX3_leaveUninspected, Cond.instanceMethod yX3_leaveUninspected, Cond.selects RX3 yX3_leaveUninspected yX3_leaveUninspected, Cond.initialized RX3, Cond.code yX3_leaveUninspected cX3_leaveUninspected 2 none, Cond.fieldLink RX3 22 "InspectionOffice$Lot" "inspected" "I", Cond.fieldLink RX3 31 "InspectionOffice$Lot" "bad" "I", Cond.fieldLink RX3 34 "InspectionOffice$Lot" "verdict" "I", Cond.methodLink RX0 42 yX0_isPassedOver, Cond.instanceMethod yX0_isPassedOver, Cond.selects RX0 yX0_isPassedOver yX0_isPassedOver, Cond.code yX0_isPassedOver cX0_isPassedOver 1 (some .boolean), Cond.fieldLink RX0 100 "InspectionOffice$Course" "passedInGroup" "I", Cond.fieldLink RX0 103 "InspectionOffice$Course" "rate" "I", Cond.methodLink RX0 46 yX4_inspect, Cond.instanceMethod yX4_inspect, Cond.selects RX4 yX4_inspect yX4_inspect, Cond.initialized RX4, Cond.code yX4_inspect cX4_inspect 5 none, Cond.fieldLink RX4 32 "InspectionOffice$Lot" "size" "I", Cond.fieldLink RX4 44 "InspectionOffice$Plans" "twice" "Z"]
def wsX5_correct_r4 : List Cond := [Cond.fieldLink RX4 56 "InspectionOffice$Lot" "bad" "I", Cond.methodLink RX4 37 yX4_sampleUnder, Cond.instanceMethod yX4_sampleUnder, Cond.selects RX4 yX4_sampleUnder yX4_sampleUnder, Cond.code yX4_sampleUnder cX4_sampleUnder 4 (some .int), Cond.methodLink RX4 26 yX4_letterFor, Cond.instanceMethod yX4_letterFor, Cond.selects RX4 yX4_letterFor yX4_letterFor, Cond.code yX4_letterFor cX4_letterFor 7 (some .int), Cond.fieldLink RX4 9 "InspectionOffice$Plans" "level" "I", Cond.fieldLink RX4 18 "InspectionOffice$Plans" "LARGEST_OF_CLASS" "[I", Cond.methodLink RX4 22 yX4_sampleOf, Cond.static yX4_sampleOf, Cond.code yX4_sampleOf cX4_sampleOf 2 (some .int), Cond.fieldLink RX4 29 "InspectionOffice$Plans" "SAMPLE_OF_LETTER" "[I", Cond.methodLink RX4 41 yX4_acceptingUnder, Cond.instanceMethod yX4_acceptingUnder, Cond.selects RX4 yX4_acceptingUnder yX4_acceptingUnder, Cond.code yX4_acceptingUnder cX4_acceptingUnder 4 (some .int), Cond.fieldLink RX4 15 "InspectionOffice$Plans" "quality" "I", Cond.methodLink RX4 48 yX4_inspectTwice, Cond.static yX4_inspectTwice, Cond.code yX4_inspectTwice cX4_inspectTwice 5 none, Cond.methodLink RX4 63 Lib.Math.min.name]
def wsX5_correct_r5 : List Cond := [Cond.static Lib.Math.min.name, Cond.initialized "java/lang/Math", Cond.code Lib.Math.min.name Lib.Math.min.code 2 (some .int), Cond.methodLink RX4 52 yX3_inspectFirst, Cond.instanceMethod yX3_inspectFirst, Cond.selects RX3 yX3_inspectFirst yX3_inspectFirst, Cond.code yX3_inspectFirst cX3_inspectFirst 2 none, Cond.fieldLink RX3 18 "InspectionOffice$Lot" "findings" "J", Cond.methodLink RX3 25 yJ13_bitCount_95d88, Cond.static yJ13_bitCount_95d88, Cond.initialized RJ13, Cond.code yJ13_bitCount_95d88 cJ13_bitCount_95d88 2 (some .int), Cond.constantLong RJ13 314 (6148914691236517205), Cond.constantLong RJ13 316 (3689348814741910323), Cond.constantLong RJ13 318 (1085102592571150095), Cond.methodLink RX4 59 yX3_judge, Cond.instanceMethod yX3_judge, Cond.selects RX3 yX3_judge yX3_judge, Cond.code yX3_judge cX3_judge 2 none, Cond.methodLink RX0 52 yX2_add, Cond.instanceMethod yX2_add, Cond.selects RX2 yX2_add yX2_add, Cond.code yX2_add cX2_add 2 none, Cond.fieldLink RX2 9 "InspectionOffice$History" "refused" "[Z"]
def wsX5_correct_r6 : List Cond := [Cond.fieldLink RX2 23 "InspectionOffice$Lot" "verdict" "I", Cond.fieldLink RX2 15 "InspectionOffice$History" "bad" "[I", Cond.fieldLink RX2 28 "InspectionOffice$Lot" "bad" "I", Cond.methodLink RX0 56 yX0_nextBehind, Cond.instanceMethod yX0_nextBehind, Cond.selects RX0 yX0_nextBehind yX0_nextBehind, Cond.code yX0_nextBehind cX0_nextBehind 4 (some .int), Cond.fieldLink RX0 76 "InspectionOffice$Lot" "bad" "I", Cond.fieldLink RX0 79 "InspectionOffice$Lot" "size" "I", Cond.methodLink RX0 69 yX0_behindNormal, Cond.instanceMethod yX0_behindNormal, Cond.selects RX0 yX0_behindNormal yX0_behindNormal, Cond.code yX0_behindNormal cX0_behindNormal 2 (some .int), Cond.fieldLink RX0 97 "InspectionOffice$Course" "steady" "Z", Cond.methodLink RX0 86 yX2_refusedInLast, Cond.instanceMethod yX2_refusedInLast, Cond.selects RX2 yX2_refusedInLast yX2_refusedInLast, Cond.code yX2_refusedInLast cX2_refusedInLast 5 (some .int), Cond.methodLink RX0 90 yX2_lastWereAccepted, Cond.instanceMethod yX2_lastWereAccepted, Cond.selects RX2 yX2_lastWereAccepted yX2_lastWereAccepted, Cond.code yX2_lastWereAccepted cX2_lastWereAccepted 2 (some .boolean), Cond.methodLink RX2 30 yX2_refusedInLast, Cond.methodLink RX0 94 yX2_badInLast]
def wsX5_correct_r7 : List Cond := [Cond.instanceMethod yX2_badInLast, Cond.selects RX2 yX2_badInLast yX2_badInLast, Cond.code yX2_badInLast cX2_badInLast 5 (some .int), Cond.methodLink RX0 73 yX0_behindTightened, Cond.instanceMethod yX0_behindTightened, Cond.selects RX0 yX0_behindTightened yX0_behindTightened, Cond.code yX0_behindTightened cX0_behindTightened 1 (some .int), Cond.methodLink RX0 82 yX4_acceptingUnder, Cond.methodLink RX0 63 yX0_countForSkipping, Cond.instanceMethod yX0_countForSkipping, Cond.selects RX0 yX0_countForSkipping yX0_countForSkipping, Cond.code yX0_countForSkipping cX0_countForSkipping 2 none, Cond.fieldLink RX0 106 "InspectionOffice$Lot" "verdict" "I"]
def wsX5_correct : List Cond := .code yX5_correct cX5_correct 7 (some .long) :: ((wsX5_correct_r1 ++ (wsX5_correct_r2 ++ (wsX5_correct_r3 ++ (wsX5_correct_r4 ++ (wsX5_correct_r5 ++ (wsX5_correct_r6 ++ wsX5_correct_r7)))))) ++ wsX30 ++ wsX50 ++ wsX00 ++ wsX20 ++ wsX40 ++ (vx_atS RX5 41 "java/lang/IllegalArgumentException" ["java/lang/RuntimeException", "java/lang/Exception"]).filter goodWord ++ (vx_atS RX5 88 "java/lang/IllegalStateException" ["java/lang/RuntimeException", "java/lang/Exception"]).filter goodWord)
def wsX5_strike_r1 : List Cond := [Cond.classLink RX5 84 "java/lang/IllegalStateException", Cond.initialized "java/lang/IllegalStateException", Cond.fieldLink RX5 11 "InspectionOffice" "lotByOrder" "[LInspectionOffice$Lot;", Cond.fieldLink RX5 81 "InspectionOffice" "lotCount" "I", Cond.methodLink RX5 66 yX5_isOrder, Cond.static yX5_isOrder, Cond.initialized RX5, Cond.code yX5_isOrder cX5_isOrder 1 (some .boolean), Cond.methodLink RX5 51 yX5_judgeAll, Cond.instanceMethod yX5_judgeAll, Cond.selects RX5 yX5_judgeAll yX5_judgeAll, Cond.code yX5_judgeAll cX5_judgeAll 4 none, Cond.fieldLink RX5 29 "InspectionOffice" "course" "LInspectionOffice$Course;", Cond.fieldLink RX5 15 "InspectionOffice" "markByOrder" "[Z", Cond.fieldLink RX5 22 "InspectionOffice" "plans" "LInspectionOffice$Plans;", Cond.methodLink RX5 164 yX0_restart, Cond.instanceMethod yX0_restart, Cond.selects RX0 yX0_restart yX0_restart, Cond.initialized RX0, Cond.code yX0_restart cX0_restart 1 none, Cond.fieldLink RX0 22 "InspectionOffice$Course" "skipping" "Z", Cond.fieldLink RX0 26 "InspectionOffice$Course" "acceptedInRow" "I", Cond.methodLink RX0 18 yX0_begin, Cond.instanceMethod yX0_begin]
def wsX5_strike_r2 : List Cond := [Cond.selects RX0 yX0_begin yX0_begin, Cond.code yX0_begin cX0_begin 2 none, Cond.fieldLink RX0 30 "InspectionOffice$Course" "state" "I", Cond.fieldLink RX0 12 "InspectionOffice$Course" "history" "LInspectionOffice$History;", Cond.methodLink RX0 66 yX2_clear, Cond.instanceMethod yX2_clear, Cond.selects RX2 yX2_clear yX2_clear, Cond.initialized RX2, Cond.code yX2_clear cX2_clear 1 none, Cond.fieldLink RX2 19 "InspectionOffice$History" "length" "I", Cond.methodLink RX5 167 yX0_pass, Cond.instanceMethod yX0_pass, Cond.selects RX0 yX0_pass yX0_pass, Cond.code yX0_pass cX0_pass 5 none, Cond.fieldLink RX0 33 "InspectionOffice$Course" "changedAt" "I", Cond.fieldLink RX0 36 "InspectionOffice$Lot" "state" "I", Cond.fieldLink RX0 60 "InspectionOffice$Lot" "order" "I", Cond.methodLink RX0 39 yX3_leaveUninspected, Cond.instanceMethod yX3_leaveUninspected, Cond.selects RX3 yX3_leaveUninspected yX3_leaveUninspected, Cond.initialized RX3, Cond.code yX3_leaveUninspected cX3_leaveUninspected 2 none, Cond.fieldLink RX3 22 "InspectionOffice$Lot" "inspected" "I", Cond.fieldLink RX3 31 "InspectionOffice$Lot" "bad" "I"]
def wsX5_strike_r3 : List Cond := [Cond.fieldLink RX3 34 "InspectionOffice$Lot" "verdict" "I", Cond.methodLink RX0 42 yX0_isPassedOver, Cond.instanceMethod yX0_isPassedOver, Cond.selects RX0 yX0_isPassedOver yX0_isPassedOver, Cond.code yX0_isPassedOver cX0_isPassedOver 1 (some .boolean), Cond.fieldLink RX0 100 "InspectionOffice$Course" "passedInGroup" "I", Cond.fieldLink RX0 103 "InspectionOffice$Course" "rate" "I", Cond.methodLink RX0 46 yX4_inspect, Cond.instanceMethod yX4_inspect, Cond.selects RX4 yX4_inspect yX4_inspect, Cond.initialized RX4, Cond.code yX4_inspect cX4_inspect 5 none, Cond.fieldLink RX4 32 "InspectionOffice$Lot" "size" "I", Cond.fieldLink RX4 44 "InspectionOffice$Plans" "twice" "Z", Cond.fieldLink RX4 56 "InspectionOffice$Lot" "bad" "I", Cond.methodLink RX4 37 yX4_sampleUnder, Cond.instanceMethod yX4_sampleUnder, Cond.selects RX4 yX4_sampleUnder yX4_sampleUnder, Cond.code yX4_sampleUnder cX4_sampleUnder 4 (some .int), Cond.methodLink RX4 26 yX4_letterFor, Cond.instanceMethod yX4_letterFor, Cond.selects RX4 yX4_letterFor yX4_letterFor, Cond.code yX4_letterFor cX4_letterFor 7 (some .int), Cond.fieldLink RX4 9 "InspectionOffice$Plans" "level" "I"]
def wsX5_strike_r4 : List Cond := [Cond.fieldLink RX4 18 "InspectionOffice$Plans" "LARGEST_OF_CLASS" "[I", Cond.methodLink RX4 22 yX4_sampleOf, Cond.static yX4_sampleOf, Cond.code yX4_sampleOf cX4_sampleOf 2 (some .int), Cond.fieldLink RX4 29 "InspectionOffice$Plans" "SAMPLE_OF_LETTER" "[I", Cond.methodLink RX4 41 yX4_acceptingUnder, Cond.instanceMethod yX4_acceptingUnder, Cond.selects RX4 yX4_acceptingUnder yX4_acceptingUnder, Cond.code yX4_acceptingUnder cX4_acceptingUnder 4 (some .int), Cond.fieldLink RX4 15 "InspectionOffice$Plans" "quality" "I", Cond.methodLink RX4 48 yX4_inspectTwice, Cond.static yX4_inspectTwice, Cond.code yX4_inspectTwice cX4_inspectTwice 5 none, Cond.methodLink RX4 63 Lib.Math.min.name, Cond.static Lib.Math.min.name, Cond.initialized "java/lang/Math", Cond.code Lib.Math.min.name Lib.Math.min.code 2 (some .int), Cond.methodLink RX4 52 yX3_inspectFirst, Cond.instanceMethod yX3_inspectFirst, Cond.selects RX3 yX3_inspectFirst yX3_inspectFirst, Cond.code yX3_inspectFirst cX3_inspectFirst 2 none, Cond.fieldLink RX3 18 "InspectionOffice$Lot" "findings" "J", Cond.methodLink RX3 25 yJ13_bitCount_95d88, Cond.static yJ13_bitCount_95d88]
def wsX5_strike_r5 : List Cond := [Cond.initialized RJ13, Cond.code yJ13_bitCount_95d88 cJ13_bitCount_95d88 2 (some .int), Cond.constantLong RJ13 314 (6148914691236517205), Cond.constantLong RJ13 316 (3689348814741910323), Cond.constantLong RJ13 318 (1085102592571150095), Cond.methodLink RX4 59 yX3_judge, Cond.instanceMethod yX3_judge, Cond.selects RX3 yX3_judge yX3_judge, Cond.code yX3_judge cX3_judge 2 none, Cond.methodLink RX0 52 yX2_add, Cond.instanceMethod yX2_add, Cond.selects RX2 yX2_add yX2_add, Cond.code yX2_add cX2_add 2 none, Cond.fieldLink RX2 9 "InspectionOffice$History" "refused" "[Z", Cond.fieldLink RX2 23 "InspectionOffice$Lot" "verdict" "I", Cond.fieldLink RX2 15 "InspectionOffice$History" "bad" "[I", Cond.fieldLink RX2 28 "InspectionOffice$Lot" "bad" "I", Cond.methodLink RX0 56 yX0_nextBehind, Cond.instanceMethod yX0_nextBehind, Cond.selects RX0 yX0_nextBehind yX0_nextBehind, Cond.code yX0_nextBehind cX0_nextBehind 4 (some .int), Cond.fieldLink RX0 76 "InspectionOffice$Lot" "bad" "I", Cond.fieldLink RX0 79 "InspectionOffice$Lot" "size" "I", Cond.methodLink RX0 69 yX0_behindNormal]
def wsX5_strike_r6 : List Cond := [Cond.instanceMethod yX0_behindNormal, Cond.selects RX0 yX0_behindNormal yX0_behindNormal, Cond.code yX0_behindNormal cX0_behindNormal 2 (some .int), Cond.fieldLink RX0 97 "InspectionOffice$Course" "steady" "Z", Cond.methodLink RX0 86 yX2_refusedInLast, Cond.instanceMethod yX2_refusedInLast, Cond.selects RX2 yX2_refusedInLast yX2_refusedInLast, Cond.code yX2_refusedInLast cX2_refusedInLast 5 (some .int), Cond.methodLink RX0 90 yX2_lastWereAccepted, Cond.instanceMethod yX2_lastWereAccepted, Cond.selects RX2 yX2_lastWereAccepted yX2_lastWereAccepted, Cond.code yX2_lastWereAccepted cX2_lastWereAccepted 2 (some .boolean), Cond.methodLink RX2 30 yX2_refusedInLast, Cond.methodLink RX0 94 yX2_badInLast, Cond.instanceMethod yX2_badInLast, Cond.selects RX2 yX2_badInLast yX2_badInLast, Cond.code yX2_badInLast cX2_badInLast 5 (some .int), Cond.methodLink RX0 73 yX0_behindTightened, Cond.instanceMethod yX0_behindTightened, Cond.selects RX0 yX0_behindTightened yX0_behindTightened, Cond.code yX0_behindTightened cX0_behindTightened 1 (some .int), Cond.methodLink RX0 82 yX4_acceptingUnder, Cond.methodLink RX0 63 yX0_countForSkipping, Cond.instanceMethod yX0_countForSkipping]
def wsX5_strike_r7 : List Cond := [Cond.selects RX0 yX0_countForSkipping yX0_countForSkipping, Cond.code yX0_countForSkipping cX0_countForSkipping 2 none, Cond.fieldLink RX0 106 "InspectionOffice$Lot" "verdict" "I"]
def wsX5_strike : List Cond := .code yX5_strike cX5_strike 2 (some .int) :: ((wsX5_strike_r1 ++ (wsX5_strike_r2 ++ (wsX5_strike_r3 ++ (wsX5_strike_r4 ++ (wsX5_strike_r5 ++ (wsX5_strike_r6 ++ wsX5_strike_r7)))))) ++ wsX50 ++ wsX00 ++ wsX20 ++ wsX30 ++ wsX40 ++ (vx_atS RX5 88 "java/lang/IllegalStateException" ["java/lang/RuntimeException", "java/lang/Exception"]).filter goodWord)
def wsX5_lots : List Cond := .code yX5_lots cX5_lots 1 (some .int) :: ([.fieldLink RX5 81 "InspectionOffice" "lotCount" "I"] ++ wsX50)
def wsX5_orderAt : List Cond := .code yX5_orderAt cX5_orderAt 4 (some .int) :: ([.classLink RX5 104 "java/lang/IndexOutOfBoundsException", .initialized "java/lang/IndexOutOfBoundsException", .fieldLink RX5 11 "InspectionOffice" "lotByOrder" "[LInspectionOffice$Lot;"] ++ wsX50 ++ (vx_atS RX5 108 "java/lang/IndexOutOfBoundsException" ["java/lang/RuntimeException", "java/lang/Exception"]).filter goodWord)
def wsX5_verdict : List Cond := .code yX5_verdict cX5_verdict 3 (some .int) :: ([.classLink RX5 84 "java/lang/IllegalStateException", .initialized "java/lang/IllegalStateException", .fieldLink RX5 109 "InspectionOffice$Lot" "verdict" "I", .methodLink RX5 94 yX5_findLot, .instanceMethod yX5_findLot, .selects RX5 yX5_findLot yX5_findLot, .initialized RX5, .code yX5_findLot cX5_findLot 2 (some (.object "InspectionOffice$Lot")), .fieldLink RX5 11 "InspectionOffice" "lotByOrder" "[LInspectionOffice$Lot;", .methodLink RX5 66 yX5_isOrder, .static yX5_isOrder, .code yX5_isOrder cX5_isOrder 1 (some .boolean)] ++ wsX30 ++ wsX50 ++ (vx_atS RX5 88 "java/lang/IllegalStateException" ["java/lang/RuntimeException", "java/lang/Exception"]).filter goodWord)
def wsX5_stateAt : List Cond := .code yX5_stateAt cX5_stateAt 3 (some .int) :: ([.classLink RX5 84 "java/lang/IllegalStateException", .initialized "java/lang/IllegalStateException", .fieldLink RX5 112 "InspectionOffice$Lot" "state" "I", .methodLink RX5 94 yX5_findLot, .instanceMethod yX5_findLot, .selects RX5 yX5_findLot yX5_findLot, .initialized RX5, .code yX5_findLot cX5_findLot 2 (some (.object "InspectionOffice$Lot")), .fieldLink RX5 11 "InspectionOffice" "lotByOrder" "[LInspectionOffice$Lot;", .methodLink RX5 66 yX5_isOrder, .static yX5_isOrder, .code yX5_isOrder cX5_isOrder 1 (some .boolean)] ++ wsX30 ++ wsX50 ++ (vx_atS RX5 88 "java/lang/IllegalStateException" ["java/lang/RuntimeException", "java/lang/Exception"]).filter goodWord)
def wsX5_state : List Cond := .code yX5_state cX5_state 1 (some .int) :: ([.fieldLink RX5 29 "InspectionOffice" "course" "LInspectionOffice$Course;", .fieldLink RX5 115 "InspectionOffice$Course" "state" "I"] ++ wsX50 ++ wsX00)
def wsX5_isSkipping : List Cond := .code yX5_isSkipping cX5_isSkipping 1 (some .boolean) :: ([.fieldLink RX5 29 "InspectionOffice" "course" "LInspectionOffice$Course;", .fieldLink RX5 116 "InspectionOffice$Course" "skipping" "Z"] ++ wsX50 ++ wsX00)
def wsX5_inspected : List Cond := .code yX5_inspected cX5_inspected 3 (some .int) :: ([.classLink RX5 84 "java/lang/IllegalStateException", .initialized "java/lang/IllegalStateException", .fieldLink RX5 119 "InspectionOffice$Lot" "inspected" "I", .methodLink RX5 94 yX5_findLot, .instanceMethod yX5_findLot, .selects RX5 yX5_findLot yX5_findLot, .initialized RX5, .code yX5_findLot cX5_findLot 2 (some (.object "InspectionOffice$Lot")), .fieldLink RX5 11 "InspectionOffice" "lotByOrder" "[LInspectionOffice$Lot;", .methodLink RX5 66 yX5_isOrder, .static yX5_isOrder, .code yX5_isOrder cX5_isOrder 1 (some .boolean)] ++ wsX30 ++ wsX50 ++ (vx_atS RX5 88 "java/lang/IllegalStateException" ["java/lang/RuntimeException", "java/lang/Exception"]).filter goodWord)
def wsX5_badIn : List Cond := .code yX5_badIn cX5_badIn 3 (some .int) :: ([.classLink RX5 84 "java/lang/IllegalStateException", .initialized "java/lang/IllegalStateException", .fieldLink RX5 122 "InspectionOffice$Lot" "bad" "I", .methodLink RX5 94 yX5_findLot, .instanceMethod yX5_findLot, .selects RX5 yX5_findLot yX5_findLot, .initialized RX5, .code yX5_findLot cX5_findLot 2 (some (.object "InspectionOffice$Lot")), .fieldLink RX5 11 "InspectionOffice" "lotByOrder" "[LInspectionOffice$Lot;", .methodLink RX5 66 yX5_isOrder, .static yX5_isOrder, .code yX5_isOrder cX5_isOrder 1 (some .boolean)] ++ wsX30 ++ wsX50 ++ (vx_atS RX5 88 "java/lang/IllegalStateException" ["java/lang/RuntimeException", "java/lang/Exception"]).filter goodWord)
def wsX5_count : List Cond := .code yX5_count cX5_count 7 (some .int) :: ([.classLink RX5 37 "java/lang/IllegalArgumentException", .initialized "java/lang/IllegalArgumentException", .fieldLink RX5 11 "InspectionOffice" "lotByOrder" "[LInspectionOffice$Lot;", .fieldLink RX5 109 "InspectionOffice$Lot" "verdict" "I", .methodLink RX5 33 yX5_isWithin, .static yX5_isWithin, .initialized RX5, .code yX5_isWithin cX5_isWithin 3 (some .boolean)] ++ wsX50 ++ wsX30 ++ (vx_atS RX5 41 "java/lang/IllegalArgumentException" ["java/lang/RuntimeException", "java/lang/Exception"]).filter goodWord)
def wsX5_samples : List Cond := .code yX5_samples cX5_samples 3 (some .long) :: ([.classLink RX5 37 "java/lang/IllegalArgumentException", .initialized "java/lang/IllegalArgumentException", .methodLink RX5 33 yX5_isWithin, .static yX5_isWithin, .initialized RX5, .code yX5_isWithin cX5_isWithin 3 (some .boolean), .methodLink RX5 144 yX1_choices, .static yX1_choices, .initialized RX1, .code yX1_choices cX1_choices 5 (some .long)] ++ (vx_atS RX5 41 "java/lang/IllegalArgumentException" ["java/lang/RuntimeException", "java/lang/Exception"]).filter goodWord)
def wsX5_accepted : List Cond := .code yX5_accepted cX5_accepted 5 (some .long) :: ([.classLink RX5 37 "java/lang/IllegalArgumentException", .initialized "java/lang/IllegalArgumentException", .methodLink RX5 33 yX5_isWithin, .static yX5_isWithin, .initialized RX5, .code yX5_isWithin cX5_isWithin 3 (some .boolean), .methodLink RX5 152 yX1_withAtMost, .static yX1_withAtMost, .initialized RX1, .code yX1_withAtMost cX1_withAtMost 7 (some .long), .methodLink RX1 13 yX1_withExactly, .static yX1_withExactly, .code yX1_withExactly cX1_withExactly 4 (some .long), .methodLink RX1 7 yX1_choices, .static yX1_choices, .code yX1_choices cX1_choices 5 (some .long)] ++ (vx_atS RX5 41 "java/lang/IllegalArgumentException" ["java/lang/RuntimeException", "java/lang/Exception"]).filter goodWord)
def wsX5_acceptedByListing : List Cond := .code yX5_acceptedByListing cX5_acceptedByListing 5 (some .long) :: ([.classLink RX5 37 "java/lang/IllegalArgumentException", .initialized "java/lang/IllegalArgumentException", .methodLink RX5 33 yX5_isWithin, .static yX5_isWithin, .initialized RX5, .code yX5_isWithin cX5_isWithin 3 (some .boolean), .methodLink RX5 156 yX1_listedWithAtMost, .static yX1_listedWithAtMost, .initialized RX1, .code yX1_listedWithAtMost cX1_listedWithAtMost 10 (some .long), .methodLink RX1 17 yJ6_bitCount_0f7a4, .static yJ6_bitCount_0f7a4, .initialized RJ6, .code yJ6_bitCount_0f7a4 cJ6_bitCount_0f7a4 1 (some .int), .constant RJ6 265 (1431655765), .constant RJ6 266 (858993459), .constant RJ6 267 (252645135), .methodLink RX1 23 yX1_nextWithAsManyBits, .static yX1_nextWithAsManyBits, .code yX1_nextWithAsManyBits cX1_nextWithAsManyBits 3 (some .int), .constant RX1 26 (2147483647)] ++ (vx_atS RX5 41 "java/lang/IllegalArgumentException" ["java/lang/RuntimeException", "java/lang/Exception"]).filter goodWord)
def wsJ9_min_7cf53 : List Cond := .code yJ9_min_7cf53 cJ9_min_7cf53 2 (some .int) :: ([])
def wsL_low : List Cond := .code yL_low cL_low 2 (some .int) :: ([.constant RL 7 (2147483647)])
def wsL_cell : List Cond := .code yL_cell cL_cell 2 (some .int) :: ([.constant RL 8 (40503)])
def wsL_record_r1 : List Cond := [Cond.classLink RL 15 "java/lang/IllegalStateException", Cond.methodLink RL 9 yX5_record, Cond.instanceMethod yX5_record, Cond.selects RX5 yX5_record yX5_record, Cond.initialized RX5, Cond.code yX5_record cX5_record 5 (some .int), Cond.classLink RX5 37 "java/lang/IllegalArgumentException", Cond.initialized "java/lang/IllegalArgumentException", Cond.classLink RX5 84 "java/lang/IllegalStateException", Cond.initialized "java/lang/IllegalStateException", Cond.fieldLink RX5 11 "InspectionOffice" "lotByOrder" "[LInspectionOffice$Lot;", Cond.fieldLink RX5 81 "InspectionOffice" "lotCount" "I", Cond.classLink RX5 9 RX3, Cond.instantiable RX3 7, Cond.initialized RX3, Cond.methodLink RX5 66 yX5_isOrder, Cond.static yX5_isOrder, Cond.code yX5_isOrder cX5_isOrder 1 (some .boolean), Cond.methodLink RX5 72 yX5_isLotSize, Cond.static yX5_isLotSize, Cond.code yX5_isLotSize cX5_isLotSize 1 (some .boolean), Cond.methodLink RX5 33 yX5_isWithin, Cond.static yX5_isWithin, Cond.code yX5_isWithin cX5_isWithin 3 (some .boolean)]
def wsL_record_r2 : List Cond := [Cond.methodLink RX5 75 yX5_isFindings, Cond.static yX5_isFindings, Cond.code yX5_isFindings cX5_isFindings 2 (some .boolean), Cond.constantLong RX5 162 (1125899906842623), Cond.methodLink RX5 89 yX3_init, Cond.instanceMethod yX3_init, Cond.code yX3_init cX3_init 5 none, Cond.methodLink RX3 3 objectInit, Cond.instanceMethod objectInit, Cond.code objectInit ⟨#[0xb1]⟩ 1 none, Cond.fieldLink RX3 9 "InspectionOffice$Lot" "order" "I", Cond.fieldLink RX3 15 "InspectionOffice$Lot" "size" "I", Cond.fieldLink RX3 18 "InspectionOffice$Lot" "findings" "J", Cond.methodLink RX5 51 yX5_judgeAll, Cond.instanceMethod yX5_judgeAll, Cond.selects RX5 yX5_judgeAll yX5_judgeAll, Cond.code yX5_judgeAll cX5_judgeAll 4 none, Cond.fieldLink RX5 29 "InspectionOffice" "course" "LInspectionOffice$Course;", Cond.fieldLink RX5 15 "InspectionOffice" "markByOrder" "[Z", Cond.fieldLink RX5 22 "InspectionOffice" "plans" "LInspectionOffice$Plans;", Cond.methodLink RX5 164 yX0_restart, Cond.instanceMethod yX0_restart, Cond.selects RX0 yX0_restart yX0_restart, Cond.initialized RX0]
def wsL_record_r3 : List Cond := [Cond.code yX0_restart cX0_restart 1 none, Cond.fieldLink RX0 22 "InspectionOffice$Course" "skipping" "Z", Cond.fieldLink RX0 26 "InspectionOffice$Course" "acceptedInRow" "I", Cond.methodLink RX0 18 yX0_begin, Cond.instanceMethod yX0_begin, Cond.selects RX0 yX0_begin yX0_begin, Cond.code yX0_begin cX0_begin 2 none, Cond.fieldLink RX0 30 "InspectionOffice$Course" "state" "I", Cond.fieldLink RX0 12 "InspectionOffice$Course" "history" "LInspectionOffice$History;", Cond.methodLink RX0 66 yX2_clear, Cond.instanceMethod yX2_clear, Cond.selects RX2 yX2_clear yX2_clear, Cond.initialized RX2, Cond.code yX2_clear cX2_clear 1 none, Cond.fieldLink RX2 19 "InspectionOffice$History" "length" "I", Cond.methodLink RX5 167 yX0_pass, Cond.instanceMethod yX0_pass, Cond.selects RX0 yX0_pass yX0_pass, Cond.code yX0_pass cX0_pass 5 none, Cond.fieldLink RX0 33 "InspectionOffice$Course" "changedAt" "I", Cond.fieldLink RX0 36 "InspectionOffice$Lot" "state" "I", Cond.fieldLink RX0 60 "InspectionOffice$Lot" "order" "I", Cond.methodLink RX0 39 yX3_leaveUninspected, Cond.instanceMethod yX3_leaveUninspected]
def wsL_record_r4 : List Cond := [Cond.selects RX3 yX3_leaveUninspected yX3_leaveUninspected, Cond.code yX3_leaveUninspected cX3_leaveUninspected 2 none, Cond.fieldLink RX3 22 "InspectionOffice$Lot" "inspected" "I", Cond.fieldLink RX3 31 "InspectionOffice$Lot" "bad" "I", Cond.fieldLink RX3 34 "InspectionOffice$Lot" "verdict" "I", Cond.methodLink RX0 42 yX0_isPassedOver, Cond.instanceMethod yX0_isPassedOver, Cond.selects RX0 yX0_isPassedOver yX0_isPassedOver, Cond.code yX0_isPassedOver cX0_isPassedOver 1 (some .boolean), Cond.fieldLink RX0 100 "InspectionOffice$Course" "passedInGroup" "I", Cond.fieldLink RX0 103 "InspectionOffice$Course" "rate" "I", Cond.methodLink RX0 46 yX4_inspect, Cond.instanceMethod yX4_inspect, Cond.selects RX4 yX4_inspect yX4_inspect, Cond.initialized RX4, Cond.code yX4_inspect cX4_inspect 5 none, Cond.fieldLink RX4 32 "InspectionOffice$Lot" "size" "I", Cond.fieldLink RX4 44 "InspectionOffice$Plans" "twice" "Z", Cond.fieldLink RX4 56 "InspectionOffice$Lot" "bad" "I", Cond.methodLink RX4 37 yX4_sampleUnder, Cond.instanceMethod yX4_sampleUnder, Cond.selects RX4 yX4_sampleUnder yX4_sampleUnder, Cond.code yX4_sampleUnder cX4_sampleUnder 4 (some .int), Cond.methodLink RX4 26 yX4_letterFor]
def wsL_record_r5 : List Cond := [Cond.instanceMethod yX4_letterFor, Cond.selects RX4 yX4_letterFor yX4_letterFor, Cond.code yX4_letterFor cX4_letterFor 7 (some .int), Cond.fieldLink RX4 9 "InspectionOffice$Plans" "level" "I", Cond.fieldLink RX4 18 "InspectionOffice$Plans" "LARGEST_OF_CLASS" "[I", Cond.methodLink RX4 22 yX4_sampleOf, Cond.static yX4_sampleOf, Cond.code yX4_sampleOf cX4_sampleOf 2 (some .int), Cond.fieldLink RX4 29 "InspectionOffice$Plans" "SAMPLE_OF_LETTER" "[I", Cond.methodLink RX4 41 yX4_acceptingUnder, Cond.instanceMethod yX4_acceptingUnder, Cond.selects RX4 yX4_acceptingUnder yX4_acceptingUnder, Cond.code yX4_acceptingUnder cX4_acceptingUnder 4 (some .int), Cond.fieldLink RX4 15 "InspectionOffice$Plans" "quality" "I", Cond.methodLink RX4 48 yX4_inspectTwice, Cond.static yX4_inspectTwice, Cond.code yX4_inspectTwice cX4_inspectTwice 5 none, Cond.methodLink RX4 63 Lib.Math.min.name, Cond.static Lib.Math.min.name, Cond.initialized "java/lang/Math", Cond.code Lib.Math.min.name Lib.Math.min.code 2 (some .int), Cond.methodLink RX4 52 yX3_inspectFirst, Cond.instanceMethod yX3_inspectFirst, Cond.selects RX3 yX3_inspectFirst yX3_inspectFirst]
def wsL_record_r6 : List Cond := [Cond.code yX3_inspectFirst cX3_inspectFirst 2 none, Cond.methodLink RX3 25 yJ13_bitCount_95d88, Cond.static yJ13_bitCount_95d88, Cond.initialized RJ13, Cond.code yJ13_bitCount_95d88 cJ13_bitCount_95d88 2 (some .int), Cond.constantLong RJ13 314 (6148914691236517205), Cond.constantLong RJ13 316 (3689348814741910323), Cond.constantLong RJ13 318 (1085102592571150095), Cond.methodLink RX4 59 yX3_judge, Cond.instanceMethod yX3_judge, Cond.selects RX3 yX3_judge yX3_judge, Cond.code yX3_judge cX3_judge 2 none, Cond.methodLink RX0 52 yX2_add, Cond.instanceMethod yX2_add, Cond.selects RX2 yX2_add yX2_add, Cond.code yX2_add cX2_add 2 none, Cond.fieldLink RX2 9 "InspectionOffice$History" "refused" "[Z", Cond.fieldLink RX2 23 "InspectionOffice$Lot" "verdict" "I", Cond.fieldLink RX2 15 "InspectionOffice$History" "bad" "[I", Cond.fieldLink RX2 28 "InspectionOffice$Lot" "bad" "I", Cond.methodLink RX0 56 yX0_nextBehind, Cond.instanceMethod yX0_nextBehind, Cond.selects RX0 yX0_nextBehind yX0_nextBehind, Cond.code yX0_nextBehind cX0_nextBehind 4 (some .int)]
def wsL_record_r7 : List Cond := [Cond.fieldLink RX0 76 "InspectionOffice$Lot" "bad" "I", Cond.fieldLink RX0 79 "InspectionOffice$Lot" "size" "I", Cond.methodLink RX0 69 yX0_behindNormal, Cond.instanceMethod yX0_behindNormal, Cond.selects RX0 yX0_behindNormal yX0_behindNormal, Cond.code yX0_behindNormal cX0_behindNormal 2 (some .int), Cond.fieldLink RX0 97 "InspectionOffice$Course" "steady" "Z", Cond.methodLink RX0 86 yX2_refusedInLast, Cond.instanceMethod yX2_refusedInLast, Cond.selects RX2 yX2_refusedInLast yX2_refusedInLast, Cond.code yX2_refusedInLast cX2_refusedInLast 5 (some .int), Cond.methodLink RX0 90 yX2_lastWereAccepted, Cond.instanceMethod yX2_lastWereAccepted, Cond.selects RX2 yX2_lastWereAccepted yX2_lastWereAccepted, Cond.code yX2_lastWereAccepted cX2_lastWereAccepted 2 (some .boolean), Cond.methodLink RX2 30 yX2_refusedInLast, Cond.methodLink RX0 94 yX2_badInLast, Cond.instanceMethod yX2_badInLast, Cond.selects RX2 yX2_badInLast yX2_badInLast, Cond.code yX2_badInLast cX2_badInLast 5 (some .int), Cond.methodLink RX0 73 yX0_behindTightened, Cond.instanceMethod yX0_behindTightened, Cond.selects RX0 yX0_behindTightened yX0_behindTightened, Cond.code yX0_behindTightened cX0_behindTightened 1 (some .int)]
def wsL_record_r8 : List Cond := [Cond.methodLink RX0 82 yX4_acceptingUnder, Cond.methodLink RX0 63 yX0_countForSkipping, Cond.instanceMethod yX0_countForSkipping, Cond.selects RX0 yX0_countForSkipping yX0_countForSkipping, Cond.code yX0_countForSkipping cX0_countForSkipping 2 none, Cond.fieldLink RX0 106 "InspectionOffice$Lot" "verdict" "I"]
def wsL_record : List Cond := .codeWith yL_record cL_record 6 (some .int) [(0, 7, 8, 15)] :: ((wsL_record_r1 ++ (wsL_record_r2 ++ (wsL_record_r3 ++ (wsL_record_r4 ++ (wsL_record_r5 ++ (wsL_record_r6 ++ (wsL_record_r7 ++ wsL_record_r8))))))) ++ wsX50 ++ wsX30 ++ wsX00 ++ wsX20 ++ wsX40 ++ (vx_atS RX5 41 "java/lang/IllegalArgumentException" ["java/lang/RuntimeException", "java/lang/Exception"]).filter goodWord ++ (vx_atS RX5 88 "java/lang/IllegalStateException" ["java/lang/RuntimeException", "java/lang/Exception"]).filter goodWord)
def wsL_strike_r1 : List Cond := [Cond.classLink RL 15 "java/lang/IllegalStateException", Cond.methodLink RL 17 yX5_strike, Cond.instanceMethod yX5_strike, Cond.selects RX5 yX5_strike yX5_strike, Cond.initialized RX5, Cond.code yX5_strike cX5_strike 2 (some .int), Cond.classLink RX5 84 "java/lang/IllegalStateException", Cond.initialized "java/lang/IllegalStateException", Cond.fieldLink RX5 11 "InspectionOffice" "lotByOrder" "[LInspectionOffice$Lot;", Cond.fieldLink RX5 81 "InspectionOffice" "lotCount" "I", Cond.methodLink RX5 66 yX5_isOrder, Cond.static yX5_isOrder, Cond.code yX5_isOrder cX5_isOrder 1 (some .boolean), Cond.methodLink RX5 51 yX5_judgeAll, Cond.instanceMethod yX5_judgeAll, Cond.selects RX5 yX5_judgeAll yX5_judgeAll, Cond.code yX5_judgeAll cX5_judgeAll 4 none, Cond.fieldLink RX5 29 "InspectionOffice" "course" "LInspectionOffice$Course;", Cond.fieldLink RX5 15 "InspectionOffice" "markByOrder" "[Z", Cond.fieldLink RX5 22 "InspectionOffice" "plans" "LInspectionOffice$Plans;", Cond.methodLink RX5 164 yX0_restart, Cond.instanceMethod yX0_restart, Cond.selects RX0 yX0_restart yX0_restart, Cond.initialized RX0]
def wsL_strike_r2 : List Cond := [Cond.code yX0_restart cX0_restart 1 none, Cond.fieldLink RX0 22 "InspectionOffice$Course" "skipping" "Z", Cond.fieldLink RX0 26 "InspectionOffice$Course" "acceptedInRow" "I", Cond.methodLink RX0 18 yX0_begin, Cond.instanceMethod yX0_begin, Cond.selects RX0 yX0_begin yX0_begin, Cond.code yX0_begin cX0_begin 2 none, Cond.fieldLink RX0 30 "InspectionOffice$Course" "state" "I", Cond.fieldLink RX0 12 "InspectionOffice$Course" "history" "LInspectionOffice$History;", Cond.methodLink RX0 66 yX2_clear, Cond.instanceMethod yX2_clear, Cond.selects RX2 yX2_clear yX2_clear, Cond.initialized RX2, Cond.code yX2_clear cX2_clear 1 none, Cond.fieldLink RX2 19 "InspectionOffice$History" "length" "I", Cond.methodLink RX5 167 yX0_pass, Cond.instanceMethod yX0_pass, Cond.selects RX0 yX0_pass yX0_pass, Cond.code yX0_pass cX0_pass 5 none, Cond.fieldLink RX0 33 "InspectionOffice$Course" "changedAt" "I", Cond.fieldLink RX0 36 "InspectionOffice$Lot" "state" "I", Cond.fieldLink RX0 60 "InspectionOffice$Lot" "order" "I", Cond.methodLink RX0 39 yX3_leaveUninspected, Cond.instanceMethod yX3_leaveUninspected]
def wsL_strike_r3 : List Cond := [Cond.selects RX3 yX3_leaveUninspected yX3_leaveUninspected, Cond.initialized RX3, Cond.code yX3_leaveUninspected cX3_leaveUninspected 2 none, Cond.fieldLink RX3 22 "InspectionOffice$Lot" "inspected" "I", Cond.fieldLink RX3 31 "InspectionOffice$Lot" "bad" "I", Cond.fieldLink RX3 34 "InspectionOffice$Lot" "verdict" "I", Cond.methodLink RX0 42 yX0_isPassedOver, Cond.instanceMethod yX0_isPassedOver, Cond.selects RX0 yX0_isPassedOver yX0_isPassedOver, Cond.code yX0_isPassedOver cX0_isPassedOver 1 (some .boolean), Cond.fieldLink RX0 100 "InspectionOffice$Course" "passedInGroup" "I", Cond.fieldLink RX0 103 "InspectionOffice$Course" "rate" "I", Cond.methodLink RX0 46 yX4_inspect, Cond.instanceMethod yX4_inspect, Cond.selects RX4 yX4_inspect yX4_inspect, Cond.initialized RX4, Cond.code yX4_inspect cX4_inspect 5 none, Cond.fieldLink RX4 32 "InspectionOffice$Lot" "size" "I", Cond.fieldLink RX4 44 "InspectionOffice$Plans" "twice" "Z", Cond.fieldLink RX4 56 "InspectionOffice$Lot" "bad" "I", Cond.methodLink RX4 37 yX4_sampleUnder, Cond.instanceMethod yX4_sampleUnder, Cond.selects RX4 yX4_sampleUnder yX4_sampleUnder, Cond.code yX4_sampleUnder cX4_sampleUnder 4 (some .int)]
def wsL_strike_r4 : List Cond := [Cond.methodLink RX4 26 yX4_letterFor, Cond.instanceMethod yX4_letterFor, Cond.selects RX4 yX4_letterFor yX4_letterFor, Cond.code yX4_letterFor cX4_letterFor 7 (some .int), Cond.fieldLink RX4 9 "InspectionOffice$Plans" "level" "I", Cond.fieldLink RX4 18 "InspectionOffice$Plans" "LARGEST_OF_CLASS" "[I", Cond.methodLink RX4 22 yX4_sampleOf, Cond.static yX4_sampleOf, Cond.code yX4_sampleOf cX4_sampleOf 2 (some .int), Cond.fieldLink RX4 29 "InspectionOffice$Plans" "SAMPLE_OF_LETTER" "[I", Cond.methodLink RX4 41 yX4_acceptingUnder, Cond.instanceMethod yX4_acceptingUnder, Cond.selects RX4 yX4_acceptingUnder yX4_acceptingUnder, Cond.code yX4_acceptingUnder cX4_acceptingUnder 4 (some .int), Cond.fieldLink RX4 15 "InspectionOffice$Plans" "quality" "I", Cond.methodLink RX4 48 yX4_inspectTwice, Cond.static yX4_inspectTwice, Cond.code yX4_inspectTwice cX4_inspectTwice 5 none, Cond.methodLink RX4 63 Lib.Math.min.name, Cond.static Lib.Math.min.name, Cond.initialized "java/lang/Math", Cond.code Lib.Math.min.name Lib.Math.min.code 2 (some .int), Cond.methodLink RX4 52 yX3_inspectFirst, Cond.instanceMethod yX3_inspectFirst]
def wsL_strike_r5 : List Cond := [Cond.selects RX3 yX3_inspectFirst yX3_inspectFirst, Cond.code yX3_inspectFirst cX3_inspectFirst 2 none, Cond.fieldLink RX3 18 "InspectionOffice$Lot" "findings" "J", Cond.methodLink RX3 25 yJ13_bitCount_95d88, Cond.static yJ13_bitCount_95d88, Cond.initialized RJ13, Cond.code yJ13_bitCount_95d88 cJ13_bitCount_95d88 2 (some .int), Cond.constantLong RJ13 314 (6148914691236517205), Cond.constantLong RJ13 316 (3689348814741910323), Cond.constantLong RJ13 318 (1085102592571150095), Cond.methodLink RX4 59 yX3_judge, Cond.instanceMethod yX3_judge, Cond.selects RX3 yX3_judge yX3_judge, Cond.code yX3_judge cX3_judge 2 none, Cond.methodLink RX0 52 yX2_add, Cond.instanceMethod yX2_add, Cond.selects RX2 yX2_add yX2_add, Cond.code yX2_add cX2_add 2 none, Cond.fieldLink RX2 9 "InspectionOffice$History" "refused" "[Z", Cond.fieldLink RX2 23 "InspectionOffice$Lot" "verdict" "I", Cond.fieldLink RX2 15 "InspectionOffice$History" "bad" "[I", Cond.fieldLink RX2 28 "InspectionOffice$Lot" "bad" "I", Cond.methodLink RX0 56 yX0_nextBehind, Cond.instanceMethod yX0_nextBehind]
def wsL_strike_r6 : List Cond := [Cond.selects RX0 yX0_nextBehind yX0_nextBehind, Cond.code yX0_nextBehind cX0_nextBehind 4 (some .int), Cond.fieldLink RX0 76 "InspectionOffice$Lot" "bad" "I", Cond.fieldLink RX0 79 "InspectionOffice$Lot" "size" "I", Cond.methodLink RX0 69 yX0_behindNormal, Cond.instanceMethod yX0_behindNormal, Cond.selects RX0 yX0_behindNormal yX0_behindNormal, Cond.code yX0_behindNormal cX0_behindNormal 2 (some .int), Cond.fieldLink RX0 97 "InspectionOffice$Course" "steady" "Z", Cond.methodLink RX0 86 yX2_refusedInLast, Cond.instanceMethod yX2_refusedInLast, Cond.selects RX2 yX2_refusedInLast yX2_refusedInLast, Cond.code yX2_refusedInLast cX2_refusedInLast 5 (some .int), Cond.methodLink RX0 90 yX2_lastWereAccepted, Cond.instanceMethod yX2_lastWereAccepted, Cond.selects RX2 yX2_lastWereAccepted yX2_lastWereAccepted, Cond.code yX2_lastWereAccepted cX2_lastWereAccepted 2 (some .boolean), Cond.methodLink RX2 30 yX2_refusedInLast, Cond.methodLink RX0 94 yX2_badInLast, Cond.instanceMethod yX2_badInLast, Cond.selects RX2 yX2_badInLast yX2_badInLast, Cond.code yX2_badInLast cX2_badInLast 5 (some .int), Cond.methodLink RX0 73 yX0_behindTightened, Cond.instanceMethod yX0_behindTightened]
def wsL_strike_r7 : List Cond := [Cond.selects RX0 yX0_behindTightened yX0_behindTightened, Cond.code yX0_behindTightened cX0_behindTightened 1 (some .int), Cond.methodLink RX0 82 yX4_acceptingUnder, Cond.methodLink RX0 63 yX0_countForSkipping, Cond.instanceMethod yX0_countForSkipping, Cond.selects RX0 yX0_countForSkipping yX0_countForSkipping, Cond.code yX0_countForSkipping cX0_countForSkipping 2 none, Cond.fieldLink RX0 106 "InspectionOffice$Lot" "verdict" "I"]
def wsL_strike : List Cond := .codeWith yL_strike cL_strike 3 (some .int) [(0, 5, 6, 15)] :: ((wsL_strike_r1 ++ (wsL_strike_r2 ++ (wsL_strike_r3 ++ (wsL_strike_r4 ++ (wsL_strike_r5 ++ (wsL_strike_r6 ++ wsL_strike_r7)))))) ++ wsX50 ++ wsX00 ++ wsX20 ++ wsX30 ++ wsX40 ++ (vx_atS RX5 88 "java/lang/IllegalStateException" ["java/lang/RuntimeException", "java/lang/Exception"]).filter goodWord)
def wsL_findings : List Cond := .code yL_findings cL_findings 2 (some .long) :: ([.methodLink RL 21 yL_low, .static yL_low, .initialized RL, .code yL_low cL_low 2 (some .int), .constant RL 7 (2147483647)])
def wsL_holds_r1 : List Cond := [Cond.methodLink RL 27 yX5_count, Cond.instanceMethod yX5_count, Cond.selects RX5 yX5_count yX5_count, Cond.initialized RX5, Cond.code yX5_count cX5_count 7 (some .int), Cond.classLink RX5 37 "java/lang/IllegalArgumentException", Cond.initialized "java/lang/IllegalArgumentException", Cond.fieldLink RX5 11 "InspectionOffice" "lotByOrder" "[LInspectionOffice$Lot;", Cond.fieldLink RX5 109 "InspectionOffice$Lot" "verdict" "I", Cond.methodLink RX5 33 yX5_isWithin, Cond.static yX5_isWithin, Cond.code yX5_isWithin cX5_isWithin 3 (some .boolean), Cond.methodLink RL 30 yX5_lots, Cond.instanceMethod yX5_lots, Cond.selects RX5 yX5_lots yX5_lots, Cond.code yX5_lots cX5_lots 1 (some .int), Cond.fieldLink RX5 81 "InspectionOffice" "lotCount" "I", Cond.methodLink RL 34 yX5_orderAt, Cond.instanceMethod yX5_orderAt, Cond.selects RX5 yX5_orderAt yX5_orderAt, Cond.code yX5_orderAt cX5_orderAt 4 (some .int), Cond.classLink RX5 104 "java/lang/IndexOutOfBoundsException", Cond.initialized "java/lang/IndexOutOfBoundsException", Cond.methodLink RL 37 yX5_verdict]
def wsL_holds_r2 : List Cond := [Cond.instanceMethod yX5_verdict, Cond.selects RX5 yX5_verdict yX5_verdict, Cond.code yX5_verdict cX5_verdict 3 (some .int), Cond.classLink RX5 84 "java/lang/IllegalStateException", Cond.initialized "java/lang/IllegalStateException", Cond.methodLink RX5 94 yX5_findLot, Cond.instanceMethod yX5_findLot, Cond.selects RX5 yX5_findLot yX5_findLot, Cond.code yX5_findLot cX5_findLot 2 (some (.object "InspectionOffice$Lot")), Cond.methodLink RX5 66 yX5_isOrder, Cond.static yX5_isOrder, Cond.code yX5_isOrder cX5_isOrder 1 (some .boolean), Cond.methodLink RL 40 yX5_stateAt, Cond.instanceMethod yX5_stateAt, Cond.selects RX5 yX5_stateAt yX5_stateAt, Cond.code yX5_stateAt cX5_stateAt 3 (some .int), Cond.fieldLink RX5 112 "InspectionOffice$Lot" "state" "I", Cond.methodLink RL 43 yX5_inspected, Cond.instanceMethod yX5_inspected, Cond.selects RX5 yX5_inspected yX5_inspected, Cond.code yX5_inspected cX5_inspected 3 (some .int), Cond.fieldLink RX5 119 "InspectionOffice$Lot" "inspected" "I", Cond.methodLink RL 46 yX5_badIn, Cond.instanceMethod yX5_badIn]
def wsL_holds_r3 : List Cond := [Cond.selects RX5 yX5_badIn yX5_badIn, Cond.code yX5_badIn cX5_badIn 3 (some .int), Cond.fieldLink RX5 122 "InspectionOffice$Lot" "bad" "I", Cond.methodLink RL 49 yX5_state, Cond.instanceMethod yX5_state, Cond.selects RX5 yX5_state yX5_state, Cond.code yX5_state cX5_state 1 (some .int), Cond.fieldLink RX5 29 "InspectionOffice" "course" "LInspectionOffice$Course;", Cond.fieldLink RX5 115 "InspectionOffice$Course" "state" "I", Cond.methodLink RL 52 yX5_isSkipping, Cond.instanceMethod yX5_isSkipping, Cond.selects RX5 yX5_isSkipping yX5_isSkipping, Cond.code yX5_isSkipping cX5_isSkipping 1 (some .boolean), Cond.fieldLink RX5 116 "InspectionOffice$Course" "skipping" "Z"]
def wsL_holds : List Cond := .code yL_holds cL_holds 9 (some .boolean) :: ((wsL_holds_r1 ++ (wsL_holds_r2 ++ wsL_holds_r3)) ++ wsX50 ++ wsX30 ++ wsX00 ++ (vx_atS RX5 41 "java/lang/IllegalArgumentException" ["java/lang/RuntimeException", "java/lang/Exception"]).filter goodWord ++ (vx_atS RX5 108 "java/lang/IndexOutOfBoundsException" ["java/lang/RuntimeException", "java/lang/Exception"]).filter goodWord ++ (vx_atS RX5 88 "java/lang/IllegalStateException" ["java/lang/RuntimeException", "java/lang/Exception"]).filter goodWord)
def wsL_again_r1 : List Cond := [Cond.methodLink RL 37 yX5_verdict, Cond.instanceMethod yX5_verdict, Cond.selects RX5 yX5_verdict yX5_verdict, Cond.initialized RX5, Cond.code yX5_verdict cX5_verdict 3 (some .int), Cond.classLink RX5 84 "java/lang/IllegalStateException", Cond.initialized "java/lang/IllegalStateException", Cond.fieldLink RX5 109 "InspectionOffice$Lot" "verdict" "I", Cond.methodLink RX5 94 yX5_findLot, Cond.instanceMethod yX5_findLot, Cond.selects RX5 yX5_findLot yX5_findLot, Cond.code yX5_findLot cX5_findLot 2 (some (.object "InspectionOffice$Lot")), Cond.fieldLink RX5 11 "InspectionOffice" "lotByOrder" "[LInspectionOffice$Lot;", Cond.methodLink RX5 66 yX5_isOrder, Cond.static yX5_isOrder, Cond.code yX5_isOrder cX5_isOrder 1 (some .boolean), Cond.methodLink RL 49 yX5_state, Cond.instanceMethod yX5_state, Cond.selects RX5 yX5_state yX5_state, Cond.code yX5_state cX5_state 1 (some .int), Cond.fieldLink RX5 29 "InspectionOffice" "course" "LInspectionOffice$Course;", Cond.fieldLink RX5 115 "InspectionOffice$Course" "state" "I", Cond.methodLink RL 30 yX5_lots, Cond.instanceMethod yX5_lots]
def wsL_again_r2 : List Cond := [Cond.selects RX5 yX5_lots yX5_lots, Cond.code yX5_lots cX5_lots 1 (some .int), Cond.fieldLink RX5 81 "InspectionOffice" "lotCount" "I", Cond.methodLink RL 56 yX5_correct, Cond.instanceMethod yX5_correct, Cond.selects RX5 yX5_correct yX5_correct, Cond.code yX5_correct cX5_correct 7 (some .long), Cond.classLink RX5 37 "java/lang/IllegalArgumentException", Cond.initialized "java/lang/IllegalArgumentException", Cond.fieldLink RX5 100 "InspectionOffice$Lot" "findings" "J", Cond.methodLink RX5 75 yX5_isFindings, Cond.static yX5_isFindings, Cond.code yX5_isFindings cX5_isFindings 2 (some .boolean), Cond.constantLong RX5 162 (1125899906842623), Cond.methodLink RX5 51 yX5_judgeAll, Cond.instanceMethod yX5_judgeAll, Cond.selects RX5 yX5_judgeAll yX5_judgeAll, Cond.code yX5_judgeAll cX5_judgeAll 4 none, Cond.fieldLink RX5 15 "InspectionOffice" "markByOrder" "[Z", Cond.fieldLink RX5 22 "InspectionOffice" "plans" "LInspectionOffice$Plans;", Cond.methodLink RX5 164 yX0_restart, Cond.instanceMethod yX0_restart, Cond.selects RX0 yX0_restart yX0_restart, Cond.initialized RX0]
def wsL_again_r3 : List Cond := [Cond.code yX0_restart cX0_restart 1 none, Cond.fieldLink RX0 22 "InspectionOffice$Course" "skipping" "Z", Cond.fieldLink RX0 26 "InspectionOffice$Course" "acceptedInRow" "I", Cond.methodLink RX0 18 yX0_begin, Cond.instanceMethod yX0_begin, Cond.selects RX0 yX0_begin yX0_begin, Cond.code yX0_begin cX0_begin 2 none, Cond.fieldLink RX0 30 "InspectionOffice$Course" "state" "I", Cond.fieldLink RX0 12 "InspectionOffice$Course" "history" "LInspectionOffice$History;", Cond.methodLink RX0 66 yX2_clear, Cond.instanceMethod yX2_clear, Cond.selects RX2 yX2_clear yX2_clear, Cond.initialized RX2, Cond.code yX2_clear cX2_clear 1 none, Cond.fieldLink RX2 19 "InspectionOffice$History" "length" "I", Cond.methodLink RX5 167 yX0_pass, Cond.instanceMethod yX0_pass, Cond.selects RX0 yX0_pass yX0_pass, Cond.code yX0_pass cX0_pass 5 none, Cond.fieldLink RX0 33 "InspectionOffice$Course" "changedAt" "I", Cond.fieldLink RX0 36 "InspectionOffice$Lot" "state" "I", Cond.fieldLink RX0 60 "InspectionOffice$Lot" "order" "I", Cond.methodLink RX0 39 yX3_leaveUninspected, Cond.instanceMethod yX3_leaveUninspected]
def wsL_again_r4 : List Cond := [Cond.selects RX3 yX3_leaveUninspected yX3_leaveUninspected, Cond.initialized RX3, Cond.code yX3_leaveUninspected cX3_leaveUninspected 2 none, Cond.fieldLink RX3 22 "InspectionOffice$Lot" "inspected" "I", Cond.fieldLink RX3 31 "InspectionOffice$Lot" "bad" "I", Cond.fieldLink RX3 34 "InspectionOffice$Lot" "verdict" "I", Cond.methodLink RX0 42 yX0_isPassedOver, Cond.instanceMethod yX0_isPassedOver, Cond.selects RX0 yX0_isPassedOver yX0_isPassedOver, Cond.code yX0_isPassedOver cX0_isPassedOver 1 (some .boolean), Cond.fieldLink RX0 100 "InspectionOffice$Course" "passedInGroup" "I", Cond.fieldLink RX0 103 "InspectionOffice$Course" "rate" "I", Cond.methodLink RX0 46 yX4_inspect, Cond.instanceMethod yX4_inspect, Cond.selects RX4 yX4_inspect yX4_inspect, Cond.initialized RX4, Cond.code yX4_inspect cX4_inspect 5 none, Cond.fieldLink RX4 32 "InspectionOffice$Lot" "size" "I", Cond.fieldLink RX4 44 "InspectionOffice$Plans" "twice" "Z", Cond.fieldLink RX4 56 "InspectionOffice$Lot" "bad" "I", Cond.methodLink RX4 37 yX4_sampleUnder, Cond.instanceMethod yX4_sampleUnder, Cond.selects RX4 yX4_sampleUnder yX4_sampleUnder, Cond.code yX4_sampleUnder cX4_sampleUnder 4 (some .int)]
def wsL_again_r5 : List Cond := [Cond.methodLink RX4 26 yX4_letterFor, Cond.instanceMethod yX4_letterFor, Cond.selects RX4 yX4_letterFor yX4_letterFor, Cond.code yX4_letterFor cX4_letterFor 7 (some .int), Cond.fieldLink RX4 9 "InspectionOffice$Plans" "level" "I", Cond.fieldLink RX4 18 "InspectionOffice$Plans" "LARGEST_OF_CLASS" "[I", Cond.methodLink RX4 22 yX4_sampleOf, Cond.static yX4_sampleOf, Cond.code yX4_sampleOf cX4_sampleOf 2 (some .int), Cond.fieldLink RX4 29 "InspectionOffice$Plans" "SAMPLE_OF_LETTER" "[I", Cond.methodLink RX4 41 yX4_acceptingUnder, Cond.instanceMethod yX4_acceptingUnder, Cond.selects RX4 yX4_acceptingUnder yX4_acceptingUnder, Cond.code yX4_acceptingUnder cX4_acceptingUnder 4 (some .int), Cond.fieldLink RX4 15 "InspectionOffice$Plans" "quality" "I", Cond.methodLink RX4 48 yX4_inspectTwice, Cond.static yX4_inspectTwice, Cond.code yX4_inspectTwice cX4_inspectTwice 5 none, Cond.methodLink RX4 63 Lib.Math.min.name, Cond.static Lib.Math.min.name, Cond.initialized "java/lang/Math", Cond.code Lib.Math.min.name Lib.Math.min.code 2 (some .int), Cond.methodLink RX4 52 yX3_inspectFirst, Cond.instanceMethod yX3_inspectFirst]
def wsL_again_r6 : List Cond := [Cond.selects RX3 yX3_inspectFirst yX3_inspectFirst, Cond.code yX3_inspectFirst cX3_inspectFirst 2 none, Cond.fieldLink RX3 18 "InspectionOffice$Lot" "findings" "J", Cond.methodLink RX3 25 yJ13_bitCount_95d88, Cond.static yJ13_bitCount_95d88, Cond.initialized RJ13, Cond.code yJ13_bitCount_95d88 cJ13_bitCount_95d88 2 (some .int), Cond.constantLong RJ13 314 (6148914691236517205), Cond.constantLong RJ13 316 (3689348814741910323), Cond.constantLong RJ13 318 (1085102592571150095), Cond.methodLink RX4 59 yX3_judge, Cond.instanceMethod yX3_judge, Cond.selects RX3 yX3_judge yX3_judge, Cond.code yX3_judge cX3_judge 2 none, Cond.methodLink RX0 52 yX2_add, Cond.instanceMethod yX2_add, Cond.selects RX2 yX2_add yX2_add, Cond.code yX2_add cX2_add 2 none, Cond.fieldLink RX2 9 "InspectionOffice$History" "refused" "[Z", Cond.fieldLink RX2 23 "InspectionOffice$Lot" "verdict" "I", Cond.fieldLink RX2 15 "InspectionOffice$History" "bad" "[I", Cond.fieldLink RX2 28 "InspectionOffice$Lot" "bad" "I", Cond.methodLink RX0 56 yX0_nextBehind, Cond.instanceMethod yX0_nextBehind]
def wsL_again_r7 : List Cond := [Cond.selects RX0 yX0_nextBehind yX0_nextBehind, Cond.code yX0_nextBehind cX0_nextBehind 4 (some .int), Cond.fieldLink RX0 76 "InspectionOffice$Lot" "bad" "I", Cond.fieldLink RX0 79 "InspectionOffice$Lot" "size" "I", Cond.methodLink RX0 69 yX0_behindNormal, Cond.instanceMethod yX0_behindNormal, Cond.selects RX0 yX0_behindNormal yX0_behindNormal, Cond.code yX0_behindNormal cX0_behindNormal 2 (some .int), Cond.fieldLink RX0 97 "InspectionOffice$Course" "steady" "Z", Cond.methodLink RX0 86 yX2_refusedInLast, Cond.instanceMethod yX2_refusedInLast, Cond.selects RX2 yX2_refusedInLast yX2_refusedInLast, Cond.code yX2_refusedInLast cX2_refusedInLast 5 (some .int), Cond.methodLink RX0 90 yX2_lastWereAccepted, Cond.instanceMethod yX2_lastWereAccepted, Cond.selects RX2 yX2_lastWereAccepted yX2_lastWereAccepted, Cond.code yX2_lastWereAccepted cX2_lastWereAccepted 2 (some .boolean), Cond.methodLink RX2 30 yX2_refusedInLast, Cond.methodLink RX0 94 yX2_badInLast, Cond.instanceMethod yX2_badInLast, Cond.selects RX2 yX2_badInLast yX2_badInLast, Cond.code yX2_badInLast cX2_badInLast 5 (some .int), Cond.methodLink RX0 73 yX0_behindTightened, Cond.instanceMethod yX0_behindTightened]
def wsL_again_r8 : List Cond := [Cond.selects RX0 yX0_behindTightened yX0_behindTightened, Cond.code yX0_behindTightened cX0_behindTightened 1 (some .int), Cond.methodLink RX0 82 yX4_acceptingUnder, Cond.methodLink RX0 63 yX0_countForSkipping, Cond.instanceMethod yX0_countForSkipping, Cond.selects RX0 yX0_countForSkipping yX0_countForSkipping, Cond.code yX0_countForSkipping cX0_countForSkipping 2 none, Cond.fieldLink RX0 106 "InspectionOffice$Lot" "verdict" "I", Cond.methodLink RL 17 yX5_strike, Cond.instanceMethod yX5_strike, Cond.selects RX5 yX5_strike yX5_strike, Cond.code yX5_strike cX5_strike 2 (some .int), Cond.methodLink RL 9 yX5_record, Cond.instanceMethod yX5_record, Cond.selects RX5 yX5_record yX5_record, Cond.code yX5_record cX5_record 5 (some .int), Cond.classLink RX5 9 RX3, Cond.instantiable RX3 7, Cond.methodLink RX5 72 yX5_isLotSize, Cond.static yX5_isLotSize, Cond.code yX5_isLotSize cX5_isLotSize 1 (some .boolean), Cond.methodLink RX5 33 yX5_isWithin, Cond.static yX5_isWithin, Cond.code yX5_isWithin cX5_isWithin 3 (some .boolean)]
def wsL_again_r9 : List Cond := [Cond.methodLink RX5 89 yX3_init, Cond.instanceMethod yX3_init, Cond.code yX3_init cX3_init 5 none, Cond.methodLink RX3 3 objectInit, Cond.instanceMethod objectInit, Cond.code objectInit ⟨#[0xb1]⟩ 1 none, Cond.fieldLink RX3 9 "InspectionOffice$Lot" "order" "I", Cond.fieldLink RX3 15 "InspectionOffice$Lot" "size" "I"]
def wsL_again : List Cond := .code yL_again cL_again 9 (some .boolean) :: ((wsL_again_r1 ++ (wsL_again_r2 ++ (wsL_again_r3 ++ (wsL_again_r4 ++ (wsL_again_r5 ++ (wsL_again_r6 ++ (wsL_again_r7 ++ (wsL_again_r8 ++ wsL_again_r9)))))))) ++ wsX30 ++ wsX50 ++ wsX00 ++ wsX20 ++ wsX40 ++ (vx_atS RX5 88 "java/lang/IllegalStateException" ["java/lang/RuntimeException", "java/lang/Exception"]).filter goodWord ++ (vx_atS RX5 41 "java/lang/IllegalArgumentException" ["java/lang/RuntimeException", "java/lang/Exception"]).filter goodWord)
def wsL_curves_r1 : List Cond := [Cond.methodLink RL 21 yL_low, Cond.static yL_low, Cond.initialized RL, Cond.code yL_low cL_low 2 (some .int), Cond.constant RL 7 (2147483647), Cond.methodLink RL 60 yX5_accepted, Cond.instanceMethod yX5_accepted, Cond.selects RX5 yX5_accepted yX5_accepted, Cond.initialized RX5, Cond.code yX5_accepted cX5_accepted 5 (some .long), Cond.classLink RX5 37 "java/lang/IllegalArgumentException", Cond.initialized "java/lang/IllegalArgumentException", Cond.methodLink RX5 33 yX5_isWithin, Cond.static yX5_isWithin, Cond.code yX5_isWithin cX5_isWithin 3 (some .boolean), Cond.methodLink RX5 152 yX1_withAtMost, Cond.static yX1_withAtMost, Cond.initialized RX1, Cond.code yX1_withAtMost cX1_withAtMost 7 (some .long), Cond.methodLink RX1 13 yX1_withExactly, Cond.static yX1_withExactly, Cond.code yX1_withExactly cX1_withExactly 4 (some .long), Cond.methodLink RX1 7 yX1_choices, Cond.static yX1_choices]
def wsL_curves_r2 : List Cond := [Cond.code yX1_choices cX1_choices 5 (some .long), Cond.methodLink RL 64 yX5_acceptedByListing, Cond.instanceMethod yX5_acceptedByListing, Cond.selects RX5 yX5_acceptedByListing yX5_acceptedByListing, Cond.code yX5_acceptedByListing cX5_acceptedByListing 5 (some .long), Cond.methodLink RX5 156 yX1_listedWithAtMost, Cond.static yX1_listedWithAtMost, Cond.code yX1_listedWithAtMost cX1_listedWithAtMost 10 (some .long), Cond.methodLink RX1 17 yJ6_bitCount_0f7a4, Cond.static yJ6_bitCount_0f7a4, Cond.initialized RJ6, Cond.code yJ6_bitCount_0f7a4 cJ6_bitCount_0f7a4 1 (some .int), Cond.constant RJ6 265 (1431655765), Cond.constant RJ6 266 (858993459), Cond.constant RJ6 267 (252645135), Cond.methodLink RX1 23 yX1_nextWithAsManyBits, Cond.static yX1_nextWithAsManyBits, Cond.code yX1_nextWithAsManyBits cX1_nextWithAsManyBits 3 (some .int), Cond.constant RX1 26 (2147483647), Cond.methodLink RL 67 yX5_samples, Cond.instanceMethod yX5_samples, Cond.selects RX5 yX5_samples yX5_samples, Cond.code yX5_samples cX5_samples 3 (some .long), Cond.methodLink RX5 144 yX1_choices]
def wsL_curves : List Cond := .code yL_curves cL_curves 9 (some .boolean) :: ((wsL_curves_r1 ++ wsL_curves_r2) ++ (vx_atS RX5 41 "java/lang/IllegalArgumentException" ["java/lang/RuntimeException", "java/lang/Exception"]).filter goodWord)
def wsL_law0_r1 : List Cond := [Cond.classLink RL 10 RX5, Cond.instantiable RX5 5, Cond.initialized RX5, Cond.methodLink RL 71 yX5_init, Cond.instanceMethod yX5_init, Cond.code yX5_init cX5_init 1 none, Cond.methodLink RX5 3 objectInit, Cond.instanceMethod objectInit, Cond.code objectInit ⟨#[0xb1]⟩ 1 none, Cond.classLink RX5 9 RX3, Cond.fieldLink RX5 11 "InspectionOffice" "lotByOrder" "[LInspectionOffice$Lot;", Cond.arrayClass .boolean, Cond.fieldLink RX5 15 "InspectionOffice" "markByOrder" "[Z", Cond.classLink RX5 19 RX4, Cond.instantiable RX4 3, Cond.initialized RX4, Cond.fieldLink RX5 22 "InspectionOffice" "plans" "LInspectionOffice$Plans;", Cond.classLink RX5 26 RX0, Cond.instantiable RX0 8, Cond.initialized RX0, Cond.fieldLink RX5 29 "InspectionOffice" "course" "LInspectionOffice$Course;", Cond.instanceMethod yX4_init, Cond.code yX4_init cX4_init 1 none, Cond.methodLink RX4 3 objectInit]
def wsL_law0_r2 : List Cond := [Cond.fieldLink RX4 9 "InspectionOffice$Plans" "level" "I", Cond.fieldLink RX4 15 "InspectionOffice$Plans" "quality" "I", Cond.instanceMethod yX0_init, Cond.code yX0_init cX0_init 1 none, Cond.methodLink RX0 3 objectInit, Cond.classLink RX0 9 RX2, Cond.instantiable RX2 3, Cond.initialized RX2, Cond.fieldLink RX0 12 "InspectionOffice$Course" "history" "LInspectionOffice$History;", Cond.instanceMethod yX2_init, Cond.code yX2_init cX2_init 1 none, Cond.methodLink RX2 3 objectInit, Cond.fieldLink RX2 9 "InspectionOffice$History" "refused" "[Z", Cond.arrayClass .int, Cond.fieldLink RX2 15 "InspectionOffice$History" "bad" "[I", Cond.methodLink RL 72 yL_holds, Cond.static yL_holds, Cond.initialized RL, Cond.code yL_holds cL_holds 9 (some .boolean), Cond.methodLink RL 27 yX5_count, Cond.instanceMethod yX5_count, Cond.selects RX5 yX5_count yX5_count, Cond.code yX5_count cX5_count 7 (some .int), Cond.classLink RX5 37 "java/lang/IllegalArgumentException"]
def wsL_law0_r3 : List Cond := [Cond.initialized "java/lang/IllegalArgumentException", Cond.fieldLink RX5 109 "InspectionOffice$Lot" "verdict" "I", Cond.methodLink RX5 33 yX5_isWithin, Cond.static yX5_isWithin, Cond.code yX5_isWithin cX5_isWithin 3 (some .boolean), Cond.methodLink RL 30 yX5_lots, Cond.instanceMethod yX5_lots, Cond.selects RX5 yX5_lots yX5_lots, Cond.code yX5_lots cX5_lots 1 (some .int), Cond.fieldLink RX5 81 "InspectionOffice" "lotCount" "I", Cond.methodLink RL 34 yX5_orderAt, Cond.instanceMethod yX5_orderAt, Cond.selects RX5 yX5_orderAt yX5_orderAt, Cond.code yX5_orderAt cX5_orderAt 4 (some .int), Cond.classLink RX5 104 "java/lang/IndexOutOfBoundsException", Cond.initialized "java/lang/IndexOutOfBoundsException", Cond.methodLink RL 37 yX5_verdict, Cond.instanceMethod yX5_verdict, Cond.selects RX5 yX5_verdict yX5_verdict, Cond.code yX5_verdict cX5_verdict 3 (some .int), Cond.classLink RX5 84 "java/lang/IllegalStateException", Cond.initialized "java/lang/IllegalStateException", Cond.methodLink RX5 94 yX5_findLot, Cond.instanceMethod yX5_findLot]
def wsL_law0_r4 : List Cond := [Cond.selects RX5 yX5_findLot yX5_findLot, Cond.code yX5_findLot cX5_findLot 2 (some (.object "InspectionOffice$Lot")), Cond.methodLink RX5 66 yX5_isOrder, Cond.static yX5_isOrder, Cond.code yX5_isOrder cX5_isOrder 1 (some .boolean), Cond.methodLink RL 40 yX5_stateAt, Cond.instanceMethod yX5_stateAt, Cond.selects RX5 yX5_stateAt yX5_stateAt, Cond.code yX5_stateAt cX5_stateAt 3 (some .int), Cond.fieldLink RX5 112 "InspectionOffice$Lot" "state" "I", Cond.methodLink RL 43 yX5_inspected, Cond.instanceMethod yX5_inspected, Cond.selects RX5 yX5_inspected yX5_inspected, Cond.code yX5_inspected cX5_inspected 3 (some .int), Cond.fieldLink RX5 119 "InspectionOffice$Lot" "inspected" "I", Cond.methodLink RL 46 yX5_badIn, Cond.instanceMethod yX5_badIn, Cond.selects RX5 yX5_badIn yX5_badIn, Cond.code yX5_badIn cX5_badIn 3 (some .int), Cond.fieldLink RX5 122 "InspectionOffice$Lot" "bad" "I", Cond.methodLink RL 49 yX5_state, Cond.instanceMethod yX5_state, Cond.selects RX5 yX5_state yX5_state, Cond.code yX5_state cX5_state 1 (some .int)]
def wsL_law0_r5 : List Cond := [Cond.fieldLink RX5 115 "InspectionOffice$Course" "state" "I", Cond.methodLink RL 52 yX5_isSkipping, Cond.instanceMethod yX5_isSkipping, Cond.selects RX5 yX5_isSkipping yX5_isSkipping, Cond.code yX5_isSkipping cX5_isSkipping 1 (some .boolean), Cond.fieldLink RX5 116 "InspectionOffice$Course" "skipping" "Z", Cond.methodLink RL 76 yL_cell, Cond.static yL_cell, Cond.code yL_cell cL_cell 2 (some .int), Cond.constant RL 8 (40503), Cond.methodLink RL 21 yL_low, Cond.static yL_low, Cond.code yL_low cL_low 2 (some .int), Cond.constant RL 7 (2147483647), Cond.methodLink RL 80 yL_findings, Cond.static yL_findings, Cond.code yL_findings cL_findings 2 (some .long), Cond.methodLink RL 83 yL_record, Cond.static yL_record, Cond.codeWith yL_record cL_record 6 (some .int) [(0, 7, 8, 15)], Cond.classLink RL 15 "java/lang/IllegalStateException", Cond.methodLink RL 9 yX5_record, Cond.instanceMethod yX5_record, Cond.selects RX5 yX5_record yX5_record]
def wsL_law0_r6 : List Cond := [Cond.code yX5_record cX5_record 5 (some .int), Cond.instantiable RX3 7, Cond.initialized RX3, Cond.methodLink RX5 72 yX5_isLotSize, Cond.static yX5_isLotSize, Cond.code yX5_isLotSize cX5_isLotSize 1 (some .boolean), Cond.methodLink RX5 75 yX5_isFindings, Cond.static yX5_isFindings, Cond.code yX5_isFindings cX5_isFindings 2 (some .boolean), Cond.constantLong RX5 162 (1125899906842623), Cond.methodLink RX5 89 yX3_init, Cond.instanceMethod yX3_init, Cond.code yX3_init cX3_init 5 none, Cond.methodLink RX3 3 objectInit, Cond.fieldLink RX3 9 "InspectionOffice$Lot" "order" "I", Cond.fieldLink RX3 15 "InspectionOffice$Lot" "size" "I", Cond.fieldLink RX3 18 "InspectionOffice$Lot" "findings" "J", Cond.methodLink RX5 51 yX5_judgeAll, Cond.instanceMethod yX5_judgeAll, Cond.selects RX5 yX5_judgeAll yX5_judgeAll, Cond.code yX5_judgeAll cX5_judgeAll 4 none, Cond.methodLink RX5 164 yX0_restart, Cond.instanceMethod yX0_restart, Cond.selects RX0 yX0_restart yX0_restart]
def wsL_law0_r7 : List Cond := [Cond.code yX0_restart cX0_restart 1 none, Cond.fieldLink RX0 22 "InspectionOffice$Course" "skipping" "Z", Cond.fieldLink RX0 26 "InspectionOffice$Course" "acceptedInRow" "I", Cond.methodLink RX0 18 yX0_begin, Cond.instanceMethod yX0_begin, Cond.selects RX0 yX0_begin yX0_begin, Cond.code yX0_begin cX0_begin 2 none, Cond.fieldLink RX0 30 "InspectionOffice$Course" "state" "I", Cond.methodLink RX0 66 yX2_clear, Cond.instanceMethod yX2_clear, Cond.selects RX2 yX2_clear yX2_clear, Cond.code yX2_clear cX2_clear 1 none, Cond.fieldLink RX2 19 "InspectionOffice$History" "length" "I", Cond.methodLink RX5 167 yX0_pass, Cond.instanceMethod yX0_pass, Cond.selects RX0 yX0_pass yX0_pass, Cond.code yX0_pass cX0_pass 5 none, Cond.fieldLink RX0 33 "InspectionOffice$Course" "changedAt" "I", Cond.fieldLink RX0 36 "InspectionOffice$Lot" "state" "I", Cond.fieldLink RX0 60 "InspectionOffice$Lot" "order" "I", Cond.methodLink RX0 39 yX3_leaveUninspected, Cond.instanceMethod yX3_leaveUninspected, Cond.selects RX3 yX3_leaveUninspected yX3_leaveUninspected, Cond.code yX3_leaveUninspected cX3_leaveUninspected 2 none]
def wsL_law0_r8 : List Cond := [Cond.fieldLink RX3 22 "InspectionOffice$Lot" "inspected" "I", Cond.fieldLink RX3 31 "InspectionOffice$Lot" "bad" "I", Cond.fieldLink RX3 34 "InspectionOffice$Lot" "verdict" "I", Cond.methodLink RX0 42 yX0_isPassedOver, Cond.instanceMethod yX0_isPassedOver, Cond.selects RX0 yX0_isPassedOver yX0_isPassedOver, Cond.code yX0_isPassedOver cX0_isPassedOver 1 (some .boolean), Cond.fieldLink RX0 100 "InspectionOffice$Course" "passedInGroup" "I", Cond.fieldLink RX0 103 "InspectionOffice$Course" "rate" "I", Cond.methodLink RX0 46 yX4_inspect, Cond.instanceMethod yX4_inspect, Cond.selects RX4 yX4_inspect yX4_inspect, Cond.code yX4_inspect cX4_inspect 5 none, Cond.fieldLink RX4 32 "InspectionOffice$Lot" "size" "I", Cond.fieldLink RX4 44 "InspectionOffice$Plans" "twice" "Z", Cond.fieldLink RX4 56 "InspectionOffice$Lot" "bad" "I", Cond.methodLink RX4 37 yX4_sampleUnder, Cond.instanceMethod yX4_sampleUnder, Cond.selects RX4 yX4_sampleUnder yX4_sampleUnder, Cond.code yX4_sampleUnder cX4_sampleUnder 4 (some .int), Cond.methodLink RX4 26 yX4_letterFor, Cond.instanceMethod yX4_letterFor, Cond.selects RX4 yX4_letterFor yX4_letterFor, Cond.code yX4_letterFor cX4_letterFor 7 (some .int)]
def wsL_law0_r9 : List Cond := [Cond.fieldLink RX4 18 "InspectionOffice$Plans" "LARGEST_OF_CLASS" "[I", Cond.methodLink RX4 22 yX4_sampleOf, Cond.static yX4_sampleOf, Cond.code yX4_sampleOf cX4_sampleOf 2 (some .int), Cond.fieldLink RX4 29 "InspectionOffice$Plans" "SAMPLE_OF_LETTER" "[I", Cond.methodLink RX4 41 yX4_acceptingUnder, Cond.instanceMethod yX4_acceptingUnder, Cond.selects RX4 yX4_acceptingUnder yX4_acceptingUnder, Cond.code yX4_acceptingUnder cX4_acceptingUnder 4 (some .int), Cond.methodLink RX4 48 yX4_inspectTwice, Cond.static yX4_inspectTwice, Cond.code yX4_inspectTwice cX4_inspectTwice 5 none, Cond.methodLink RX4 63 Lib.Math.min.name, Cond.static Lib.Math.min.name, Cond.initialized "java/lang/Math", Cond.code Lib.Math.min.name Lib.Math.min.code 2 (some .int), Cond.methodLink RX4 52 yX3_inspectFirst, Cond.instanceMethod yX3_inspectFirst, Cond.selects RX3 yX3_inspectFirst yX3_inspectFirst, Cond.code yX3_inspectFirst cX3_inspectFirst 2 none, Cond.methodLink RX3 25 yJ13_bitCount_95d88, Cond.static yJ13_bitCount_95d88, Cond.initialized RJ13, Cond.code yJ13_bitCount_95d88 cJ13_bitCount_95d88 2 (some .int)]
def wsL_law0_r10 : List Cond := [Cond.constantLong RJ13 314 (6148914691236517205), Cond.constantLong RJ13 316 (3689348814741910323), Cond.constantLong RJ13 318 (1085102592571150095), Cond.methodLink RX4 59 yX3_judge, Cond.instanceMethod yX3_judge, Cond.selects RX3 yX3_judge yX3_judge, Cond.code yX3_judge cX3_judge 2 none, Cond.methodLink RX0 52 yX2_add, Cond.instanceMethod yX2_add, Cond.selects RX2 yX2_add yX2_add, Cond.code yX2_add cX2_add 2 none, Cond.fieldLink RX2 23 "InspectionOffice$Lot" "verdict" "I", Cond.fieldLink RX2 28 "InspectionOffice$Lot" "bad" "I", Cond.methodLink RX0 56 yX0_nextBehind, Cond.instanceMethod yX0_nextBehind, Cond.selects RX0 yX0_nextBehind yX0_nextBehind, Cond.code yX0_nextBehind cX0_nextBehind 4 (some .int), Cond.fieldLink RX0 76 "InspectionOffice$Lot" "bad" "I", Cond.fieldLink RX0 79 "InspectionOffice$Lot" "size" "I", Cond.methodLink RX0 69 yX0_behindNormal, Cond.instanceMethod yX0_behindNormal, Cond.selects RX0 yX0_behindNormal yX0_behindNormal, Cond.code yX0_behindNormal cX0_behindNormal 2 (some .int), Cond.fieldLink RX0 97 "InspectionOffice$Course" "steady" "Z"]
def wsL_law0_r11 : List Cond := [Cond.methodLink RX0 86 yX2_refusedInLast, Cond.instanceMethod yX2_refusedInLast, Cond.selects RX2 yX2_refusedInLast yX2_refusedInLast, Cond.code yX2_refusedInLast cX2_refusedInLast 5 (some .int), Cond.methodLink RX0 90 yX2_lastWereAccepted, Cond.instanceMethod yX2_lastWereAccepted, Cond.selects RX2 yX2_lastWereAccepted yX2_lastWereAccepted, Cond.code yX2_lastWereAccepted cX2_lastWereAccepted 2 (some .boolean), Cond.methodLink RX2 30 yX2_refusedInLast, Cond.methodLink RX0 94 yX2_badInLast, Cond.instanceMethod yX2_badInLast, Cond.selects RX2 yX2_badInLast yX2_badInLast, Cond.code yX2_badInLast cX2_badInLast 5 (some .int), Cond.methodLink RX0 73 yX0_behindTightened, Cond.instanceMethod yX0_behindTightened, Cond.selects RX0 yX0_behindTightened yX0_behindTightened, Cond.code yX0_behindTightened cX0_behindTightened 1 (some .int), Cond.methodLink RX0 82 yX4_acceptingUnder, Cond.methodLink RX0 63 yX0_countForSkipping, Cond.instanceMethod yX0_countForSkipping, Cond.selects RX0 yX0_countForSkipping yX0_countForSkipping, Cond.code yX0_countForSkipping cX0_countForSkipping 2 none, Cond.fieldLink RX0 106 "InspectionOffice$Lot" "verdict" "I", Cond.methodLink RL 86 yL_again]
def wsL_law0_r12 : List Cond := [Cond.static yL_again, Cond.code yL_again cL_again 9 (some .boolean), Cond.methodLink RL 56 yX5_correct, Cond.instanceMethod yX5_correct, Cond.selects RX5 yX5_correct yX5_correct, Cond.code yX5_correct cX5_correct 7 (some .long), Cond.fieldLink RX5 100 "InspectionOffice$Lot" "findings" "J", Cond.methodLink RL 17 yX5_strike, Cond.instanceMethod yX5_strike, Cond.selects RX5 yX5_strike yX5_strike, Cond.code yX5_strike cX5_strike 2 (some .int), Cond.methodLink RL 90 yL_strike, Cond.static yL_strike, Cond.codeWith yL_strike cL_strike 3 (some .int) [(0, 5, 6, 15)], Cond.methodLink RL 93 yX5_setPlan, Cond.instanceMethod yX5_setPlan, Cond.selects RX5 yX5_setPlan yX5_setPlan, Cond.code yX5_setPlan cX5_setPlan 3 none, Cond.fieldLink RX5 44 "InspectionOffice$Plans" "level" "I", Cond.fieldLink RX5 48 "InspectionOffice$Plans" "quality" "I", Cond.methodLink RL 97 yX5_setWays, Cond.instanceMethod yX5_setWays, Cond.selects RX5 yX5_setWays yX5_setWays, Cond.code yX5_setWays cX5_setWays 4 none]
def wsL_law0_r13 : List Cond := [Cond.fieldLink RX5 56 "InspectionOffice$Plans" "twice" "Z", Cond.fieldLink RX5 60 "InspectionOffice$Course" "steady" "Z", Cond.fieldLink RX5 63 "InspectionOffice$Course" "rate" "I", Cond.methodLink RL 101 yX5_toggleMark, Cond.instanceMethod yX5_toggleMark, Cond.selects RX5 yX5_toggleMark yX5_toggleMark, Cond.code yX5_toggleMark cX5_toggleMark 2 (some .boolean), Cond.methodLink RL 105 yL_curves, Cond.static yL_curves, Cond.code yL_curves cL_curves 9 (some .boolean), Cond.methodLink RL 60 yX5_accepted, Cond.instanceMethod yX5_accepted, Cond.selects RX5 yX5_accepted yX5_accepted, Cond.code yX5_accepted cX5_accepted 5 (some .long), Cond.methodLink RX5 152 yX1_withAtMost, Cond.static yX1_withAtMost, Cond.initialized RX1, Cond.code yX1_withAtMost cX1_withAtMost 7 (some .long), Cond.methodLink RX1 13 yX1_withExactly, Cond.static yX1_withExactly, Cond.code yX1_withExactly cX1_withExactly 4 (some .long), Cond.methodLink RX1 7 yX1_choices, Cond.static yX1_choices, Cond.code yX1_choices cX1_choices 5 (some .long)]
def wsL_law0_r14 : List Cond := [Cond.methodLink RL 64 yX5_acceptedByListing, Cond.instanceMethod yX5_acceptedByListing, Cond.selects RX5 yX5_acceptedByListing yX5_acceptedByListing, Cond.code yX5_acceptedByListing cX5_acceptedByListing 5 (some .long), Cond.methodLink RX5 156 yX1_listedWithAtMost, Cond.static yX1_listedWithAtMost, Cond.code yX1_listedWithAtMost cX1_listedWithAtMost 10 (some .long), Cond.methodLink RX1 17 yJ6_bitCount_0f7a4, Cond.static yJ6_bitCount_0f7a4, Cond.initialized RJ6, Cond.code yJ6_bitCount_0f7a4 cJ6_bitCount_0f7a4 1 (some .int), Cond.constant RJ6 265 (1431655765), Cond.constant RJ6 266 (858993459), Cond.constant RJ6 267 (252645135), Cond.methodLink RX1 23 yX1_nextWithAsManyBits, Cond.static yX1_nextWithAsManyBits, Cond.code yX1_nextWithAsManyBits cX1_nextWithAsManyBits 3 (some .int), Cond.constant RX1 26 (2147483647), Cond.methodLink RL 67 yX5_samples, Cond.instanceMethod yX5_samples, Cond.selects RX5 yX5_samples yX5_samples, Cond.code yX5_samples cX5_samples 3 (some .long), Cond.methodLink RX5 144 yX1_choices]
def wsL_law0 : List Cond := (wsL_law0_r1 ++ (wsL_law0_r2 ++ (wsL_law0_r3 ++ (wsL_law0_r4 ++ (wsL_law0_r5 ++ (wsL_law0_r6 ++ (wsL_law0_r7 ++ (wsL_law0_r8 ++ (wsL_law0_r9 ++ (wsL_law0_r10 ++ (wsL_law0_r11 ++ (wsL_law0_r12 ++ (wsL_law0_r13 ++ wsL_law0_r14))))))))))))) ++ wsX50 ++ wsX40 ++ wsX00 ++ wsX20 ++ wsX30 ++ ([] : List Cond)
def wsL_law : List Cond := wsL_law0 ++ (vx_atS RX5 41 "java/lang/IllegalArgumentException" ["java/lang/RuntimeException", "java/lang/Exception"]).filter goodWord ++ (vx_atS RX5 108 "java/lang/IndexOutOfBoundsException" ["java/lang/RuntimeException", "java/lang/Exception"]).filter goodWord ++ (vx_atS RX5 88 "java/lang/IllegalStateException" ["java/lang/RuntimeException", "java/lang/Exception"]).filter goodWord
set_option maxRecDepth 20000 in
theorem ggX0_init_X2_init : GoodIn wsX0_init wsX2_init := goodIn_r _ [9, 10, 2, 3, 11, 12, 13, 14, 15, 16, 17] (by decide +kernel) (by decide +kernel)
set_option maxRecDepth 20000 in
theorem gX0_init_X2_init_n11 : GoodIn wsX0_init (wsX2_init) := ggX0_init_X2_init
set_option maxRecDepth 20000 in
theorem ggX0_restart_X0_begin : GoodIn wsX0_restart wsX0_begin := goodIn_r _ [7, 8, 9, 10, 11, 12, 13, 14, 15, 16, 17, 18, 19, 20, 21, 22, 23, 24, 25, 26] (by decide +kernel) (by decide +kernel)
set_option maxRecDepth 20000 in
theorem gX0_restart_X0_begin : GoodIn wsX0_restart (wsV RX0 18 RX0 yX0_begin wsX0_begin) := goodIn_app (goodIn_of _ (by decide +kernel)) ggX0_restart_X0_begin
set_option maxRecDepth 20000 in
theorem ggX0_pass_X0_begin : GoodIn wsX0_pass wsX0_begin := goodIn_r _ [10, 1, 4, 11, 12, 13, 14, 15, 16, 125, 126, 127, 128, 129, 130, 131, 132, 140, 141, 142] (by decide +kernel) (by decide +kernel)
set_option maxRecDepth 20000 in
theorem gX0_pass_X0_begin : GoodIn wsX0_pass (wsV RX0 18 RX0 yX0_begin wsX0_begin) := goodIn_app (goodIn_of _ (by decide +kernel)) ggX0_pass_X0_begin
set_option maxRecDepth 20000 in
theorem ggX0_pass_X3_leaveUninspected : GoodIn wsX0_pass wsX3_leaveUninspected := goodIn_r _ [21, 22, 23, 24, 133, 134, 135, 136, 137, 138, 139] (by decide +kernel) (by decide +kernel)
set_option maxRecDepth 20000 in
theorem gX0_pass_X3_leaveUninspected : GoodIn wsX0_pass (wsV RX0 39 RX3 yX3_leaveUninspected wsX3_leaveUninspected) := goodIn_app (goodIn_of _ (by decide +kernel)) ggX0_pass_X3_leaveUninspected
set_option maxRecDepth 20000 in
theorem ggX0_pass_X0_isPassedOver : GoodIn wsX0_pass wsX0_isPassedOver := goodIn_r _ [28, 29, 30, 31, 125, 126, 127, 128, 129, 130, 131, 132] (by decide +kernel) (by decide +kernel)
set_option maxRecDepth 20000 in
theorem gX0_pass_X0_isPassedOver : GoodIn wsX0_pass (wsV RX0 42 RX0 yX0_isPassedOver wsX0_isPassedOver) := goodIn_app (goodIn_of _ (by decide +kernel)) ggX0_pass_X0_isPassedOver
set_option maxRecDepth 20000 in
theorem ggX0_pass_X4_inspect : GoodIn wsX0_pass wsX4_inspect := goodIn_r _ [36, 37, 38, 39, 40, 41, 42, 35, 43, 44, 45, 46, 47, 48, 49, 50, 51, 52, 53, 54, 55, 56, 57, 58, 59, 60, 61, 62, 63, 64, 65, 66, 67, 68, 20, 69, 22, 70, 23, 71, 72, 73, 74, 75, 76, 77, 78, 79, 80, 81, 24, 133, 134, 135, 136, 137, 138, 139, 143, 144, 145] (by decide +kernel) (by decide +kernel)
set_option maxRecDepth 20000 in
theorem gX0_pass_X4_inspect : GoodIn wsX0_pass (wsV RX0 46 RX4 yX4_inspect wsX4_inspect) := goodIn_app (goodIn_of _ (by decide +kernel)) ggX0_pass_X4_inspect
set_option maxRecDepth 20000 in
theorem ggX0_pass_X2_add : GoodIn wsX0_pass wsX2_add := goodIn_r _ [85, 16, 86, 87, 88, 89, 140, 141, 142, 133, 134, 135, 136, 137, 138, 139] (by decide +kernel) (by decide +kernel)
set_option maxRecDepth 20000 in
theorem gX0_pass_X2_add : GoodIn wsX0_pass (wsV RX0 52 RX2 yX2_add wsX2_add) := goodIn_app (goodIn_of _ (by decide +kernel)) ggX0_pass_X2_add
set_option maxRecDepth 20000 in
theorem ggX0_pass_X0_nextBehind : GoodIn wsX0_pass wsX0_nextBehind := goodIn_r _ [93, 1, 94, 95, 96, 97, 98, 9, 99, 4, 100, 101, 102, 103, 14, 104, 16, 86, 105, 106, 107, 108, 109, 110, 111, 112, 113, 88, 114, 115, 116, 117, 118, 55, 56, 35, 57, 58, 44, 45, 46, 47, 48, 49, 50, 51, 52, 53, 125, 126, 127, 128, 129, 130, 131, 132, 133, 134, 135, 136, 137, 138, 139, 140, 141, 142, 143, 144, 145] (by decide +kernel) (by decide +kernel)
set_option maxRecDepth 20000 in
theorem gX0_pass_X0_nextBehind : GoodIn wsX0_pass (wsV RX0 56 RX0 yX0_nextBehind wsX0_nextBehind) := goodIn_app (goodIn_of _ (by decide +kernel)) ggX0_pass_X0_nextBehind
set_option maxRecDepth 20000 in
theorem ggX0_pass_X0_countForSkipping : GoodIn wsX0_pass wsX0_countForSkipping := goodIn_r _ [122, 123, 3, 1, 29, 124, 31, 30, 133, 134, 135, 136, 137, 138, 139, 125, 126, 127, 128, 129, 130, 131, 132] (by decide +kernel) (by decide +kernel)
set_option maxRecDepth 20000 in
theorem gX0_pass_X0_countForSkipping : GoodIn wsX0_pass (wsV RX0 63 RX0 yX0_countForSkipping wsX0_countForSkipping) := goodIn_app (goodIn_of _ (by decide +kernel)) ggX0_pass_X0_countForSkipping
set_option maxRecDepth 20000 in
theorem ggX0_begin_X2_clear : GoodIn wsX0_begin wsX2_clear := goodIn_r _ [7, 8, 17, 18, 19] (by decide +kernel) (by decide +kernel)
set_option maxRecDepth 20000 in
theorem gX0_begin_X2_clear : GoodIn wsX0_begin (wsV RX0 66 RX2 yX2_clear wsX2_clear) := goodIn_app (goodIn_of _ (by decide +kernel)) ggX0_begin_X2_clear
set_option maxRecDepth 20000 in
theorem ggX0_nextBehind_X0_behindNormal : GoodIn wsX0_nextBehind wsX0_behindNormal := goodIn_r _ [8, 9, 10, 11, 12, 13, 14, 15, 16, 17, 18, 19, 20, 21, 22, 23, 24, 25, 26, 27, 48, 49, 50, 51, 52, 53, 54, 55, 63, 64, 65] (by decide +kernel) (by decide +kernel)
set_option maxRecDepth 20000 in
theorem gX0_nextBehind_X0_behindNormal : GoodIn wsX0_nextBehind (wsV RX0 69 RX0 yX0_behindNormal wsX0_behindNormal) := goodIn_app (goodIn_of _ (by decide +kernel)) ggX0_nextBehind_X0_behindNormal
set_option maxRecDepth 20000 in
theorem ggX0_nextBehind_X0_behindTightened : GoodIn wsX0_nextBehind wsX0_behindTightened := goodIn_r _ [31, 9, 18, 19, 20, 14, 21, 16, 22, 12, 13, 15, 17, 11, 48, 49, 50, 51, 52, 53, 54, 55, 63, 64, 65] (by decide +kernel) (by decide +kernel)
set_option maxRecDepth 20000 in
theorem gX0_nextBehind_X0_behindTightened : GoodIn wsX0_nextBehind (wsV RX0 73 RX0 yX0_behindTightened wsX0_behindTightened) := goodIn_app (goodIn_of _ (by decide +kernel)) ggX0_nextBehind_X0_behindTightened
set_option maxRecDepth 20000 in
theorem ggX0_nextBehind_X4_acceptingUnder : GoodIn wsX0_nextBehind wsX4_acceptingUnder := goodIn_r _ [36, 37, 38, 39, 40, 35, 41, 42, 43, 44, 45, 46, 47, 66, 67, 68] (by decide +kernel) (by decide +kernel)
set_option maxRecDepth 20000 in
theorem gX0_nextBehind_X4_acceptingUnder : GoodIn wsX0_nextBehind (wsV RX0 82 RX4 yX4_acceptingUnder wsX4_acceptingUnder) := goodIn_app (goodIn_of _ (by decide +kernel)) ggX0_nextBehind_X4_acceptingUnder
set_option maxRecDepth 20000 in
theorem ggX0_behindNormal_X2_refusedInLast : GoodIn wsX0_behindNormal wsX2_refusedInLast := goodIn_r _ [7, 8, 9, 28, 29, 30] (by decide +kernel) (by decide +kernel)
set_option maxRecDepth 20000 in
theorem gX0_behindNormal_X2_refusedInLast : GoodIn wsX0_behindNormal (wsV RX0 86 RX2 yX2_refusedInLast wsX2_refusedInLast) := goodIn_app (goodIn_of _ (by decide +kernel)) ggX0_behindNormal_X2_refusedInLast
set_option maxRecDepth 20000 in
theorem ggX0_behindNormal_X2_lastWereAccepted : GoodIn wsX0_behindNormal wsX2_lastWereAccepted := goodIn_r _ [13, 8, 14, 4, 5, 6, 7, 9, 28, 29, 30] (by decide +kernel) (by decide +kernel)
set_option maxRecDepth 20000 in
theorem gX0_behindNormal_X2_lastWereAccepted : GoodIn wsX0_behindNormal (wsV RX0 90 RX2 yX2_lastWereAccepted wsX2_lastWereAccepted) := goodIn_app (goodIn_of _ (by decide +kernel)) ggX0_behindNormal_X2_lastWereAccepted
set_option maxRecDepth 20000 in
theorem ggX0_behindNormal_X2_badInLast : GoodIn wsX0_behindNormal wsX2_badInLast := goodIn_r _ [18, 8, 19, 28, 29, 30] (by decide +kernel) (by decide +kernel)
set_option maxRecDepth 20000 in
theorem gX0_behindNormal_X2_badInLast : GoodIn wsX0_behindNormal (wsV RX0 94 RX2 yX2_badInLast wsX2_badInLast) := goodIn_app (goodIn_of _ (by decide +kernel)) ggX0_behindNormal_X2_badInLast
set_option maxRecDepth 20000 in
theorem ggX0_behindTightened_X2_lastWereAccepted : GoodIn wsX0_behindTightened wsX2_lastWereAccepted := goodIn_r _ [6, 7, 8, 9, 10, 5, 11, 12, 22, 23, 24] (by decide +kernel) (by decide +kernel)
set_option maxRecDepth 20000 in
theorem gX0_behindTightened_X2_lastWereAccepted : GoodIn wsX0_behindTightened (wsV RX0 90 RX2 yX2_lastWereAccepted wsX2_lastWereAccepted) := goodIn_app (goodIn_of _ (by decide +kernel)) ggX0_behindTightened_X2_lastWereAccepted
set_option maxRecDepth 20000 in
theorem ggX0_behindTightened_X2_refusedInLast : GoodIn wsX0_behindTightened wsX2_refusedInLast := goodIn_r _ [11, 7, 12, 22, 23, 24] (by decide +kernel) (by decide +kernel)
set_option maxRecDepth 20000 in
theorem gX0_behindTightened_X2_refusedInLast : GoodIn wsX0_behindTightened (wsV RX0 86 RX2 yX2_refusedInLast wsX2_refusedInLast) := goodIn_app (goodIn_of _ (by decide +kernel)) ggX0_behindTightened_X2_refusedInLast
set_option maxRecDepth 20000 in
theorem ggX1_withExactly_X1_choices : GoodIn wsX1_withExactly wsX1_choices := goodIn_r _ [4] (by decide +kernel) (by decide +kernel)
set_option maxRecDepth 20000 in
theorem gX1_withExactly_X1_choices : GoodIn wsX1_withExactly (va_wsS RX1 7 yX1_choices wsX1_choices) := goodIn_app (goodIn_of _ (by decide +kernel)) ggX1_withExactly_X1_choices
set_option maxRecDepth 20000 in
theorem ggX1_withAtMost_X1_withExactly : GoodIn wsX1_withAtMost wsX1_withExactly := goodIn_r _ [4, 5, 6, 3, 7] (by decide +kernel) (by decide +kernel)
set_option maxRecDepth 20000 in
theorem gX1_withAtMost_X1_withExactly : GoodIn wsX1_withAtMost (va_wsS RX1 13 yX1_withExactly wsX1_withExactly) := goodIn_app (goodIn_of _ (by decide +kernel)) ggX1_withAtMost_X1_withExactly
set_option maxRecDepth 20000 in
theorem ggX1_listedWithAtMost_J6_bitCount_0f7a4 : GoodIn wsX1_listedWithAtMost wsJ6_bitCount_0f7a4 := goodIn_r _ [4, 5, 6, 7] (by decide +kernel) (by decide +kernel)
set_option maxRecDepth 20000 in
theorem gX1_listedWithAtMost_J6_bitCount_0f7a4 : GoodIn wsX1_listedWithAtMost (va_wsS RX1 17 yJ6_bitCount_0f7a4 wsJ6_bitCount_0f7a4) := goodIn_app (goodIn_of _ (by decide +kernel)) ggX1_listedWithAtMost_J6_bitCount_0f7a4
set_option maxRecDepth 20000 in
theorem ggX1_listedWithAtMost_X1_nextWithAsManyBits : GoodIn wsX1_listedWithAtMost wsX1_nextWithAsManyBits := goodIn_r _ [11, 12] (by decide +kernel) (by decide +kernel)
set_option maxRecDepth 20000 in
theorem gX1_listedWithAtMost_X1_nextWithAsManyBits : GoodIn wsX1_listedWithAtMost (va_wsS RX1 23 yX1_nextWithAsManyBits wsX1_nextWithAsManyBits) := goodIn_app (goodIn_of _ (by decide +kernel)) ggX1_listedWithAtMost_X1_nextWithAsManyBits
set_option maxRecDepth 20000 in
theorem ggX2_lastWereAccepted_X2_refusedInLast : GoodIn wsX2_lastWereAccepted wsX2_refusedInLast := goodIn_r _ [6, 1, 7, 8, 9, 10] (by decide +kernel) (by decide +kernel)
set_option maxRecDepth 20000 in
theorem gX2_lastWereAccepted_X2_refusedInLast : GoodIn wsX2_lastWereAccepted (wsV RX2 30 RX2 yX2_refusedInLast wsX2_refusedInLast) := goodIn_app (goodIn_of _ (by decide +kernel)) ggX2_lastWereAccepted_X2_refusedInLast
set_option maxRecDepth 20000 in
theorem ggX3_inspectFirst_J13_bitCount_95d88 : GoodIn wsX3_inspectFirst wsJ13_bitCount_95d88 := goodIn_r _ [7, 8, 9, 10] (by decide +kernel) (by decide +kernel)
set_option maxRecDepth 20000 in
theorem gX3_inspectFirst_J13_bitCount_95d88 : GoodIn wsX3_inspectFirst (va_wsS RX3 25 yJ13_bitCount_95d88 wsJ13_bitCount_95d88) := goodIn_app (goodIn_of _ (by decide +kernel)) ggX3_inspectFirst_J13_bitCount_95d88
set_option maxRecDepth 20000 in
theorem ggX4_letterFor_X4_sampleOf : GoodIn wsX4_letterFor wsX4_sampleOf := goodIn_r _ [6, 7] (by decide +kernel) (by decide +kernel)
set_option maxRecDepth 20000 in
theorem gX4_letterFor_X4_sampleOf : GoodIn wsX4_letterFor (va_wsS RX4 22 yX4_sampleOf wsX4_sampleOf) := goodIn_app (goodIn_of _ (by decide +kernel)) ggX4_letterFor_X4_sampleOf
set_option maxRecDepth 20000 in
theorem ggX4_sampleUnder_X4_letterFor : GoodIn wsX4_sampleUnder wsX4_letterFor := goodIn_r _ [5, 6, 7, 8, 9, 4, 10, 11, 12, 13, 14] (by decide +kernel) (by decide +kernel)
set_option maxRecDepth 20000 in
theorem gX4_sampleUnder_X4_letterFor : GoodIn wsX4_sampleUnder (wsV RX4 26 RX4 yX4_letterFor wsX4_letterFor) := goodIn_app (goodIn_of _ (by decide +kernel)) ggX4_sampleUnder_X4_letterFor
set_option maxRecDepth 20000 in
theorem ggX4_sampleUnder_X4_sampleOf : GoodIn wsX4_sampleUnder wsX4_sampleOf := goodIn_r _ [10, 11] (by decide +kernel) (by decide +kernel)
set_option maxRecDepth 20000 in
theorem gX4_sampleUnder_X4_sampleOf : GoodIn wsX4_sampleUnder (va_wsS RX4 22 yX4_sampleOf wsX4_sampleOf) := goodIn_app (goodIn_of _ (by decide +kernel)) ggX4_sampleUnder_X4_sampleOf
set_option maxRecDepth 20000 in
theorem ggX4_acceptingUnder_X4_letterFor : GoodIn wsX4_acceptingUnder wsX4_letterFor := goodIn_r _ [6, 7, 8, 9, 10, 5, 11, 12, 13, 14, 15] (by decide +kernel) (by decide +kernel)
set_option maxRecDepth 20000 in
theorem gX4_acceptingUnder_X4_letterFor : GoodIn wsX4_acceptingUnder (wsV RX4 26 RX4 yX4_letterFor wsX4_letterFor) := goodIn_app (goodIn_of _ (by decide +kernel)) ggX4_acceptingUnder_X4_letterFor
set_option maxRecDepth 20000 in
theorem ggX4_acceptingUnder_X4_sampleOf : GoodIn wsX4_acceptingUnder wsX4_sampleOf := goodIn_r _ [11, 12] (by decide +kernel) (by decide +kernel)
set_option maxRecDepth 20000 in
theorem gX4_acceptingUnder_X4_sampleOf : GoodIn wsX4_acceptingUnder (va_wsS RX4 22 yX4_sampleOf wsX4_sampleOf) := goodIn_app (goodIn_of _ (by decide +kernel)) ggX4_acceptingUnder_X4_sampleOf
set_option maxRecDepth 20000 in
theorem ggX4_inspect_X4_sampleUnder : GoodIn wsX4_inspect wsX4_sampleUnder := goodIn_r _ [8, 9, 10, 11, 7, 12, 13, 14, 15, 16, 17, 18, 58, 59, 60] (by decide +kernel) (by decide +kernel)
set_option maxRecDepth 20000 in
theorem gX4_inspect_X4_sampleUnder : GoodIn wsX4_inspect (wsV RX4 37 RX4 yX4_sampleUnder wsX4_sampleUnder) := goodIn_app (goodIn_of _ (by decide +kernel)) ggX4_inspect_X4_sampleUnder
set_option maxRecDepth 20000 in
theorem ggX4_inspect_X4_acceptingUnder : GoodIn wsX4_inspect wsX4_acceptingUnder := goodIn_r _ [22, 23, 9, 10, 11, 7, 12, 13, 14, 15, 16, 17, 18, 58, 59, 60] (by decide +kernel) (by decide +kernel)
set_option maxRecDepth 20000 in
theorem gX4_inspect_X4_acceptingUnder : GoodIn wsX4_inspect (wsV RX4 41 RX4 yX4_acceptingUnder wsX4_acceptingUnder) := goodIn_app (goodIn_of _ (by decide +kernel)) ggX4_inspect_X4_acceptingUnder
set_option maxRecDepth 20000 in
theorem ggX4_inspect_X4_inspectTwice : GoodIn wsX4_inspect wsX4_inspectTwice := goodIn_r _ [26, 3, 1, 27, 28, 29, 30, 31, 32, 33, 34, 35, 36, 37, 38, 39, 40, 41, 42, 43, 44, 45, 46, 47, 48, 49, 50, 51, 52, 53, 54, 55, 56, 57] (by decide +kernel) (by decide +kernel)
set_option maxRecDepth 20000 in
theorem gX4_inspect_X4_inspectTwice : GoodIn wsX4_inspect (va_wsS RX4 48 yX4_inspectTwice wsX4_inspectTwice) := goodIn_app (goodIn_of _ (by decide +kernel)) ggX4_inspect_X4_inspectTwice
set_option maxRecDepth 20000 in
theorem ggX4_inspect_X3_inspectFirst : GoodIn wsX4_inspect wsX3_inspectFirst := goodIn_r _ [35, 36, 37, 38, 39, 40, 41, 42, 43, 44, 45, 51, 52, 53, 54, 55, 56, 57] (by decide +kernel) (by decide +kernel)
set_option maxRecDepth 20000 in
theorem gX4_inspect_X3_inspectFirst : GoodIn wsX4_inspect (wsV RX4 52 RX3 yX3_inspectFirst wsX3_inspectFirst) := goodIn_app (goodIn_of _ (by decide +kernel)) ggX4_inspect_X3_inspectFirst
set_option maxRecDepth 20000 in
theorem ggX4_inspect_X3_judge : GoodIn wsX4_inspect wsX3_judge := goodIn_r _ [49, 50, 51, 52, 53, 54, 55, 56, 57] (by decide +kernel) (by decide +kernel)
set_option maxRecDepth 20000 in
theorem gX4_inspect_X3_judge : GoodIn wsX4_inspect (wsV RX4 59 RX3 yX3_judge wsX3_judge) := goodIn_app (goodIn_of _ (by decide +kernel)) ggX4_inspect_X3_judge
set_option maxRecDepth 20000 in
theorem ggX4_inspectTwice_X3_inspectFirst : GoodIn wsX4_inspectTwice wsX3_inspectFirst := goodIn_r _ [11, 12, 13, 14, 15, 16, 17, 18, 19, 20, 21, 27, 28, 29, 30, 31, 32, 33] (by decide +kernel) (by decide +kernel)
set_option maxRecDepth 20000 in
theorem gX4_inspectTwice_X3_inspectFirst : GoodIn wsX4_inspectTwice (wsV RX4 52 RX3 yX3_inspectFirst wsX3_inspectFirst) := goodIn_app (goodIn_of _ (by decide +kernel)) ggX4_inspectTwice_X3_inspectFirst
set_option maxRecDepth 20000 in
theorem ggX4_inspectTwice_X3_judge : GoodIn wsX4_inspectTwice wsX3_judge := goodIn_r _ [25, 26, 27, 28, 29, 30, 31, 32, 33] (by decide +kernel) (by decide +kernel)
set_option maxRecDepth 20000 in
theorem gX4_inspectTwice_X3_judge : GoodIn wsX4_inspectTwice (wsV RX4 59 RX3 yX3_judge wsX3_judge) := goodIn_app (goodIn_of _ (by decide +kernel)) ggX4_inspectTwice_X3_judge
set_option maxRecDepth 20000 in
theorem ggX5_init_X4_init : GoodIn wsX5_init wsX4_init := goodIn_r _ [17, 18, 2, 3, 19, 20, 39, 40, 41] (by decide +kernel) (by decide +kernel)
set_option maxRecDepth 20000 in
theorem gX5_init_X4_init_n21 : GoodIn wsX5_init (wsX4_init) := ggX5_init_X4_init
set_option maxRecDepth 20000 in
theorem ggX5_init_X0_init : GoodIn wsX5_init wsX0_init := goodIn_r _ [22, 23, 2, 3, 24, 25, 26, 27, 28, 29, 30, 6, 31, 32, 33, 50, 51, 52, 42, 43, 44, 45, 46, 47, 48, 49] (by decide +kernel) (by decide +kernel)
set_option maxRecDepth 20000 in
theorem gX5_init_X0_init_n28 : GoodIn wsX5_init (wsX0_init) := ggX5_init_X0_init
set_option maxRecDepth 20000 in
theorem ggX5_setPlan_X5_isWithin : GoodIn wsX5_setPlan wsX5_isWithin := goodIn_r _ [9] (by decide +kernel) (by decide +kernel)
set_option maxRecDepth 20000 in
theorem gX5_setPlan_X5_isWithin : GoodIn wsX5_setPlan (va_wsS RX5 33 yX5_isWithin wsX5_isWithin) := goodIn_app (goodIn_of _ (by decide +kernel)) ggX5_setPlan_X5_isWithin
set_option maxRecDepth 20000 in
theorem ggX5_setPlan_X5_judgeAll : GoodIn wsX5_setPlan wsX5_judgeAll := goodIn_r _ [13, 14, 15, 16, 3, 17, 18, 19, 20, 21, 22, 23, 24, 25, 26, 27, 28, 29, 30, 31, 32, 33, 34, 35, 36, 37, 38, 39, 40, 41, 42, 43, 44, 45, 46, 47, 48, 49, 50, 51, 52, 53, 54, 55, 56, 57, 58, 59, 60, 61, 62, 63, 64, 65, 66, 67, 68, 69, 70, 71, 72, 73, 74, 75, 76, 77, 78, 79, 80, 81, 82, 83, 84, 85, 86, 87, 88, 89, 90, 91, 92, 93, 94, 95, 96, 97, 98, 99, 100, 101, 102, 103, 104, 105, 106, 107, 108, 109, 110, 111, 112, 113, 114, 115, 116, 117, 118, 119, 120, 121, 122, 123, 124, 125, 126, 127, 128, 129, 130, 131, 132, 133, 134, 135, 136, 137, 138, 139, 140, 141, 142, 143, 144, 145, 146, 147, 148, 149, 150, 151, 152, 153, 157, 158, 159, 160, 161, 162, 163, 164, 165, 166, 167, 168, 169, 170, 171, 172, 173, 174, 154, 155, 156] (by decide +kernel) (by decide +kernel)
set_option maxRecDepth 20000 in
theorem gX5_setPlan_X5_judgeAll : GoodIn wsX5_setPlan (wsV RX5 51 RX5 yX5_judgeAll wsX5_judgeAll) := goodIn_app (goodIn_of _ (by decide +kernel)) ggX5_setPlan_X5_judgeAll
set_option maxRecDepth 20000 in
theorem ggX5_setWays_X5_isWithin : GoodIn wsX5_setWays wsX5_isWithin := goodIn_r _ [11] (by decide +kernel) (by decide +kernel)
set_option maxRecDepth 20000 in
theorem gX5_setWays_X5_isWithin : GoodIn wsX5_setWays (va_wsS RX5 33 yX5_isWithin wsX5_isWithin) := goodIn_app (goodIn_of _ (by decide +kernel)) ggX5_setWays_X5_isWithin
set_option maxRecDepth 20000 in
theorem ggX5_setWays_X5_judgeAll : GoodIn wsX5_setWays wsX5_judgeAll := goodIn_r _ [15, 5, 16, 17, 3, 18, 19, 20, 21, 22, 23, 24, 25, 26, 27, 28, 29, 30, 31, 32, 33, 34, 35, 36, 37, 38, 39, 40, 41, 42, 43, 44, 45, 46, 47, 48, 49, 50, 51, 52, 53, 54, 55, 56, 57, 58, 59, 60, 61, 62, 63, 64, 65, 66, 67, 68, 69, 70, 71, 72, 73, 74, 75, 76, 77, 78, 79, 80, 81, 82, 83, 84, 85, 86, 87, 88, 89, 90, 91, 92, 93, 94, 95, 96, 97, 98, 99, 100, 101, 102, 103, 104, 105, 106, 107, 108, 109, 110, 111, 112, 113, 114, 115, 116, 117, 118, 119, 120, 121, 122, 123, 124, 125, 126, 127, 128, 129, 130, 131, 132, 133, 134, 135, 136, 137, 138, 139, 140, 141, 142, 143, 144, 145, 146, 147, 148, 149, 150, 151, 152, 153, 154, 158, 159, 160, 161, 162, 163, 164, 165, 166, 167, 168, 169, 170, 171, 172, 173, 174, 175, 155, 156, 157] (by decide +kernel) (by decide +kernel)
set_option maxRecDepth 20000 in
theorem gX5_setWays_X5_judgeAll : GoodIn wsX5_setWays (wsV RX5 51 RX5 yX5_judgeAll wsX5_judgeAll) := goodIn_app (goodIn_of _ (by decide +kernel)) ggX5_setWays_X5_judgeAll
set_option maxRecDepth 20000 in
theorem ggX5_toggleMark_X5_isOrder : GoodIn wsX5_toggleMark wsX5_isOrder := goodIn_r _ [7] (by decide +kernel) (by decide +kernel)
set_option maxRecDepth 20000 in
theorem gX5_toggleMark_X5_isOrder : GoodIn wsX5_toggleMark (va_wsS RX5 66 yX5_isOrder wsX5_isOrder) := goodIn_app (goodIn_of _ (by decide +kernel)) ggX5_toggleMark_X5_isOrder
set_option maxRecDepth 20000 in
theorem ggX5_toggleMark_X5_judgeAll : GoodIn wsX5_toggleMark wsX5_judgeAll := goodIn_r _ [11, 12, 3, 13, 14, 15, 16, 17, 18, 19, 20, 21, 22, 23, 24, 25, 26, 27, 28, 29, 30, 31, 32, 33, 34, 35, 36, 37, 38, 39, 40, 41, 42, 43, 44, 45, 46, 47, 48, 49, 50, 51, 52, 53, 54, 55, 56, 57, 58, 59, 60, 61, 62, 63, 64, 65, 66, 67, 68, 69, 70, 71, 72, 73, 74, 75, 76, 77, 78, 79, 80, 81, 82, 83, 84, 85, 86, 87, 88, 89, 90, 91, 92, 93, 94, 95, 96, 97, 98, 99, 100, 101, 102, 103, 104, 105, 106, 107, 108, 109, 110, 111, 112, 113, 114, 115, 116, 117, 118, 119, 120, 121, 122, 123, 124, 125, 126, 127, 128, 129, 130, 131, 132, 133, 134, 135, 136, 137, 138, 139, 140, 141, 142, 143, 144, 145, 146, 147, 148, 149, 150, 151, 152, 153, 154, 155, 156, 157, 158, 159, 160, 161, 162, 163, 164, 165, 166, 167, 168, 169, 170, 171, 172] (by decide +kernel) (by decide +kernel)
set_option maxRecDepth 20000 in
theorem gX5_toggleMark_X5_judgeAll : GoodIn wsX5_toggleMark (wsV RX5 51 RX5 yX5_judgeAll wsX5_judgeAll) := goodIn_app (goodIn_of _ (by decide +kernel)) ggX5_toggleMark_X5_judgeAll
set_option maxRecDepth 20000 in
theorem ggX5_record_X5_isOrder : GoodIn wsX5_record wsX5_isOrder := goodIn_r _ [13] (by decide +kernel) (by decide +kernel)
set_option maxRecDepth 20000 in
theorem gX5_record_X5_isOrder : GoodIn wsX5_record (va_wsS RX5 66 yX5_isOrder wsX5_isOrder) := goodIn_app (goodIn_of _ (by decide +kernel)) ggX5_record_X5_isOrder
set_option maxRecDepth 20000 in
theorem ggX5_record_X5_isLotSize : GoodIn wsX5_record wsX5_isLotSize := goodIn_r _ [16, 17, 18, 12, 19] (by decide +kernel) (by decide +kernel)
set_option maxRecDepth 20000 in
theorem gX5_record_X5_isLotSize : GoodIn wsX5_record (va_wsS RX5 72 yX5_isLotSize wsX5_isLotSize) := goodIn_app (goodIn_of _ (by decide +kernel)) ggX5_record_X5_isLotSize
set_option maxRecDepth 20000 in
theorem ggX5_record_X5_isFindings : GoodIn wsX5_record wsX5_isFindings := goodIn_r _ [22, 23] (by decide +kernel) (by decide +kernel)
set_option maxRecDepth 20000 in
theorem gX5_record_X5_isFindings : GoodIn wsX5_record (va_wsS RX5 75 yX5_isFindings wsX5_isFindings) := goodIn_app (goodIn_of _ (by decide +kernel)) ggX5_record_X5_isFindings
set_option maxRecDepth 20000 in
theorem ggX5_record_X3_init : GoodIn wsX5_record wsX3_init := goodIn_r _ [26, 27, 28, 29, 30, 31, 32, 175, 176, 177, 178, 179, 180, 181] (by decide +kernel) (by decide +kernel)
set_option maxRecDepth 20000 in
theorem gX5_record_X3_init : GoodIn wsX5_record (wsX3_init) := ggX5_record_X3_init
set_option maxRecDepth 20000 in
theorem ggX5_record_X5_judgeAll : GoodIn wsX5_record wsX5_judgeAll := goodIn_r _ [36, 37, 38, 5, 39, 40, 41, 42, 43, 44, 45, 46, 47, 48, 49, 50, 51, 52, 53, 54, 55, 56, 57, 58, 59, 60, 61, 62, 63, 64, 65, 66, 67, 68, 9, 69, 70, 71, 72, 73, 74, 75, 76, 77, 78, 79, 80, 81, 82, 83, 84, 85, 86, 87, 88, 89, 90, 91, 92, 93, 94, 95, 96, 97, 98, 99, 100, 101, 102, 103, 104, 105, 106, 107, 108, 109, 110, 111, 112, 113, 114, 115, 116, 32, 117, 118, 119, 120, 121, 122, 123, 124, 125, 126, 127, 128, 129, 130, 131, 132, 133, 134, 135, 136, 137, 138, 139, 140, 141, 142, 143, 144, 145, 146, 147, 148, 149, 150, 151, 152, 153, 154, 155, 156, 157, 158, 159, 160, 161, 162, 163, 164, 165, 166, 167, 168, 169, 170, 171, 172, 173, 174, 182, 183, 184, 185, 186, 187, 188, 189, 190, 191, 192, 175, 176, 177, 178, 179, 180, 181, 193, 194, 195] (by decide +kernel) (by decide +kernel)
set_option maxRecDepth 20000 in
theorem gX5_record_X5_judgeAll : GoodIn wsX5_record (wsV RX5 51 RX5 yX5_judgeAll wsX5_judgeAll) := goodIn_app (goodIn_of _ (by decide +kernel)) ggX5_record_X5_judgeAll
set_option maxRecDepth 20000 in
theorem ggX5_correct_X5_isFindings : GoodIn wsX5_correct wsX5_isFindings := goodIn_r _ [9, 10] (by decide +kernel) (by decide +kernel)
set_option maxRecDepth 20000 in
theorem gX5_correct_X5_isFindings : GoodIn wsX5_correct (va_wsS RX5 75 yX5_isFindings wsX5_isFindings) := goodIn_app (goodIn_of _ (by decide +kernel)) ggX5_correct_X5_isFindings
set_option maxRecDepth 20000 in
theorem ggX5_correct_X5_findLot : GoodIn wsX5_correct wsX5_findLot := goodIn_r _ [14, 15, 16, 17, 8, 18, 165, 166, 167, 168, 169] (by decide +kernel) (by decide +kernel)
set_option maxRecDepth 20000 in
theorem gX5_correct_X5_findLot : GoodIn wsX5_correct (wsV RX5 94 RX5 yX5_findLot wsX5_findLot) := goodIn_app (goodIn_of _ (by decide +kernel)) ggX5_correct_X5_findLot
set_option maxRecDepth 20000 in
theorem ggX5_correct_X5_judgeAll : GoodIn wsX5_correct wsX5_judgeAll := goodIn_r _ [22, 23, 24, 15, 25, 26, 27, 28, 29, 30, 31, 32, 33, 34, 35, 36, 37, 38, 39, 40, 41, 42, 43, 44, 45, 46, 47, 48, 49, 50, 51, 52, 53, 54, 55, 56, 57, 58, 59, 60, 61, 62, 63, 64, 65, 66, 67, 68, 69, 70, 71, 72, 73, 74, 75, 76, 77, 78, 79, 80, 81, 82, 83, 84, 85, 86, 87, 88, 89, 90, 91, 92, 93, 94, 95, 96, 97, 98, 99, 100, 101, 102, 103, 104, 105, 106, 107, 108, 109, 110, 111, 112, 113, 114, 115, 116, 117, 118, 119, 120, 121, 122, 123, 124, 125, 126, 127, 128, 129, 130, 131, 132, 133, 134, 135, 136, 137, 138, 139, 140, 141, 142, 143, 144, 145, 146, 147, 148, 149, 150, 151, 152, 153, 154, 155, 156, 157, 165, 166, 167, 168, 169, 170, 171, 172, 173, 174, 175, 176, 177, 178, 179, 180, 158, 159, 160, 161, 162, 163, 164, 181, 182, 183] (by decide +kernel) (by decide +kernel)
set_option maxRecDepth 20000 in
theorem gX5_correct_X5_judgeAll : GoodIn wsX5_correct (wsV RX5 51 RX5 yX5_judgeAll wsX5_judgeAll) := goodIn_app (goodIn_of _ (by decide +kernel)) ggX5_correct_X5_judgeAll
set_option maxRecDepth 20000 in
theorem ggX5_strike_X5_isOrder : GoodIn wsX5_strike wsX5_isOrder := goodIn_r _ [8] (by decide +kernel) (by decide +kernel)
set_option maxRecDepth 20000 in
theorem gX5_strike_X5_isOrder : GoodIn wsX5_strike (va_wsS RX5 66 yX5_isOrder wsX5_isOrder) := goodIn_app (goodIn_of _ (by decide +kernel)) ggX5_strike_X5_isOrder
set_option maxRecDepth 20000 in
theorem ggX5_strike_X5_judgeAll : GoodIn wsX5_strike wsX5_judgeAll := goodIn_r _ [12, 13, 14, 3, 15, 16, 17, 18, 19, 20, 21, 22, 23, 24, 25, 26, 27, 28, 29, 30, 31, 32, 33, 34, 35, 36, 37, 38, 39, 40, 41, 42, 43, 44, 45, 46, 47, 48, 49, 50, 51, 52, 53, 54, 55, 56, 57, 58, 59, 60, 61, 62, 63, 64, 65, 66, 67, 68, 69, 70, 71, 72, 73, 74, 75, 76, 77, 78, 79, 80, 81, 82, 83, 84, 85, 86, 87, 88, 89, 90, 91, 92, 93, 94, 95, 96, 97, 98, 99, 100, 101, 102, 103, 104, 105, 106, 107, 108, 109, 110, 111, 112, 113, 114, 115, 116, 117, 118, 119, 120, 121, 122, 123, 124, 125, 126, 127, 128, 129, 130, 131, 132, 133, 134, 135, 136, 137, 138, 139, 140, 141, 142, 143, 144, 145, 146, 147, 148, 149, 150, 151, 152, 153, 154, 155, 156, 157, 158, 159, 160, 161, 162, 163, 164, 165, 166, 167, 168, 169, 170, 171, 172, 173] (by decide +kernel) (by decide +kernel)
set_option maxRecDepth 20000 in
theorem gX5_strike_X5_judgeAll : GoodIn wsX5_strike (wsV RX5 51 RX5 yX5_judgeAll wsX5_judgeAll) := goodIn_app (goodIn_of _ (by decide +kernel)) ggX5_strike_X5_judgeAll
set_option maxRecDepth 20000 in
theorem ggX5_verdict_X5_findLot : GoodIn wsX5_verdict wsX5_findLot := goodIn_r _ [8, 9, 10, 11, 7, 12, 20, 21, 22, 23, 24] (by decide +kernel) (by decide +kernel)
set_option maxRecDepth 20000 in
theorem gX5_verdict_X5_findLot : GoodIn wsX5_verdict (wsV RX5 94 RX5 yX5_findLot wsX5_findLot) := goodIn_app (goodIn_of _ (by decide +kernel)) ggX5_verdict_X5_findLot
set_option maxRecDepth 20000 in
theorem ggX5_stateAt_X5_findLot : GoodIn wsX5_stateAt wsX5_findLot := goodIn_r _ [8, 9, 10, 11, 7, 12, 20, 21, 22, 23, 24] (by decide +kernel) (by decide +kernel)
set_option maxRecDepth 20000 in
theorem gX5_stateAt_X5_findLot : GoodIn wsX5_stateAt (wsV RX5 94 RX5 yX5_findLot wsX5_findLot) := goodIn_app (goodIn_of _ (by decide +kernel)) ggX5_stateAt_X5_findLot
set_option maxRecDepth 20000 in
theorem ggX5_inspected_X5_findLot : GoodIn wsX5_inspected wsX5_findLot := goodIn_r _ [8, 9, 10, 11, 7, 12, 20, 21, 22, 23, 24] (by decide +kernel) (by decide +kernel)
set_option maxRecDepth 20000 in
theorem gX5_inspected_X5_findLot : GoodIn wsX5_inspected (wsV RX5 94 RX5 yX5_findLot wsX5_findLot) := goodIn_app (goodIn_of _ (by decide +kernel)) ggX5_inspected_X5_findLot
set_option maxRecDepth 20000 in
theorem ggX5_badIn_X5_findLot : GoodIn wsX5_badIn wsX5_findLot := goodIn_r _ [8, 9, 10, 11, 7, 12, 20, 21, 22, 23, 24] (by decide +kernel) (by decide +kernel)
set_option maxRecDepth 20000 in
theorem gX5_badIn_X5_findLot : GoodIn wsX5_badIn (wsV RX5 94 RX5 yX5_findLot wsX5_findLot) := goodIn_app (goodIn_of _ (by decide +kernel)) ggX5_badIn_X5_findLot
set_option maxRecDepth 20000 in
theorem ggX5_count_X5_isWithin : GoodIn wsX5_count wsX5_isWithin := goodIn_r _ [8] (by decide +kernel) (by decide +kernel)
set_option maxRecDepth 20000 in
theorem gX5_count_X5_isWithin : GoodIn wsX5_count (va_wsS RX5 33 yX5_isWithin wsX5_isWithin) := goodIn_app (goodIn_of _ (by decide +kernel)) ggX5_count_X5_isWithin
set_option maxRecDepth 20000 in
theorem ggX5_samples_X5_isWithin : GoodIn wsX5_samples wsX5_isWithin := goodIn_r _ [6] (by decide +kernel) (by decide +kernel)
set_option maxRecDepth 20000 in
theorem gX5_samples_X5_isWithin : GoodIn wsX5_samples (va_wsS RX5 33 yX5_isWithin wsX5_isWithin) := goodIn_app (goodIn_of _ (by decide +kernel)) ggX5_samples_X5_isWithin
set_option maxRecDepth 20000 in
theorem ggX5_samples_X1_choices : GoodIn wsX5_samples wsX1_choices := goodIn_r _ [10] (by decide +kernel) (by decide +kernel)
set_option maxRecDepth 20000 in
theorem gX5_samples_X1_choices : GoodIn wsX5_samples (va_wsS RX5 144 yX1_choices wsX1_choices) := goodIn_app (goodIn_of _ (by decide +kernel)) ggX5_samples_X1_choices
set_option maxRecDepth 20000 in
theorem ggX5_accepted_X5_isWithin : GoodIn wsX5_accepted wsX5_isWithin := goodIn_r _ [6] (by decide +kernel) (by decide +kernel)
set_option maxRecDepth 20000 in
theorem gX5_accepted_X5_isWithin : GoodIn wsX5_accepted (va_wsS RX5 33 yX5_isWithin wsX5_isWithin) := goodIn_app (goodIn_of _ (by decide +kernel)) ggX5_accepted_X5_isWithin
set_option maxRecDepth 20000 in
theorem ggX5_accepted_X1_withAtMost : GoodIn wsX5_accepted wsX1_withAtMost := goodIn_r _ [10, 11, 12, 9, 13, 14, 15, 16] (by decide +kernel) (by decide +kernel)
set_option maxRecDepth 20000 in
theorem gX5_accepted_X1_withAtMost : GoodIn wsX5_accepted (va_wsS RX5 152 yX1_withAtMost wsX1_withAtMost) := goodIn_app (goodIn_of _ (by decide +kernel)) ggX5_accepted_X1_withAtMost
set_option maxRecDepth 20000 in
theorem ggX5_acceptedByListing_X5_isWithin : GoodIn wsX5_acceptedByListing wsX5_isWithin := goodIn_r _ [6] (by decide +kernel) (by decide +kernel)
set_option maxRecDepth 20000 in
theorem gX5_acceptedByListing_X5_isWithin : GoodIn wsX5_acceptedByListing (va_wsS RX5 33 yX5_isWithin wsX5_isWithin) := goodIn_app (goodIn_of _ (by decide +kernel)) ggX5_acceptedByListing_X5_isWithin
set_option maxRecDepth 20000 in
theorem ggX5_acceptedByListing_X1_listedWithAtMost : GoodIn wsX5_acceptedByListing wsX1_listedWithAtMost := goodIn_r _ [10, 11, 12, 13, 14, 15, 16, 17, 18, 19, 9, 20, 21] (by decide +kernel) (by decide +kernel)
set_option maxRecDepth 20000 in
theorem gX5_acceptedByListing_X1_listedWithAtMost : GoodIn wsX5_acceptedByListing (va_wsS RX5 156 yX1_listedWithAtMost wsX1_listedWithAtMost) := goodIn_app (goodIn_of _ (by decide +kernel)) ggX5_acceptedByListing_X1_listedWithAtMost
set_option maxRecDepth 20000 in
theorem ggX5_isLotSize_X5_isWithin : GoodIn wsX5_isLotSize wsX5_isWithin := goodIn_r _ [4] (by decide +kernel) (by decide +kernel)
set_option maxRecDepth 20000 in
theorem gX5_isLotSize_X5_isWithin : GoodIn wsX5_isLotSize (va_wsS RX5 33 yX5_isWithin wsX5_isWithin) := goodIn_app (goodIn_of _ (by decide +kernel)) ggX5_isLotSize_X5_isWithin
set_option maxRecDepth 20000 in
theorem ggX5_findLot_X5_isOrder : GoodIn wsX5_findLot wsX5_isOrder := goodIn_r _ [5] (by decide +kernel) (by decide +kernel)
set_option maxRecDepth 20000 in
theorem gX5_findLot_X5_isOrder : GoodIn wsX5_findLot (va_wsS RX5 66 yX5_isOrder wsX5_isOrder) := goodIn_app (goodIn_of _ (by decide +kernel)) ggX5_findLot_X5_isOrder
set_option maxRecDepth 20000 in
theorem ggX5_judgeAll_X0_restart : GoodIn wsX5_judgeAll wsX0_restart := goodIn_r _ [9, 10, 11, 12, 13, 14, 8, 15, 16, 17, 18, 19, 20, 21, 22, 23, 142, 143, 144, 145, 146, 147, 148, 149, 150, 151, 152] (by decide +kernel) (by decide +kernel)
set_option maxRecDepth 20000 in
theorem gX5_judgeAll_X0_restart : GoodIn wsX5_judgeAll (wsV RX5 164 RX0 yX0_restart wsX0_restart) := goodIn_app (goodIn_of _ (by decide +kernel)) ggX5_judgeAll_X0_restart
set_option maxRecDepth 20000 in
theorem ggX5_judgeAll_X0_pass : GoodIn wsX5_judgeAll wsX0_pass := goodIn_r _ [27, 16, 28, 29, 17, 30, 12, 13, 14, 8, 15, 18, 19, 20, 21, 22, 23, 31, 32, 33, 34, 35, 36, 37, 38, 39, 40, 41, 42, 10, 43, 44, 45, 46, 47, 48, 49, 50, 51, 52, 53, 54, 55, 56, 57, 58, 59, 60, 61, 62, 63, 64, 65, 66, 67, 68, 69, 70, 71, 72, 73, 74, 75, 76, 77, 78, 79, 80, 81, 82, 83, 84, 85, 86, 87, 88, 89, 90, 91, 92, 93, 94, 95, 96, 97, 98, 99, 100, 101, 102, 103, 104, 105, 106, 107, 108, 109, 110, 111, 112, 113, 114, 115, 116, 117, 118, 119, 120, 121, 122, 123, 124, 125, 126, 127, 128, 129, 130, 131, 132, 133, 134, 135, 136, 11, 142, 143, 144, 145, 146, 147, 148, 149, 153, 154, 155, 156, 157, 158, 159, 150, 151, 152, 160, 161, 162] (by decide +kernel) (by decide +kernel)
set_option maxRecDepth 20000 in
theorem gX5_judgeAll_X0_pass : GoodIn wsX5_judgeAll (wsV RX5 167 RX0 yX0_pass wsX0_pass) := goodIn_app (goodIn_of _ (by decide +kernel)) ggX5_judgeAll_X0_pass
end
section
theorem dX0_init_0 : decode cX0_init 0 = .ok (.aload_n 0, 1) := by decide +kernel
theorem dX0_init_1 : decode cX0_init 1 = .ok (.invokespecial 3, 3) := by decide +kernel
theorem dX0_init_4 : decode cX0_init 4 = .ok (.aload_n 0, 1) := by decide +kernel
theorem dX0_init_5 : decode cX0_init 5 = .ok (.new 9, 3) := by decide +kernel
theorem dX0_init_8 : decode cX0_init 8 = .ok (.dup, 1) := by decide +kernel
theorem dX0_init_9 : decode cX0_init 9 = .ok (.invokespecial 11, 3) := by decide +kernel
theorem dX0_init_12 : decode cX0_init 12 = .ok (.putfield 12, 3) := by decide +kernel
theorem dX0_init_15 : decode cX0_init 15 = .ok (.return_, 1) := by decide +kernel
theorem dX0_restart_0 : decode cX0_restart 0 = .ok (.aload_n 0, 1) := by decide +kernel
theorem dX0_restart_1 : decode cX0_restart 1 = .ok (.iconst 0, 1) := by decide +kernel
theorem dX0_restart_2 : decode cX0_restart 2 = .ok (.invokevirtual 18, 3) := by decide +kernel
theorem dX0_restart_5 : decode cX0_restart 5 = .ok (.aload_n 0, 1) := by decide +kernel
theorem dX0_restart_6 : decode cX0_restart 6 = .ok (.iconst 0, 1) := by decide +kernel
theorem dX0_restart_7 : decode cX0_restart 7 = .ok (.putfield 22, 3) := by decide +kernel
theorem dX0_restart_10 : decode cX0_restart 10 = .ok (.aload_n 0, 1) := by decide +kernel
theorem dX0_restart_11 : decode cX0_restart 11 = .ok (.iconst 0, 1) := by decide +kernel
theorem dX0_restart_12 : decode cX0_restart 12 = .ok (.putfield 26, 3) := by decide +kernel
theorem dX0_restart_15 : decode cX0_restart 15 = .ok (.return_, 1) := by decide +kernel
theorem dX0_pass_0 : decode cX0_pass 0 = .ok (.aload_n 0, 1) := by decide +kernel
theorem dX0_pass_1 : decode cX0_pass 1 = .ok (.getfield 30, 3) := by decide +kernel
theorem dX0_pass_4 : decode cX0_pass 4 = .ok (.iconst 3, 1) := by decide +kernel
theorem dX0_pass_5 : decode cX0_pass 5 = .ok (.if_icmp .ne 16, 3) := by decide +kernel
theorem dX0_pass_8 : decode cX0_pass 8 = .ok (.iload_n 2, 1) := by decide +kernel
theorem dX0_pass_9 : decode cX0_pass 9 = .ok (.aload_n 0, 1) := by decide +kernel
theorem dX0_pass_10 : decode cX0_pass 10 = .ok (.getfield 33, 3) := by decide +kernel
theorem dX0_pass_13 : decode cX0_pass 13 = .ok (.if_icmp .le 8, 3) := by decide +kernel
theorem dX0_pass_16 : decode cX0_pass 16 = .ok (.aload_n 0, 1) := by decide +kernel
theorem dX0_pass_17 : decode cX0_pass 17 = .ok (.iconst 1, 1) := by decide +kernel
theorem dX0_pass_18 : decode cX0_pass 18 = .ok (.invokevirtual 18, 3) := by decide +kernel
theorem dX0_pass_21 : decode cX0_pass 21 = .ok (.aload_n 1, 1) := by decide +kernel
theorem dX0_pass_22 : decode cX0_pass 22 = .ok (.aload_n 0, 1) := by decide +kernel
theorem dX0_pass_23 : decode cX0_pass 23 = .ok (.getfield 30, 3) := by decide +kernel
theorem dX0_pass_26 : decode cX0_pass 26 = .ok (.putfield 36, 3) := by decide +kernel
theorem dX0_pass_29 : decode cX0_pass 29 = .ok (.aload_n 0, 1) := by decide +kernel
theorem dX0_pass_30 : decode cX0_pass 30 = .ok (.getfield 30, 3) := by decide +kernel
theorem dX0_pass_33 : decode cX0_pass 33 = .ok (.iconst 3, 1) := by decide +kernel
theorem dX0_pass_34 : decode cX0_pass 34 = .ok (.if_icmp .ne 11, 3) := by decide +kernel
theorem dX0_pass_37 : decode cX0_pass 37 = .ok (.aload_n 1, 1) := by decide +kernel
theorem dX0_pass_38 : decode cX0_pass 38 = .ok (.iconst 3, 1) := by decide +kernel
theorem dX0_pass_39 : decode cX0_pass 39 = .ok (.invokevirtual 39, 3) := by decide +kernel
theorem dX0_pass_42 : decode cX0_pass 42 = .ok (.goto 71, 3) := by decide +kernel
theorem dX0_pass_45 : decode cX0_pass 45 = .ok (.aload_n 0, 1) := by decide +kernel
theorem dX0_pass_46 : decode cX0_pass 46 = .ok (.invokevirtual 42, 3) := by decide +kernel
theorem dX0_pass_49 : decode cX0_pass 49 = .ok (.ifCond .eq 11, 3) := by decide +kernel
theorem dX0_pass_52 : decode cX0_pass 52 = .ok (.aload_n 1, 1) := by decide +kernel
theorem dX0_pass_53 : decode cX0_pass 53 = .ok (.iconst 2, 1) := by decide +kernel
theorem dX0_pass_54 : decode cX0_pass 54 = .ok (.invokevirtual 39, 3) := by decide +kernel
theorem dX0_pass_57 : decode cX0_pass 57 = .ok (.goto 56, 3) := by decide +kernel
theorem dX0_pass_60 : decode cX0_pass 60 = .ok (.aload_n 3, 1) := by decide +kernel
theorem dX0_pass_61 : decode cX0_pass 61 = .ok (.aload_n 1, 1) := by decide +kernel
theorem dX0_pass_62 : decode cX0_pass 62 = .ok (.aload_n 0, 1) := by decide +kernel
theorem dX0_pass_63 : decode cX0_pass 63 = .ok (.getfield 30, 3) := by decide +kernel
theorem dX0_pass_66 : decode cX0_pass 66 = .ok (.invokevirtual 46, 3) := by decide +kernel
theorem dX0_pass_69 : decode cX0_pass 69 = .ok (.aload_n 0, 1) := by decide +kernel
theorem dX0_pass_70 : decode cX0_pass 70 = .ok (.getfield 12, 3) := by decide +kernel
theorem dX0_pass_73 : decode cX0_pass 73 = .ok (.aload_n 1, 1) := by decide +kernel
theorem dX0_pass_74 : decode cX0_pass 74 = .ok (.invokevirtual 52, 3) := by decide +kernel
theorem dX0_pass_77 : decode cX0_pass 77 = .ok (.aload_n 0, 1) := by decide +kernel
theorem dX0_pass_78 : decode cX0_pass 78 = .ok (.aload_n 1, 1) := by decide +kernel
theorem dX0_pass_79 : decode cX0_pass 79 = .ok (.aload_n 3, 1) := by decide +kernel
theorem dX0_pass_80 : decode cX0_pass 80 = .ok (.invokevirtual 56, 3) := by decide +kernel
theorem dX0_pass_83 : decode cX0_pass 83 = .ok (.istore 4, 2) := by decide +kernel
theorem dX0_pass_85 : decode cX0_pass 85 = .ok (.iload 4, 2) := by decide +kernel
theorem dX0_pass_87 : decode cX0_pass 87 = .ok (.aload_n 0, 1) := by decide +kernel
theorem dX0_pass_88 : decode cX0_pass 88 = .ok (.getfield 30, 3) := by decide +kernel
theorem dX0_pass_91 : decode cX0_pass 91 = .ok (.if_icmp .eq 17, 3) := by decide +kernel
theorem dX0_pass_94 : decode cX0_pass 94 = .ok (.aload_n 0, 1) := by decide +kernel
theorem dX0_pass_95 : decode cX0_pass 95 = .ok (.iload 4, 2) := by decide +kernel
theorem dX0_pass_97 : decode cX0_pass 97 = .ok (.invokevirtual 18, 3) := by decide +kernel
theorem dX0_pass_100 : decode cX0_pass 100 = .ok (.aload_n 0, 1) := by decide +kernel
theorem dX0_pass_101 : decode cX0_pass 101 = .ok (.aload_n 1, 1) := by decide +kernel
theorem dX0_pass_102 : decode cX0_pass 102 = .ok (.getfield 60, 3) := by decide +kernel
theorem dX0_pass_105 : decode cX0_pass 105 = .ok (.putfield 33, 3) := by decide +kernel
theorem dX0_pass_108 : decode cX0_pass 108 = .ok (.aload_n 0, 1) := by decide +kernel
theorem dX0_pass_109 : decode cX0_pass 109 = .ok (.aload_n 1, 1) := by decide +kernel
theorem dX0_pass_110 : decode cX0_pass 110 = .ok (.invokevirtual 63, 3) := by decide +kernel
theorem dX0_pass_113 : decode cX0_pass 113 = .ok (.return_, 1) := by decide +kernel
theorem dX0_begin_0 : decode cX0_begin 0 = .ok (.aload_n 0, 1) := by decide +kernel
theorem dX0_begin_1 : decode cX0_begin 1 = .ok (.iload_n 1, 1) := by decide +kernel
theorem dX0_begin_2 : decode cX0_begin 2 = .ok (.putfield 30, 3) := by decide +kernel
theorem dX0_begin_5 : decode cX0_begin 5 = .ok (.aload_n 0, 1) := by decide +kernel
theorem dX0_begin_6 : decode cX0_begin 6 = .ok (.getfield 12, 3) := by decide +kernel
theorem dX0_begin_9 : decode cX0_begin 9 = .ok (.invokevirtual 66, 3) := by decide +kernel
theorem dX0_begin_12 : decode cX0_begin 12 = .ok (.return_, 1) := by decide +kernel
theorem dX0_nextBehind_0 : decode cX0_nextBehind 0 = .ok (.aload_n 0, 1) := by decide +kernel
theorem dX0_nextBehind_1 : decode cX0_nextBehind 1 = .ok (.getfield 30, 3) := by decide +kernel
theorem dX0_nextBehind_4 : decode cX0_nextBehind 4 = .ok (.ifCond .ne 8, 3) := by decide +kernel
theorem dX0_nextBehind_7 : decode cX0_nextBehind 7 = .ok (.aload_n 0, 1) := by decide +kernel
theorem dX0_nextBehind_8 : decode cX0_nextBehind 8 = .ok (.invokevirtual 69, 3) := by decide +kernel
theorem dX0_nextBehind_11 : decode cX0_nextBehind 11 = .ok (.ireturn, 1) := by decide +kernel
theorem dX0_nextBehind_12 : decode cX0_nextBehind 12 = .ok (.aload_n 0, 1) := by decide +kernel
theorem dX0_nextBehind_13 : decode cX0_nextBehind 13 = .ok (.getfield 30, 3) := by decide +kernel
theorem dX0_nextBehind_16 : decode cX0_nextBehind 16 = .ok (.iconst 1, 1) := by decide +kernel
theorem dX0_nextBehind_17 : decode cX0_nextBehind 17 = .ok (.if_icmp .ne 8, 3) := by decide +kernel
theorem dX0_nextBehind_20 : decode cX0_nextBehind 20 = .ok (.aload_n 0, 1) := by decide +kernel
theorem dX0_nextBehind_21 : decode cX0_nextBehind 21 = .ok (.invokevirtual 73, 3) := by decide +kernel
theorem dX0_nextBehind_24 : decode cX0_nextBehind 24 = .ok (.ireturn, 1) := by decide +kernel
theorem dX0_nextBehind_25 : decode cX0_nextBehind 25 = .ok (.aload_n 1, 1) := by decide +kernel
theorem dX0_nextBehind_26 : decode cX0_nextBehind 26 = .ok (.getfield 76, 3) := by decide +kernel
theorem dX0_nextBehind_29 : decode cX0_nextBehind 29 = .ok (.aload_n 2, 1) := by decide +kernel
theorem dX0_nextBehind_30 : decode cX0_nextBehind 30 = .ok (.aload_n 1, 1) := by decide +kernel
theorem dX0_nextBehind_31 : decode cX0_nextBehind 31 = .ok (.getfield 79, 3) := by decide +kernel
theorem dX0_nextBehind_34 : decode cX0_nextBehind 34 = .ok (.iconst 2, 1) := by decide +kernel
theorem dX0_nextBehind_35 : decode cX0_nextBehind 35 = .ok (.invokevirtual 82, 3) := by decide +kernel
theorem dX0_nextBehind_38 : decode cX0_nextBehind 38 = .ok (.if_icmp .le 7, 3) := by decide +kernel
theorem dX0_nextBehind_41 : decode cX0_nextBehind 41 = .ok (.iconst 1, 1) := by decide +kernel
theorem dX0_nextBehind_42 : decode cX0_nextBehind 42 = .ok (.goto 4, 3) := by decide +kernel
theorem dX0_nextBehind_45 : decode cX0_nextBehind 45 = .ok (.iconst 0, 1) := by decide +kernel
theorem dX0_nextBehind_46 : decode cX0_nextBehind 46 = .ok (.istore_n 3, 1) := by decide +kernel
theorem dX0_nextBehind_47 : decode cX0_nextBehind 47 = .ok (.iload_n 3, 1) := by decide +kernel
theorem dX0_nextBehind_48 : decode cX0_nextBehind 48 = .ok (.ifCond .eq 7, 3) := by decide +kernel
theorem dX0_nextBehind_51 : decode cX0_nextBehind 51 = .ok (.iconst 0, 1) := by decide +kernel
theorem dX0_nextBehind_52 : decode cX0_nextBehind 52 = .ok (.goto 4, 3) := by decide +kernel
theorem dX0_nextBehind_55 : decode cX0_nextBehind 55 = .ok (.iconst 2, 1) := by decide +kernel
theorem dX0_nextBehind_56 : decode cX0_nextBehind 56 = .ok (.ireturn, 1) := by decide +kernel
theorem dX0_behindNormal_0 : decode cX0_behindNormal 0 = .ok (.aload_n 0, 1) := by decide +kernel
theorem dX0_behindNormal_1 : decode cX0_behindNormal 1 = .ok (.getfield 12, 3) := by decide +kernel
theorem dX0_behindNormal_4 : decode cX0_behindNormal 4 = .ok (.iconst 5, 1) := by decide +kernel
theorem dX0_behindNormal_5 : decode cX0_behindNormal 5 = .ok (.invokevirtual 86, 3) := by decide +kernel
theorem dX0_behindNormal_8 : decode cX0_behindNormal 8 = .ok (.iconst 2, 1) := by decide +kernel
theorem dX0_behindNormal_9 : decode cX0_behindNormal 9 = .ok (.if_icmp .lt 5, 3) := by decide +kernel
theorem dX0_behindNormal_12 : decode cX0_behindNormal 12 = .ok (.iconst 1, 1) := by decide +kernel
theorem dX0_behindNormal_13 : decode cX0_behindNormal 13 = .ok (.ireturn, 1) := by decide +kernel
theorem dX0_behindNormal_14 : decode cX0_behindNormal 14 = .ok (.aload_n 0, 1) := by decide +kernel
theorem dX0_behindNormal_15 : decode cX0_behindNormal 15 = .ok (.getfield 12, 3) := by decide +kernel
theorem dX0_behindNormal_18 : decode cX0_behindNormal 18 = .ok (.bipush 10, 2) := by decide +kernel
theorem dX0_behindNormal_20 : decode cX0_behindNormal 20 = .ok (.invokevirtual 90, 3) := by decide +kernel
theorem dX0_behindNormal_23 : decode cX0_behindNormal 23 = .ok (.ifCond .eq 20, 3) := by decide +kernel
theorem dX0_behindNormal_26 : decode cX0_behindNormal 26 = .ok (.aload_n 0, 1) := by decide +kernel
theorem dX0_behindNormal_27 : decode cX0_behindNormal 27 = .ok (.getfield 12, 3) := by decide +kernel
theorem dX0_behindNormal_30 : decode cX0_behindNormal 30 = .ok (.bipush 10, 2) := by decide +kernel
theorem dX0_behindNormal_32 : decode cX0_behindNormal 32 = .ok (.invokevirtual 94, 3) := by decide +kernel
theorem dX0_behindNormal_35 : decode cX0_behindNormal 35 = .ok (.iconst 4, 1) := by decide +kernel
theorem dX0_behindNormal_36 : decode cX0_behindNormal 36 = .ok (.if_icmp .gt 7, 3) := by decide +kernel
theorem dX0_behindNormal_39 : decode cX0_behindNormal 39 = .ok (.iconst 1, 1) := by decide +kernel
theorem dX0_behindNormal_40 : decode cX0_behindNormal 40 = .ok (.goto 4, 3) := by decide +kernel
theorem dX0_behindNormal_43 : decode cX0_behindNormal 43 = .ok (.iconst 0, 1) := by decide +kernel
theorem dX0_behindNormal_44 : decode cX0_behindNormal 44 = .ok (.istore_n 1, 1) := by decide +kernel
theorem dX0_behindNormal_45 : decode cX0_behindNormal 45 = .ok (.iload_n 1, 1) := by decide +kernel
theorem dX0_behindNormal_46 : decode cX0_behindNormal 46 = .ok (.ifCond .eq 14, 3) := by decide +kernel
theorem dX0_behindNormal_49 : decode cX0_behindNormal 49 = .ok (.aload_n 0, 1) := by decide +kernel
theorem dX0_behindNormal_50 : decode cX0_behindNormal 50 = .ok (.getfield 97, 3) := by decide +kernel
theorem dX0_behindNormal_53 : decode cX0_behindNormal 53 = .ok (.ifCond .eq 7, 3) := by decide +kernel
theorem dX0_behindNormal_56 : decode cX0_behindNormal 56 = .ok (.iconst 2, 1) := by decide +kernel
theorem dX0_behindNormal_57 : decode cX0_behindNormal 57 = .ok (.goto 4, 3) := by decide +kernel
theorem dX0_behindNormal_60 : decode cX0_behindNormal 60 = .ok (.iconst 0, 1) := by decide +kernel
theorem dX0_behindNormal_61 : decode cX0_behindNormal 61 = .ok (.ireturn, 1) := by decide +kernel
theorem dX0_behindTightened_0 : decode cX0_behindTightened 0 = .ok (.aload_n 0, 1) := by decide +kernel
theorem dX0_behindTightened_1 : decode cX0_behindTightened 1 = .ok (.getfield 12, 3) := by decide +kernel
theorem dX0_behindTightened_4 : decode cX0_behindTightened 4 = .ok (.iconst 5, 1) := by decide +kernel
theorem dX0_behindTightened_5 : decode cX0_behindTightened 5 = .ok (.invokevirtual 90, 3) := by decide +kernel
theorem dX0_behindTightened_8 : decode cX0_behindTightened 8 = .ok (.ifCond .eq 5, 3) := by decide +kernel
theorem dX0_behindTightened_11 : decode cX0_behindTightened 11 = .ok (.iconst 0, 1) := by decide +kernel
theorem dX0_behindTightened_12 : decode cX0_behindTightened 12 = .ok (.ireturn, 1) := by decide +kernel
theorem dX0_behindTightened_13 : decode cX0_behindTightened 13 = .ok (.aload_n 0, 1) := by decide +kernel
theorem dX0_behindTightened_14 : decode cX0_behindTightened 14 = .ok (.getfield 12, 3) := by decide +kernel
theorem dX0_behindTightened_17 : decode cX0_behindTightened 17 = .ok (.bipush 60, 2) := by decide +kernel
theorem dX0_behindTightened_19 : decode cX0_behindTightened 19 = .ok (.invokevirtual 86, 3) := by decide +kernel
theorem dX0_behindTightened_22 : decode cX0_behindTightened 22 = .ok (.iconst 5, 1) := by decide +kernel
theorem dX0_behindTightened_23 : decode cX0_behindTightened 23 = .ok (.if_icmp .lt 7, 3) := by decide +kernel
theorem dX0_behindTightened_26 : decode cX0_behindTightened 26 = .ok (.iconst 3, 1) := by decide +kernel
theorem dX0_behindTightened_27 : decode cX0_behindTightened 27 = .ok (.goto 4, 3) := by decide +kernel
theorem dX0_behindTightened_30 : decode cX0_behindTightened 30 = .ok (.iconst 1, 1) := by decide +kernel
theorem dX0_behindTightened_31 : decode cX0_behindTightened 31 = .ok (.ireturn, 1) := by decide +kernel
theorem dX0_isPassedOver_0 : decode cX0_isPassedOver 0 = .ok (.aload_n 0, 1) := by decide +kernel
theorem dX0_isPassedOver_1 : decode cX0_isPassedOver 1 = .ok (.getfield 22, 3) := by decide +kernel
theorem dX0_isPassedOver_4 : decode cX0_isPassedOver 4 = .ok (.ifCond .ne 5, 3) := by decide +kernel
theorem dX0_isPassedOver_7 : decode cX0_isPassedOver 7 = .ok (.iconst 0, 1) := by decide +kernel
theorem dX0_isPassedOver_8 : decode cX0_isPassedOver 8 = .ok (.ireturn, 1) := by decide +kernel
theorem dX0_isPassedOver_9 : decode cX0_isPassedOver 9 = .ok (.aload_n 0, 1) := by decide +kernel
theorem dX0_isPassedOver_10 : decode cX0_isPassedOver 10 = .ok (.dup, 1) := by decide +kernel
theorem dX0_isPassedOver_11 : decode cX0_isPassedOver 11 = .ok (.getfield 100, 3) := by decide +kernel
theorem dX0_isPassedOver_14 : decode cX0_isPassedOver 14 = .ok (.iconst 1, 1) := by decide +kernel
theorem dX0_isPassedOver_15 : decode cX0_isPassedOver 15 = .ok (.iadd, 1) := by decide +kernel
theorem dX0_isPassedOver_16 : decode cX0_isPassedOver 16 = .ok (.putfield 100, 3) := by decide +kernel
theorem dX0_isPassedOver_19 : decode cX0_isPassedOver 19 = .ok (.aload_n 0, 1) := by decide +kernel
theorem dX0_isPassedOver_20 : decode cX0_isPassedOver 20 = .ok (.getfield 100, 3) := by decide +kernel
theorem dX0_isPassedOver_23 : decode cX0_isPassedOver 23 = .ok (.aload_n 0, 1) := by decide +kernel
theorem dX0_isPassedOver_24 : decode cX0_isPassedOver 24 = .ok (.getfield 103, 3) := by decide +kernel
theorem dX0_isPassedOver_27 : decode cX0_isPassedOver 27 = .ok (.if_icmp .ge 5, 3) := by decide +kernel
theorem dX0_isPassedOver_30 : decode cX0_isPassedOver 30 = .ok (.iconst 1, 1) := by decide +kernel
theorem dX0_isPassedOver_31 : decode cX0_isPassedOver 31 = .ok (.ireturn, 1) := by decide +kernel
theorem dX0_isPassedOver_32 : decode cX0_isPassedOver 32 = .ok (.aload_n 0, 1) := by decide +kernel
theorem dX0_isPassedOver_33 : decode cX0_isPassedOver 33 = .ok (.iconst 0, 1) := by decide +kernel
theorem dX0_isPassedOver_34 : decode cX0_isPassedOver 34 = .ok (.putfield 100, 3) := by decide +kernel
theorem dX0_isPassedOver_37 : decode cX0_isPassedOver 37 = .ok (.iconst 0, 1) := by decide +kernel
theorem dX0_isPassedOver_38 : decode cX0_isPassedOver 38 = .ok (.ireturn, 1) := by decide +kernel
theorem dX0_countForSkipping_0 : decode cX0_countForSkipping 0 = .ok (.aload_n 1, 1) := by decide +kernel
theorem dX0_countForSkipping_1 : decode cX0_countForSkipping 1 = .ok (.getfield 106, 3) := by decide +kernel
theorem dX0_countForSkipping_4 : decode cX0_countForSkipping 4 = .ok (.ifCond .eq 19, 3) := by decide +kernel
theorem dX0_countForSkipping_7 : decode cX0_countForSkipping 7 = .ok (.aload_n 1, 1) := by decide +kernel
theorem dX0_countForSkipping_8 : decode cX0_countForSkipping 8 = .ok (.getfield 36, 3) := by decide +kernel
theorem dX0_countForSkipping_11 : decode cX0_countForSkipping 11 = .ok (.iconst 1, 1) := by decide +kernel
theorem dX0_countForSkipping_12 : decode cX0_countForSkipping 12 = .ok (.if_icmp .eq 11, 3) := by decide +kernel
theorem dX0_countForSkipping_15 : decode cX0_countForSkipping 15 = .ok (.aload_n 0, 1) := by decide +kernel
theorem dX0_countForSkipping_16 : decode cX0_countForSkipping 16 = .ok (.getfield 30, 3) := by decide +kernel
theorem dX0_countForSkipping_19 : decode cX0_countForSkipping 19 = .ok (.iconst 1, 1) := by decide +kernel
theorem dX0_countForSkipping_20 : decode cX0_countForSkipping 20 = .ok (.if_icmp .ne 14, 3) := by decide +kernel
theorem dX0_countForSkipping_23 : decode cX0_countForSkipping 23 = .ok (.aload_n 0, 1) := by decide +kernel
theorem dX0_countForSkipping_24 : decode cX0_countForSkipping 24 = .ok (.iconst 0, 1) := by decide +kernel
theorem dX0_countForSkipping_25 : decode cX0_countForSkipping 25 = .ok (.putfield 22, 3) := by decide +kernel
theorem dX0_countForSkipping_28 : decode cX0_countForSkipping 28 = .ok (.aload_n 0, 1) := by decide +kernel
theorem dX0_countForSkipping_29 : decode cX0_countForSkipping 29 = .ok (.iconst 0, 1) := by decide +kernel
theorem dX0_countForSkipping_30 : decode cX0_countForSkipping 30 = .ok (.putfield 26, 3) := by decide +kernel
theorem dX0_countForSkipping_33 : decode cX0_countForSkipping 33 = .ok (.return_, 1) := by decide +kernel
theorem dX0_countForSkipping_34 : decode cX0_countForSkipping 34 = .ok (.aload_n 0, 1) := by decide +kernel
theorem dX0_countForSkipping_35 : decode cX0_countForSkipping 35 = .ok (.dup, 1) := by decide +kernel
theorem dX0_countForSkipping_36 : decode cX0_countForSkipping 36 = .ok (.getfield 26, 3) := by decide +kernel
theorem dX0_countForSkipping_39 : decode cX0_countForSkipping 39 = .ok (.iconst 1, 1) := by decide +kernel
theorem dX0_countForSkipping_40 : decode cX0_countForSkipping 40 = .ok (.iadd, 1) := by decide +kernel
theorem dX0_countForSkipping_41 : decode cX0_countForSkipping 41 = .ok (.putfield 26, 3) := by decide +kernel
theorem dX0_countForSkipping_44 : decode cX0_countForSkipping 44 = .ok (.aload_n 0, 1) := by decide +kernel
theorem dX0_countForSkipping_45 : decode cX0_countForSkipping 45 = .ok (.getfield 22, 3) := by decide +kernel
theorem dX0_countForSkipping_48 : decode cX0_countForSkipping 48 = .ok (.ifCond .ne 29, 3) := by decide +kernel
theorem dX0_countForSkipping_51 : decode cX0_countForSkipping 51 = .ok (.aload_n 0, 1) := by decide +kernel
theorem dX0_countForSkipping_52 : decode cX0_countForSkipping 52 = .ok (.getfield 103, 3) := by decide +kernel
theorem dX0_countForSkipping_55 : decode cX0_countForSkipping 55 = .ok (.ifCond .le 22, 3) := by decide +kernel
theorem dX0_countForSkipping_58 : decode cX0_countForSkipping 58 = .ok (.aload_n 0, 1) := by decide +kernel
theorem dX0_countForSkipping_59 : decode cX0_countForSkipping 59 = .ok (.getfield 26, 3) := by decide +kernel
theorem dX0_countForSkipping_62 : decode cX0_countForSkipping 62 = .ok (.bipush 8, 2) := by decide +kernel
theorem dX0_countForSkipping_64 : decode cX0_countForSkipping 64 = .ok (.if_icmp .lt 13, 3) := by decide +kernel
theorem dX0_countForSkipping_67 : decode cX0_countForSkipping 67 = .ok (.aload_n 0, 1) := by decide +kernel
theorem dX0_countForSkipping_68 : decode cX0_countForSkipping 68 = .ok (.iconst 1, 1) := by decide +kernel
theorem dX0_countForSkipping_69 : decode cX0_countForSkipping 69 = .ok (.putfield 22, 3) := by decide +kernel
theorem dX0_countForSkipping_72 : decode cX0_countForSkipping 72 = .ok (.aload_n 0, 1) := by decide +kernel
theorem dX0_countForSkipping_73 : decode cX0_countForSkipping 73 = .ok (.iconst 0, 1) := by decide +kernel
theorem dX0_countForSkipping_74 : decode cX0_countForSkipping 74 = .ok (.putfield 100, 3) := by decide +kernel
theorem dX0_countForSkipping_77 : decode cX0_countForSkipping 77 = .ok (.return_, 1) := by decide +kernel
theorem dX1_choices_0 : decode cX1_choices 0 = .ok (.iload_n 1, 1) := by decide +kernel
theorem dX1_choices_1 : decode cX1_choices 1 = .ok (.ifCond .lt 8, 3) := by decide +kernel
theorem dX1_choices_4 : decode cX1_choices 4 = .ok (.iload_n 1, 1) := by decide +kernel
theorem dX1_choices_5 : decode cX1_choices 5 = .ok (.iload_n 0, 1) := by decide +kernel
theorem dX1_choices_6 : decode cX1_choices 6 = .ok (.if_icmp .le 5, 3) := by decide +kernel
theorem dX1_choices_9 : decode cX1_choices 9 = .ok (.lconst 0, 1) := by decide +kernel
theorem dX1_choices_10 : decode cX1_choices 10 = .ok (.lreturn, 1) := by decide +kernel
theorem dX1_choices_11 : decode cX1_choices 11 = .ok (.lconst 1, 1) := by decide +kernel
theorem dX1_choices_12 : decode cX1_choices 12 = .ok (.lstore_n 2, 1) := by decide +kernel
theorem dX1_choices_13 : decode cX1_choices 13 = .ok (.iconst 1, 1) := by decide +kernel
theorem dX1_choices_14 : decode cX1_choices 14 = .ok (.istore 4, 2) := by decide +kernel
theorem dX1_choices_16 : decode cX1_choices 16 = .ok (.iload 4, 2) := by decide +kernel
theorem dX1_choices_18 : decode cX1_choices 18 = .ok (.iload_n 1, 1) := by decide +kernel
theorem dX1_choices_19 : decode cX1_choices 19 = .ok (.if_icmp .gt 23, 3) := by decide +kernel
theorem dX1_choices_22 : decode cX1_choices 22 = .ok (.lload_n 2, 1) := by decide +kernel
theorem dX1_choices_23 : decode cX1_choices 23 = .ok (.iload_n 0, 1) := by decide +kernel
theorem dX1_choices_24 : decode cX1_choices 24 = .ok (.iload_n 1, 1) := by decide +kernel
theorem dX1_choices_25 : decode cX1_choices 25 = .ok (.isub, 1) := by decide +kernel
theorem dX1_choices_26 : decode cX1_choices 26 = .ok (.iload 4, 2) := by decide +kernel
theorem dX1_choices_28 : decode cX1_choices 28 = .ok (.iadd, 1) := by decide +kernel
theorem dX1_choices_29 : decode cX1_choices 29 = .ok (.i2l, 1) := by decide +kernel
theorem dX1_choices_30 : decode cX1_choices 30 = .ok (.lmul, 1) := by decide +kernel
theorem dX1_choices_31 : decode cX1_choices 31 = .ok (.iload 4, 2) := by decide +kernel
theorem dX1_choices_33 : decode cX1_choices 33 = .ok (.i2l, 1) := by decide +kernel
theorem dX1_choices_34 : decode cX1_choices 34 = .ok (.ldiv, 1) := by decide +kernel
theorem dX1_choices_35 : decode cX1_choices 35 = .ok (.lstore_n 2, 1) := by decide +kernel
theorem dX1_choices_36 : decode cX1_choices 36 = .ok (.iinc 4 1, 3) := by decide +kernel
theorem dX1_choices_39 : decode cX1_choices 39 = .ok (.goto (-23), 3) := by decide +kernel
theorem dX1_choices_42 : decode cX1_choices 42 = .ok (.lload_n 2, 1) := by decide +kernel
theorem dX1_choices_43 : decode cX1_choices 43 = .ok (.lreturn, 1) := by decide +kernel
theorem dX1_withExactly_0 : decode cX1_withExactly 0 = .ok (.iload_n 1, 1) := by decide +kernel
theorem dX1_withExactly_1 : decode cX1_withExactly 1 = .ok (.iload_n 3, 1) := by decide +kernel
theorem dX1_withExactly_2 : decode cX1_withExactly 2 = .ok (.invokestatic 7, 3) := by decide +kernel
theorem dX1_withExactly_5 : decode cX1_withExactly 5 = .ok (.iload_n 0, 1) := by decide +kernel
theorem dX1_withExactly_6 : decode cX1_withExactly 6 = .ok (.iload_n 1, 1) := by decide +kernel
theorem dX1_withExactly_7 : decode cX1_withExactly 7 = .ok (.isub, 1) := by decide +kernel
theorem dX1_withExactly_8 : decode cX1_withExactly 8 = .ok (.iload_n 2, 1) := by decide +kernel
theorem dX1_withExactly_9 : decode cX1_withExactly 9 = .ok (.iload_n 3, 1) := by decide +kernel
theorem dX1_withExactly_10 : decode cX1_withExactly 10 = .ok (.isub, 1) := by decide +kernel
theorem dX1_withExactly_11 : decode cX1_withExactly 11 = .ok (.invokestatic 7, 3) := by decide +kernel
theorem dX1_withExactly_14 : decode cX1_withExactly 14 = .ok (.lmul, 1) := by decide +kernel
theorem dX1_withExactly_15 : decode cX1_withExactly 15 = .ok (.lreturn, 1) := by decide +kernel
theorem dX1_withAtMost_0 : decode cX1_withAtMost 0 = .ok (.lconst 0, 1) := by decide +kernel
theorem dX1_withAtMost_1 : decode cX1_withAtMost 1 = .ok (.lstore 4, 2) := by decide +kernel
theorem dX1_withAtMost_3 : decode cX1_withAtMost 3 = .ok (.iconst 0, 1) := by decide +kernel
theorem dX1_withAtMost_4 : decode cX1_withAtMost 4 = .ok (.istore 6, 2) := by decide +kernel
theorem dX1_withAtMost_6 : decode cX1_withAtMost 6 = .ok (.iload 6, 2) := by decide +kernel
theorem dX1_withAtMost_8 : decode cX1_withAtMost 8 = .ok (.iload_n 3, 1) := by decide +kernel
theorem dX1_withAtMost_9 : decode cX1_withAtMost 9 = .ok (.if_icmp .gt 28, 3) := by decide +kernel
theorem dX1_withAtMost_12 : decode cX1_withAtMost 12 = .ok (.iload 6, 2) := by decide +kernel
theorem dX1_withAtMost_14 : decode cX1_withAtMost 14 = .ok (.iload_n 2, 1) := by decide +kernel
theorem dX1_withAtMost_15 : decode cX1_withAtMost 15 = .ok (.if_icmp .gt 22, 3) := by decide +kernel
theorem dX1_withAtMost_18 : decode cX1_withAtMost 18 = .ok (.lload 4, 2) := by decide +kernel
theorem dX1_withAtMost_20 : decode cX1_withAtMost 20 = .ok (.iload_n 0, 1) := by decide +kernel
theorem dX1_withAtMost_21 : decode cX1_withAtMost 21 = .ok (.iload_n 1, 1) := by decide +kernel
theorem dX1_withAtMost_22 : decode cX1_withAtMost 22 = .ok (.iload_n 2, 1) := by decide +kernel
theorem dX1_withAtMost_23 : decode cX1_withAtMost 23 = .ok (.iload 6, 2) := by decide +kernel
theorem dX1_withAtMost_25 : decode cX1_withAtMost 25 = .ok (.invokestatic 13, 3) := by decide +kernel
theorem dX1_withAtMost_28 : decode cX1_withAtMost 28 = .ok (.ladd, 1) := by decide +kernel
theorem dX1_withAtMost_29 : decode cX1_withAtMost 29 = .ok (.lstore 4, 2) := by decide +kernel
theorem dX1_withAtMost_31 : decode cX1_withAtMost 31 = .ok (.iinc 6 1, 3) := by decide +kernel
theorem dX1_withAtMost_34 : decode cX1_withAtMost 34 = .ok (.goto (-28), 3) := by decide +kernel
theorem dX1_withAtMost_37 : decode cX1_withAtMost 37 = .ok (.lload 4, 2) := by decide +kernel
theorem dX1_withAtMost_39 : decode cX1_withAtMost 39 = .ok (.lreturn, 1) := by decide +kernel
theorem dX1_listedWithAtMost_0 : decode cX1_listedWithAtMost 0 = .ok (.iconst 1, 1) := by decide +kernel
theorem dX1_listedWithAtMost_1 : decode cX1_listedWithAtMost 1 = .ok (.iload_n 1, 1) := by decide +kernel
theorem dX1_listedWithAtMost_2 : decode cX1_listedWithAtMost 2 = .ok (.ishl, 1) := by decide +kernel
theorem dX1_listedWithAtMost_3 : decode cX1_listedWithAtMost 3 = .ok (.iconst 1, 1) := by decide +kernel
theorem dX1_listedWithAtMost_4 : decode cX1_listedWithAtMost 4 = .ok (.isub, 1) := by decide +kernel
theorem dX1_listedWithAtMost_5 : decode cX1_listedWithAtMost 5 = .ok (.istore 4, 2) := by decide +kernel
theorem dX1_listedWithAtMost_7 : decode cX1_listedWithAtMost 7 = .ok (.iconst 1, 1) := by decide +kernel
theorem dX1_listedWithAtMost_8 : decode cX1_listedWithAtMost 8 = .ok (.iload_n 0, 1) := by decide +kernel
theorem dX1_listedWithAtMost_9 : decode cX1_listedWithAtMost 9 = .ok (.ishl, 1) := by decide +kernel
theorem dX1_listedWithAtMost_10 : decode cX1_listedWithAtMost 10 = .ok (.istore 5, 2) := by decide +kernel
theorem dX1_listedWithAtMost_12 : decode cX1_listedWithAtMost 12 = .ok (.iconst 1, 1) := by decide +kernel
theorem dX1_listedWithAtMost_13 : decode cX1_listedWithAtMost 13 = .ok (.iload_n 2, 1) := by decide +kernel
theorem dX1_listedWithAtMost_14 : decode cX1_listedWithAtMost 14 = .ok (.ishl, 1) := by decide +kernel
theorem dX1_listedWithAtMost_15 : decode cX1_listedWithAtMost 15 = .ok (.iconst 1, 1) := by decide +kernel
theorem dX1_listedWithAtMost_16 : decode cX1_listedWithAtMost 16 = .ok (.isub, 1) := by decide +kernel
theorem dX1_listedWithAtMost_17 : decode cX1_listedWithAtMost 17 = .ok (.istore 6, 2) := by decide +kernel
theorem dX1_listedWithAtMost_19 : decode cX1_listedWithAtMost 19 = .ok (.lconst 0, 1) := by decide +kernel
theorem dX1_listedWithAtMost_20 : decode cX1_listedWithAtMost 20 = .ok (.lstore 7, 2) := by decide +kernel
theorem dX1_listedWithAtMost_22 : decode cX1_listedWithAtMost 22 = .ok (.iconst 0, 1) := by decide +kernel
theorem dX1_listedWithAtMost_23 : decode cX1_listedWithAtMost 23 = .ok (.istore 9, 2) := by decide +kernel
theorem dX1_listedWithAtMost_25 : decode cX1_listedWithAtMost 25 = .ok (.iload 9, 2) := by decide +kernel
theorem dX1_listedWithAtMost_27 : decode cX1_listedWithAtMost 27 = .ok (.iload 5, 2) := by decide +kernel
theorem dX1_listedWithAtMost_29 : decode cX1_listedWithAtMost 29 = .ok (.if_icmp .ge 41, 3) := by decide +kernel
theorem dX1_listedWithAtMost_32 : decode cX1_listedWithAtMost 32 = .ok (.iload 6, 2) := by decide +kernel
theorem dX1_listedWithAtMost_34 : decode cX1_listedWithAtMost 34 = .ok (.iload 5, 2) := by decide +kernel
theorem dX1_listedWithAtMost_36 : decode cX1_listedWithAtMost 36 = .ok (.if_icmp .ge 34, 3) := by decide +kernel
theorem dX1_listedWithAtMost_39 : decode cX1_listedWithAtMost 39 = .ok (.iload 6, 2) := by decide +kernel
theorem dX1_listedWithAtMost_41 : decode cX1_listedWithAtMost 41 = .ok (.iload 4, 2) := by decide +kernel
theorem dX1_listedWithAtMost_43 : decode cX1_listedWithAtMost 43 = .ok (.iand, 1) := by decide +kernel
theorem dX1_listedWithAtMost_44 : decode cX1_listedWithAtMost 44 = .ok (.invokestatic 17, 3) := by decide +kernel
theorem dX1_listedWithAtMost_47 : decode cX1_listedWithAtMost 47 = .ok (.iload_n 3, 1) := by decide +kernel
theorem dX1_listedWithAtMost_48 : decode cX1_listedWithAtMost 48 = .ok (.if_icmp .gt 9, 3) := by decide +kernel
theorem dX1_listedWithAtMost_51 : decode cX1_listedWithAtMost 51 = .ok (.lload 7, 2) := by decide +kernel
theorem dX1_listedWithAtMost_53 : decode cX1_listedWithAtMost 53 = .ok (.lconst 1, 1) := by decide +kernel
theorem dX1_listedWithAtMost_54 : decode cX1_listedWithAtMost 54 = .ok (.ladd, 1) := by decide +kernel
theorem dX1_listedWithAtMost_55 : decode cX1_listedWithAtMost 55 = .ok (.lstore 7, 2) := by decide +kernel
theorem dX1_listedWithAtMost_57 : decode cX1_listedWithAtMost 57 = .ok (.iload 6, 2) := by decide +kernel
theorem dX1_listedWithAtMost_59 : decode cX1_listedWithAtMost 59 = .ok (.invokestatic 23, 3) := by decide +kernel
theorem dX1_listedWithAtMost_62 : decode cX1_listedWithAtMost 62 = .ok (.istore 6, 2) := by decide +kernel
theorem dX1_listedWithAtMost_64 : decode cX1_listedWithAtMost 64 = .ok (.iinc 9 1, 3) := by decide +kernel
theorem dX1_listedWithAtMost_67 : decode cX1_listedWithAtMost 67 = .ok (.goto (-42), 3) := by decide +kernel
theorem dX1_listedWithAtMost_70 : decode cX1_listedWithAtMost 70 = .ok (.lload 7, 2) := by decide +kernel
theorem dX1_listedWithAtMost_72 : decode cX1_listedWithAtMost 72 = .ok (.lreturn, 1) := by decide +kernel
theorem dX1_nextWithAsManyBits_0 : decode cX1_nextWithAsManyBits 0 = .ok (.iload_n 0, 1) := by decide +kernel
theorem dX1_nextWithAsManyBits_1 : decode cX1_nextWithAsManyBits 1 = .ok (.iload_n 0, 1) := by decide +kernel
theorem dX1_nextWithAsManyBits_2 : decode cX1_nextWithAsManyBits 2 = .ok (.ineg, 1) := by decide +kernel
theorem dX1_nextWithAsManyBits_3 : decode cX1_nextWithAsManyBits 3 = .ok (.iand, 1) := by decide +kernel
theorem dX1_nextWithAsManyBits_4 : decode cX1_nextWithAsManyBits 4 = .ok (.istore_n 1, 1) := by decide +kernel
theorem dX1_nextWithAsManyBits_5 : decode cX1_nextWithAsManyBits 5 = .ok (.iload_n 1, 1) := by decide +kernel
theorem dX1_nextWithAsManyBits_6 : decode cX1_nextWithAsManyBits 6 = .ok (.ifCond .gt 6, 3) := by decide +kernel
theorem dX1_nextWithAsManyBits_9 : decode cX1_nextWithAsManyBits 9 = .ok (.ldc 26, 2) := by decide +kernel
theorem dX1_nextWithAsManyBits_11 : decode cX1_nextWithAsManyBits 11 = .ok (.ireturn, 1) := by decide +kernel
theorem dX1_nextWithAsManyBits_12 : decode cX1_nextWithAsManyBits 12 = .ok (.iload_n 0, 1) := by decide +kernel
theorem dX1_nextWithAsManyBits_13 : decode cX1_nextWithAsManyBits 13 = .ok (.iload_n 1, 1) := by decide +kernel
theorem dX1_nextWithAsManyBits_14 : decode cX1_nextWithAsManyBits 14 = .ok (.iadd, 1) := by decide +kernel
theorem dX1_nextWithAsManyBits_15 : decode cX1_nextWithAsManyBits 15 = .ok (.istore_n 2, 1) := by decide +kernel
theorem dX1_nextWithAsManyBits_16 : decode cX1_nextWithAsManyBits 16 = .ok (.iload_n 2, 1) := by decide +kernel
theorem dX1_nextWithAsManyBits_17 : decode cX1_nextWithAsManyBits 17 = .ok (.iload_n 2, 1) := by decide +kernel
theorem dX1_nextWithAsManyBits_18 : decode cX1_nextWithAsManyBits 18 = .ok (.iload_n 0, 1) := by decide +kernel
theorem dX1_nextWithAsManyBits_19 : decode cX1_nextWithAsManyBits 19 = .ok (.ixor, 1) := by decide +kernel
theorem dX1_nextWithAsManyBits_20 : decode cX1_nextWithAsManyBits 20 = .ok (.iconst 2, 1) := by decide +kernel
theorem dX1_nextWithAsManyBits_21 : decode cX1_nextWithAsManyBits 21 = .ok (.iushr, 1) := by decide +kernel
theorem dX1_nextWithAsManyBits_22 : decode cX1_nextWithAsManyBits 22 = .ok (.iload_n 1, 1) := by decide +kernel
theorem dX1_nextWithAsManyBits_23 : decode cX1_nextWithAsManyBits 23 = .ok (.idiv, 1) := by decide +kernel
theorem dX1_nextWithAsManyBits_24 : decode cX1_nextWithAsManyBits 24 = .ok (.ior, 1) := by decide +kernel
theorem dX1_nextWithAsManyBits_25 : decode cX1_nextWithAsManyBits 25 = .ok (.ireturn, 1) := by decide +kernel
theorem dX2_init_0 : decode cX2_init 0 = .ok (.aload_n 0, 1) := by decide +kernel
theorem dX2_init_1 : decode cX2_init 1 = .ok (.invokespecial 3, 3) := by decide +kernel
theorem dX2_init_4 : decode cX2_init 4 = .ok (.aload_n 0, 1) := by decide +kernel
theorem dX2_init_5 : decode cX2_init 5 = .ok (.bipush 60, 2) := by decide +kernel
theorem dX2_init_7 : decode cX2_init 7 = .ok (.newarray .boolean, 2) := by decide +kernel
theorem dX2_init_9 : decode cX2_init 9 = .ok (.putfield 9, 3) := by decide +kernel
theorem dX2_init_12 : decode cX2_init 12 = .ok (.aload_n 0, 1) := by decide +kernel
theorem dX2_init_13 : decode cX2_init 13 = .ok (.bipush 60, 2) := by decide +kernel
theorem dX2_init_15 : decode cX2_init 15 = .ok (.newarray .int, 2) := by decide +kernel
theorem dX2_init_17 : decode cX2_init 17 = .ok (.putfield 15, 3) := by decide +kernel
theorem dX2_init_20 : decode cX2_init 20 = .ok (.return_, 1) := by decide +kernel
theorem dX2_clear_0 : decode cX2_clear 0 = .ok (.aload_n 0, 1) := by decide +kernel
theorem dX2_clear_1 : decode cX2_clear 1 = .ok (.iconst 0, 1) := by decide +kernel
theorem dX2_clear_2 : decode cX2_clear 2 = .ok (.putfield 19, 3) := by decide +kernel
theorem dX2_clear_5 : decode cX2_clear 5 = .ok (.return_, 1) := by decide +kernel
theorem dX2_add_0 : decode cX2_add 0 = .ok (.aload_n 0, 1) := by decide +kernel
theorem dX2_add_1 : decode cX2_add 1 = .ok (.getfield 19, 3) := by decide +kernel
theorem dX2_add_4 : decode cX2_add 4 = .ok (.ifCond .lt 12, 3) := by decide +kernel
theorem dX2_add_7 : decode cX2_add 7 = .ok (.aload_n 0, 1) := by decide +kernel
theorem dX2_add_8 : decode cX2_add 8 = .ok (.getfield 19, 3) := by decide +kernel
theorem dX2_add_11 : decode cX2_add 11 = .ok (.bipush 60, 2) := by decide +kernel
theorem dX2_add_13 : decode cX2_add 13 = .ok (.if_icmp .lt 4, 3) := by decide +kernel
theorem dX2_add_16 : decode cX2_add 16 = .ok (.return_, 1) := by decide +kernel
theorem dX2_add_17 : decode cX2_add 17 = .ok (.aload_n 0, 1) := by decide +kernel
theorem dX2_add_18 : decode cX2_add 18 = .ok (.getfield 9, 3) := by decide +kernel
theorem dX2_add_21 : decode cX2_add 21 = .ok (.aload_n 0, 1) := by decide +kernel
theorem dX2_add_22 : decode cX2_add 22 = .ok (.getfield 19, 3) := by decide +kernel
theorem dX2_add_25 : decode cX2_add 25 = .ok (.aload_n 1, 1) := by decide +kernel
theorem dX2_add_26 : decode cX2_add 26 = .ok (.getfield 23, 3) := by decide +kernel
theorem dX2_add_29 : decode cX2_add 29 = .ok (.ifCond .ne 7, 3) := by decide +kernel
theorem dX2_add_32 : decode cX2_add 32 = .ok (.iconst 1, 1) := by decide +kernel
theorem dX2_add_33 : decode cX2_add 33 = .ok (.goto 4, 3) := by decide +kernel
theorem dX2_add_36 : decode cX2_add 36 = .ok (.iconst 0, 1) := by decide +kernel
theorem dX2_add_37 : decode cX2_add 37 = .ok (.bastore, 1) := by decide +kernel
theorem dX2_add_38 : decode cX2_add 38 = .ok (.aload_n 0, 1) := by decide +kernel
theorem dX2_add_39 : decode cX2_add 39 = .ok (.getfield 15, 3) := by decide +kernel
theorem dX2_add_42 : decode cX2_add 42 = .ok (.aload_n 0, 1) := by decide +kernel
theorem dX2_add_43 : decode cX2_add 43 = .ok (.getfield 19, 3) := by decide +kernel
theorem dX2_add_46 : decode cX2_add 46 = .ok (.aload_n 1, 1) := by decide +kernel
theorem dX2_add_47 : decode cX2_add 47 = .ok (.getfield 28, 3) := by decide +kernel
theorem dX2_add_50 : decode cX2_add 50 = .ok (.iastore, 1) := by decide +kernel
theorem dX2_add_51 : decode cX2_add 51 = .ok (.aload_n 0, 1) := by decide +kernel
theorem dX2_add_52 : decode cX2_add 52 = .ok (.dup, 1) := by decide +kernel
theorem dX2_add_53 : decode cX2_add 53 = .ok (.getfield 19, 3) := by decide +kernel
theorem dX2_add_56 : decode cX2_add 56 = .ok (.iconst 1, 1) := by decide +kernel
theorem dX2_add_57 : decode cX2_add 57 = .ok (.iadd, 1) := by decide +kernel
theorem dX2_add_58 : decode cX2_add 58 = .ok (.putfield 19, 3) := by decide +kernel
theorem dX2_add_61 : decode cX2_add 61 = .ok (.return_, 1) := by decide +kernel
theorem dX2_refusedInLast_0 : decode cX2_refusedInLast 0 = .ok (.iconst 0, 1) := by decide +kernel
theorem dX2_refusedInLast_1 : decode cX2_refusedInLast 1 = .ok (.istore_n 2, 1) := by decide +kernel
theorem dX2_refusedInLast_2 : decode cX2_refusedInLast 2 = .ok (.aload_n 0, 1) := by decide +kernel
theorem dX2_refusedInLast_3 : decode cX2_refusedInLast 3 = .ok (.getfield 19, 3) := by decide +kernel
theorem dX2_refusedInLast_6 : decode cX2_refusedInLast 6 = .ok (.iload_n 1, 1) := by decide +kernel
theorem dX2_refusedInLast_7 : decode cX2_refusedInLast 7 = .ok (.if_icmp .le 12, 3) := by decide +kernel
theorem dX2_refusedInLast_10 : decode cX2_refusedInLast 10 = .ok (.aload_n 0, 1) := by decide +kernel
theorem dX2_refusedInLast_11 : decode cX2_refusedInLast 11 = .ok (.getfield 19, 3) := by decide +kernel
theorem dX2_refusedInLast_14 : decode cX2_refusedInLast 14 = .ok (.iload_n 1, 1) := by decide +kernel
theorem dX2_refusedInLast_15 : decode cX2_refusedInLast 15 = .ok (.isub, 1) := by decide +kernel
theorem dX2_refusedInLast_16 : decode cX2_refusedInLast 16 = .ok (.goto 4, 3) := by decide +kernel
theorem dX2_refusedInLast_19 : decode cX2_refusedInLast 19 = .ok (.iconst 0, 1) := by decide +kernel
theorem dX2_refusedInLast_20 : decode cX2_refusedInLast 20 = .ok (.istore_n 3, 1) := by decide +kernel
theorem dX2_refusedInLast_21 : decode cX2_refusedInLast 21 = .ok (.iload_n 3, 1) := by decide +kernel
theorem dX2_refusedInLast_22 : decode cX2_refusedInLast 22 = .ok (.istore 4, 2) := by decide +kernel
theorem dX2_refusedInLast_24 : decode cX2_refusedInLast 24 = .ok (.iload 4, 2) := by decide +kernel
theorem dX2_refusedInLast_26 : decode cX2_refusedInLast 26 = .ok (.ifCond .lt 38, 3) := by decide +kernel
theorem dX2_refusedInLast_29 : decode cX2_refusedInLast 29 = .ok (.iload 4, 2) := by decide +kernel
theorem dX2_refusedInLast_31 : decode cX2_refusedInLast 31 = .ok (.aload_n 0, 1) := by decide +kernel
theorem dX2_refusedInLast_32 : decode cX2_refusedInLast 32 = .ok (.getfield 19, 3) := by decide +kernel
theorem dX2_refusedInLast_35 : decode cX2_refusedInLast 35 = .ok (.if_icmp .ge 29, 3) := by decide +kernel
theorem dX2_refusedInLast_38 : decode cX2_refusedInLast 38 = .ok (.iload 4, 2) := by decide +kernel
theorem dX2_refusedInLast_40 : decode cX2_refusedInLast 40 = .ok (.bipush 60, 2) := by decide +kernel
theorem dX2_refusedInLast_42 : decode cX2_refusedInLast 42 = .ok (.if_icmp .ge 22, 3) := by decide +kernel
theorem dX2_refusedInLast_45 : decode cX2_refusedInLast 45 = .ok (.aload_n 0, 1) := by decide +kernel
theorem dX2_refusedInLast_46 : decode cX2_refusedInLast 46 = .ok (.getfield 9, 3) := by decide +kernel
theorem dX2_refusedInLast_49 : decode cX2_refusedInLast 49 = .ok (.iload 4, 2) := by decide +kernel
theorem dX2_refusedInLast_51 : decode cX2_refusedInLast 51 = .ok (.baload, 1) := by decide +kernel
theorem dX2_refusedInLast_52 : decode cX2_refusedInLast 52 = .ok (.ifCond .eq 6, 3) := by decide +kernel
theorem dX2_refusedInLast_55 : decode cX2_refusedInLast 55 = .ok (.iinc 2 1, 3) := by decide +kernel
theorem dX2_refusedInLast_58 : decode cX2_refusedInLast 58 = .ok (.iinc 4 1, 3) := by decide +kernel
theorem dX2_refusedInLast_61 : decode cX2_refusedInLast 61 = .ok (.goto (-37), 3) := by decide +kernel
theorem dX2_refusedInLast_64 : decode cX2_refusedInLast 64 = .ok (.iload_n 2, 1) := by decide +kernel
theorem dX2_refusedInLast_65 : decode cX2_refusedInLast 65 = .ok (.ireturn, 1) := by decide +kernel
theorem dX2_badInLast_0 : decode cX2_badInLast 0 = .ok (.iconst 0, 1) := by decide +kernel
theorem dX2_badInLast_1 : decode cX2_badInLast 1 = .ok (.istore_n 2, 1) := by decide +kernel
theorem dX2_badInLast_2 : decode cX2_badInLast 2 = .ok (.aload_n 0, 1) := by decide +kernel
theorem dX2_badInLast_3 : decode cX2_badInLast 3 = .ok (.getfield 19, 3) := by decide +kernel
theorem dX2_badInLast_6 : decode cX2_badInLast 6 = .ok (.iload_n 1, 1) := by decide +kernel
theorem dX2_badInLast_7 : decode cX2_badInLast 7 = .ok (.if_icmp .le 12, 3) := by decide +kernel
theorem dX2_badInLast_10 : decode cX2_badInLast 10 = .ok (.aload_n 0, 1) := by decide +kernel
theorem dX2_badInLast_11 : decode cX2_badInLast 11 = .ok (.getfield 19, 3) := by decide +kernel
theorem dX2_badInLast_14 : decode cX2_badInLast 14 = .ok (.iload_n 1, 1) := by decide +kernel
theorem dX2_badInLast_15 : decode cX2_badInLast 15 = .ok (.isub, 1) := by decide +kernel
theorem dX2_badInLast_16 : decode cX2_badInLast 16 = .ok (.goto 4, 3) := by decide +kernel
theorem dX2_badInLast_19 : decode cX2_badInLast 19 = .ok (.iconst 0, 1) := by decide +kernel
theorem dX2_badInLast_20 : decode cX2_badInLast 20 = .ok (.istore_n 3, 1) := by decide +kernel
theorem dX2_badInLast_21 : decode cX2_badInLast 21 = .ok (.iload_n 3, 1) := by decide +kernel
theorem dX2_badInLast_22 : decode cX2_badInLast 22 = .ok (.istore 4, 2) := by decide +kernel
theorem dX2_badInLast_24 : decode cX2_badInLast 24 = .ok (.iload 4, 2) := by decide +kernel
theorem dX2_badInLast_26 : decode cX2_badInLast 26 = .ok (.ifCond .lt 35, 3) := by decide +kernel
theorem dX2_badInLast_29 : decode cX2_badInLast 29 = .ok (.iload 4, 2) := by decide +kernel
theorem dX2_badInLast_31 : decode cX2_badInLast 31 = .ok (.aload_n 0, 1) := by decide +kernel
theorem dX2_badInLast_32 : decode cX2_badInLast 32 = .ok (.getfield 19, 3) := by decide +kernel
theorem dX2_badInLast_35 : decode cX2_badInLast 35 = .ok (.if_icmp .ge 26, 3) := by decide +kernel
theorem dX2_badInLast_38 : decode cX2_badInLast 38 = .ok (.iload 4, 2) := by decide +kernel
theorem dX2_badInLast_40 : decode cX2_badInLast 40 = .ok (.bipush 60, 2) := by decide +kernel
theorem dX2_badInLast_42 : decode cX2_badInLast 42 = .ok (.if_icmp .ge 19, 3) := by decide +kernel
theorem dX2_badInLast_45 : decode cX2_badInLast 45 = .ok (.iload_n 2, 1) := by decide +kernel
theorem dX2_badInLast_46 : decode cX2_badInLast 46 = .ok (.aload_n 0, 1) := by decide +kernel
theorem dX2_badInLast_47 : decode cX2_badInLast 47 = .ok (.getfield 15, 3) := by decide +kernel
theorem dX2_badInLast_50 : decode cX2_badInLast 50 = .ok (.iload 4, 2) := by decide +kernel
theorem dX2_badInLast_52 : decode cX2_badInLast 52 = .ok (.iaload, 1) := by decide +kernel
theorem dX2_badInLast_53 : decode cX2_badInLast 53 = .ok (.iadd, 1) := by decide +kernel
theorem dX2_badInLast_54 : decode cX2_badInLast 54 = .ok (.istore_n 2, 1) := by decide +kernel
theorem dX2_badInLast_55 : decode cX2_badInLast 55 = .ok (.iinc 4 1, 3) := by decide +kernel
theorem dX2_badInLast_58 : decode cX2_badInLast 58 = .ok (.goto (-34), 3) := by decide +kernel
theorem dX2_badInLast_61 : decode cX2_badInLast 61 = .ok (.iload_n 2, 1) := by decide +kernel
theorem dX2_badInLast_62 : decode cX2_badInLast 62 = .ok (.ireturn, 1) := by decide +kernel
theorem dX2_lastWereAccepted_0 : decode cX2_lastWereAccepted 0 = .ok (.aload_n 0, 1) := by decide +kernel
theorem dX2_lastWereAccepted_1 : decode cX2_lastWereAccepted 1 = .ok (.getfield 19, 3) := by decide +kernel
theorem dX2_lastWereAccepted_4 : decode cX2_lastWereAccepted 4 = .ok (.iload_n 1, 1) := by decide +kernel
theorem dX2_lastWereAccepted_5 : decode cX2_lastWereAccepted 5 = .ok (.if_icmp .lt 15, 3) := by decide +kernel
theorem dX2_lastWereAccepted_8 : decode cX2_lastWereAccepted 8 = .ok (.aload_n 0, 1) := by decide +kernel
theorem dX2_lastWereAccepted_9 : decode cX2_lastWereAccepted 9 = .ok (.iload_n 1, 1) := by decide +kernel
theorem dX2_lastWereAccepted_10 : decode cX2_lastWereAccepted 10 = .ok (.invokevirtual 30, 3) := by decide +kernel
theorem dX2_lastWereAccepted_13 : decode cX2_lastWereAccepted 13 = .ok (.ifCond .ne 7, 3) := by decide +kernel
theorem dX2_lastWereAccepted_16 : decode cX2_lastWereAccepted 16 = .ok (.iconst 1, 1) := by decide +kernel
theorem dX2_lastWereAccepted_17 : decode cX2_lastWereAccepted 17 = .ok (.goto 4, 3) := by decide +kernel
theorem dX2_lastWereAccepted_20 : decode cX2_lastWereAccepted 20 = .ok (.iconst 0, 1) := by decide +kernel
theorem dX2_lastWereAccepted_21 : decode cX2_lastWereAccepted 21 = .ok (.ireturn, 1) := by decide +kernel
theorem dX3_init_0 : decode cX3_init 0 = .ok (.aload_n 0, 1) := by decide +kernel
theorem dX3_init_1 : decode cX3_init 1 = .ok (.invokespecial 3, 3) := by decide +kernel
theorem dX3_init_4 : decode cX3_init 4 = .ok (.aload_n 0, 1) := by decide +kernel
theorem dX3_init_5 : decode cX3_init 5 = .ok (.iload_n 1, 1) := by decide +kernel
theorem dX3_init_6 : decode cX3_init 6 = .ok (.putfield 9, 3) := by decide +kernel
theorem dX3_init_9 : decode cX3_init 9 = .ok (.aload_n 0, 1) := by decide +kernel
theorem dX3_init_10 : decode cX3_init 10 = .ok (.iload_n 2, 1) := by decide +kernel
theorem dX3_init_11 : decode cX3_init 11 = .ok (.putfield 15, 3) := by decide +kernel
theorem dX3_init_14 : decode cX3_init 14 = .ok (.aload_n 0, 1) := by decide +kernel
theorem dX3_init_15 : decode cX3_init 15 = .ok (.lload_n 3, 1) := by decide +kernel
theorem dX3_init_16 : decode cX3_init 16 = .ok (.putfield 18, 3) := by decide +kernel
theorem dX3_init_19 : decode cX3_init 19 = .ok (.return_, 1) := by decide +kernel
theorem dX3_inspectFirst_0 : decode cX3_inspectFirst 0 = .ok (.aload_n 0, 1) := by decide +kernel
theorem dX3_inspectFirst_1 : decode cX3_inspectFirst 1 = .ok (.iload_n 1, 1) := by decide +kernel
theorem dX3_inspectFirst_2 : decode cX3_inspectFirst 2 = .ok (.putfield 22, 3) := by decide +kernel
theorem dX3_inspectFirst_5 : decode cX3_inspectFirst 5 = .ok (.aload_n 0, 1) := by decide +kernel
theorem dX3_inspectFirst_6 : decode cX3_inspectFirst 6 = .ok (.aload_n 0, 1) := by decide +kernel
theorem dX3_inspectFirst_7 : decode cX3_inspectFirst 7 = .ok (.getfield 18, 3) := by decide +kernel
theorem dX3_inspectFirst_10 : decode cX3_inspectFirst 10 = .ok (.lconst 1, 1) := by decide +kernel
theorem dX3_inspectFirst_11 : decode cX3_inspectFirst 11 = .ok (.iload_n 1, 1) := by decide +kernel
theorem dX3_inspectFirst_12 : decode cX3_inspectFirst 12 = .ok (.lshl, 1) := by decide +kernel
theorem dX3_inspectFirst_13 : decode cX3_inspectFirst 13 = .ok (.lconst 1, 1) := by decide +kernel
theorem dX3_inspectFirst_14 : decode cX3_inspectFirst 14 = .ok (.lsub, 1) := by decide +kernel
theorem dX3_inspectFirst_15 : decode cX3_inspectFirst 15 = .ok (.land, 1) := by decide +kernel
theorem dX3_inspectFirst_16 : decode cX3_inspectFirst 16 = .ok (.invokestatic 25, 3) := by decide +kernel
theorem dX3_inspectFirst_19 : decode cX3_inspectFirst 19 = .ok (.putfield 31, 3) := by decide +kernel
theorem dX3_inspectFirst_22 : decode cX3_inspectFirst 22 = .ok (.return_, 1) := by decide +kernel
theorem dX3_leaveUninspected_0 : decode cX3_leaveUninspected 0 = .ok (.aload_n 0, 1) := by decide +kernel
theorem dX3_leaveUninspected_1 : decode cX3_leaveUninspected 1 = .ok (.iconst 0, 1) := by decide +kernel
theorem dX3_leaveUninspected_2 : decode cX3_leaveUninspected 2 = .ok (.putfield 22, 3) := by decide +kernel
theorem dX3_leaveUninspected_5 : decode cX3_leaveUninspected 5 = .ok (.aload_n 0, 1) := by decide +kernel
theorem dX3_leaveUninspected_6 : decode cX3_leaveUninspected 6 = .ok (.iconst 0, 1) := by decide +kernel
theorem dX3_leaveUninspected_7 : decode cX3_leaveUninspected 7 = .ok (.putfield 31, 3) := by decide +kernel
theorem dX3_leaveUninspected_10 : decode cX3_leaveUninspected 10 = .ok (.aload_n 0, 1) := by decide +kernel
theorem dX3_leaveUninspected_11 : decode cX3_leaveUninspected 11 = .ok (.iload_n 1, 1) := by decide +kernel
theorem dX3_leaveUninspected_12 : decode cX3_leaveUninspected 12 = .ok (.putfield 34, 3) := by decide +kernel
theorem dX3_leaveUninspected_15 : decode cX3_leaveUninspected 15 = .ok (.return_, 1) := by decide +kernel
theorem dX3_judge_0 : decode cX3_judge 0 = .ok (.aload_n 0, 1) := by decide +kernel
theorem dX3_judge_1 : decode cX3_judge 1 = .ok (.iload_n 1, 1) := by decide +kernel
theorem dX3_judge_2 : decode cX3_judge 2 = .ok (.ifCond .eq 7, 3) := by decide +kernel
theorem dX3_judge_5 : decode cX3_judge 5 = .ok (.iconst 1, 1) := by decide +kernel
theorem dX3_judge_6 : decode cX3_judge 6 = .ok (.goto 4, 3) := by decide +kernel
theorem dX3_judge_9 : decode cX3_judge 9 = .ok (.iconst 0, 1) := by decide +kernel
theorem dX3_judge_10 : decode cX3_judge 10 = .ok (.putfield 34, 3) := by decide +kernel
theorem dX3_judge_13 : decode cX3_judge 13 = .ok (.return_, 1) := by decide +kernel
theorem dX4_init_0 : decode cX4_init 0 = .ok (.aload_n 0, 1) := by decide +kernel
theorem dX4_init_1 : decode cX4_init 1 = .ok (.invokespecial 3, 3) := by decide +kernel
theorem dX4_init_4 : decode cX4_init 4 = .ok (.aload_n 0, 1) := by decide +kernel
theorem dX4_init_5 : decode cX4_init 5 = .ok (.iconst 1, 1) := by decide +kernel
theorem dX4_init_6 : decode cX4_init 6 = .ok (.putfield 9, 3) := by decide +kernel
theorem dX4_init_9 : decode cX4_init 9 = .ok (.aload_n 0, 1) := by decide +kernel
theorem dX4_init_10 : decode cX4_init 10 = .ok (.iconst 1, 1) := by decide +kernel
theorem dX4_init_11 : decode cX4_init 11 = .ok (.putfield 15, 3) := by decide +kernel
theorem dX4_init_14 : decode cX4_init 14 = .ok (.return_, 1) := by decide +kernel
theorem dX4_letterFor_0 : decode cX4_letterFor 0 = .ok (.aload_n 0, 1) := by decide +kernel
theorem dX4_letterFor_1 : decode cX4_letterFor 1 = .ok (.getfield 9, 3) := by decide +kernel
theorem dX4_letterFor_4 : decode cX4_letterFor 4 = .ok (.istore_n 2, 1) := by decide +kernel
theorem dX4_letterFor_5 : decode cX4_letterFor 5 = .ok (.getstatic 18, 3) := by decide +kernel
theorem dX4_letterFor_8 : decode cX4_letterFor 8 = .ok (.astore_n 3, 1) := by decide +kernel
theorem dX4_letterFor_9 : decode cX4_letterFor 9 = .ok (.aload_n 3, 1) := by decide +kernel
theorem dX4_letterFor_10 : decode cX4_letterFor 10 = .ok (.arraylength, 1) := by decide +kernel
theorem dX4_letterFor_11 : decode cX4_letterFor 11 = .ok (.istore 4, 2) := by decide +kernel
theorem dX4_letterFor_13 : decode cX4_letterFor 13 = .ok (.iconst 0, 1) := by decide +kernel
theorem dX4_letterFor_14 : decode cX4_letterFor 14 = .ok (.istore 5, 2) := by decide +kernel
theorem dX4_letterFor_16 : decode cX4_letterFor 16 = .ok (.iload 5, 2) := by decide +kernel
theorem dX4_letterFor_18 : decode cX4_letterFor 18 = .ok (.iload 4, 2) := by decide +kernel
theorem dX4_letterFor_20 : decode cX4_letterFor 20 = .ok (.if_icmp .ge 24, 3) := by decide +kernel
theorem dX4_letterFor_23 : decode cX4_letterFor 23 = .ok (.aload_n 3, 1) := by decide +kernel
theorem dX4_letterFor_24 : decode cX4_letterFor 24 = .ok (.iload 5, 2) := by decide +kernel
theorem dX4_letterFor_26 : decode cX4_letterFor 26 = .ok (.iaload, 1) := by decide +kernel
theorem dX4_letterFor_27 : decode cX4_letterFor 27 = .ok (.istore 6, 2) := by decide +kernel
theorem dX4_letterFor_29 : decode cX4_letterFor 29 = .ok (.iload_n 1, 1) := by decide +kernel
theorem dX4_letterFor_30 : decode cX4_letterFor 30 = .ok (.iload 6, 2) := by decide +kernel
theorem dX4_letterFor_32 : decode cX4_letterFor 32 = .ok (.if_icmp .le 6, 3) := by decide +kernel
theorem dX4_letterFor_35 : decode cX4_letterFor 35 = .ok (.iinc 2 1, 3) := by decide +kernel
theorem dX4_letterFor_38 : decode cX4_letterFor 38 = .ok (.iinc 5 1, 3) := by decide +kernel
theorem dX4_letterFor_41 : decode cX4_letterFor 41 = .ok (.goto (-25), 3) := by decide +kernel
theorem dX4_letterFor_44 : decode cX4_letterFor 44 = .ok (.iload_n 2, 1) := by decide +kernel
theorem dX4_letterFor_45 : decode cX4_letterFor 45 = .ok (.ifCond .le 17, 3) := by decide +kernel
theorem dX4_letterFor_48 : decode cX4_letterFor 48 = .ok (.iload_n 2, 1) := by decide +kernel
theorem dX4_letterFor_49 : decode cX4_letterFor 49 = .ok (.invokestatic 22, 3) := by decide +kernel
theorem dX4_letterFor_52 : decode cX4_letterFor 52 = .ok (.iload_n 1, 1) := by decide +kernel
theorem dX4_letterFor_53 : decode cX4_letterFor 53 = .ok (.if_icmp .le 9, 3) := by decide +kernel
theorem dX4_letterFor_56 : decode cX4_letterFor 56 = .ok (.iinc 2 (-1), 3) := by decide +kernel
theorem dX4_letterFor_59 : decode cX4_letterFor 59 = .ok (.goto (-15), 3) := by decide +kernel
theorem dX4_letterFor_62 : decode cX4_letterFor 62 = .ok (.iload_n 2, 1) := by decide +kernel
theorem dX4_letterFor_63 : decode cX4_letterFor 63 = .ok (.ireturn, 1) := by decide +kernel
theorem dX4_sampleUnder_0 : decode cX4_sampleUnder 0 = .ok (.aload_n 0, 1) := by decide +kernel
theorem dX4_sampleUnder_1 : decode cX4_sampleUnder 1 = .ok (.iload_n 1, 1) := by decide +kernel
theorem dX4_sampleUnder_2 : decode cX4_sampleUnder 2 = .ok (.invokevirtual 26, 3) := by decide +kernel
theorem dX4_sampleUnder_5 : decode cX4_sampleUnder 5 = .ok (.istore_n 3, 1) := by decide +kernel
theorem dX4_sampleUnder_6 : decode cX4_sampleUnder 6 = .ok (.iload_n 2, 1) := by decide +kernel
theorem dX4_sampleUnder_7 : decode cX4_sampleUnder 7 = .ok (.iconst 2, 1) := by decide +kernel
theorem dX4_sampleUnder_8 : decode cX4_sampleUnder 8 = .ok (.if_icmp .ne 9, 3) := by decide +kernel
theorem dX4_sampleUnder_11 : decode cX4_sampleUnder 11 = .ok (.iload_n 3, 1) := by decide +kernel
theorem dX4_sampleUnder_12 : decode cX4_sampleUnder 12 = .ok (.iconst 2, 1) := by decide +kernel
theorem dX4_sampleUnder_13 : decode cX4_sampleUnder 13 = .ok (.isub, 1) := by decide +kernel
theorem dX4_sampleUnder_14 : decode cX4_sampleUnder 14 = .ok (.goto 4, 3) := by decide +kernel
theorem dX4_sampleUnder_17 : decode cX4_sampleUnder 17 = .ok (.iload_n 3, 1) := by decide +kernel
theorem dX4_sampleUnder_18 : decode cX4_sampleUnder 18 = .ok (.invokestatic 22, 3) := by decide +kernel
theorem dX4_sampleUnder_21 : decode cX4_sampleUnder 21 = .ok (.ireturn, 1) := by decide +kernel
theorem dX4_acceptingUnder_0 : decode cX4_acceptingUnder 0 = .ok (.aload_n 0, 1) := by decide +kernel
theorem dX4_acceptingUnder_1 : decode cX4_acceptingUnder 1 = .ok (.iload_n 1, 1) := by decide +kernel
theorem dX4_acceptingUnder_2 : decode cX4_acceptingUnder 2 = .ok (.invokevirtual 26, 3) := by decide +kernel
theorem dX4_acceptingUnder_5 : decode cX4_acceptingUnder 5 = .ok (.invokestatic 22, 3) := by decide +kernel
theorem dX4_acceptingUnder_8 : decode cX4_acceptingUnder 8 = .ok (.iconst 2, 1) := by decide +kernel
theorem dX4_acceptingUnder_9 : decode cX4_acceptingUnder 9 = .ok (.aload_n 0, 1) := by decide +kernel
theorem dX4_acceptingUnder_10 : decode cX4_acceptingUnder 10 = .ok (.getfield 15, 3) := by decide +kernel
theorem dX4_acceptingUnder_13 : decode cX4_acceptingUnder 13 = .ok (.imul, 1) := by decide +kernel
theorem dX4_acceptingUnder_14 : decode cX4_acceptingUnder 14 = .ok (.iconst 1, 1) := by decide +kernel
theorem dX4_acceptingUnder_15 : decode cX4_acceptingUnder 15 = .ok (.iadd, 1) := by decide +kernel
theorem dX4_acceptingUnder_16 : decode cX4_acceptingUnder 16 = .ok (.imul, 1) := by decide +kernel
theorem dX4_acceptingUnder_17 : decode cX4_acceptingUnder 17 = .ok (.bipush 40, 2) := by decide +kernel
theorem dX4_acceptingUnder_19 : decode cX4_acceptingUnder 19 = .ok (.idiv, 1) := by decide +kernel
theorem dX4_acceptingUnder_20 : decode cX4_acceptingUnder 20 = .ok (.istore_n 3, 1) := by decide +kernel
theorem dX4_acceptingUnder_21 : decode cX4_acceptingUnder 21 = .ok (.iload_n 2, 1) := by decide +kernel
theorem dX4_acceptingUnder_22 : decode cX4_acceptingUnder 22 = .ok (.ifCond .eq 7, 3) := by decide +kernel
theorem dX4_acceptingUnder_25 : decode cX4_acceptingUnder 25 = .ok (.iload_n 3, 1) := by decide +kernel
theorem dX4_acceptingUnder_26 : decode cX4_acceptingUnder 26 = .ok (.ifCond .ne 7, 3) := by decide +kernel
theorem dX4_acceptingUnder_29 : decode cX4_acceptingUnder 29 = .ok (.iload_n 3, 1) := by decide +kernel
theorem dX4_acceptingUnder_30 : decode cX4_acceptingUnder 30 = .ok (.goto 6, 3) := by decide +kernel
theorem dX4_acceptingUnder_33 : decode cX4_acceptingUnder 33 = .ok (.iload_n 3, 1) := by decide +kernel
theorem dX4_acceptingUnder_34 : decode cX4_acceptingUnder 34 = .ok (.iconst 1, 1) := by decide +kernel
theorem dX4_acceptingUnder_35 : decode cX4_acceptingUnder 35 = .ok (.isub, 1) := by decide +kernel
theorem dX4_acceptingUnder_36 : decode cX4_acceptingUnder 36 = .ok (.ireturn, 1) := by decide +kernel
theorem dX4_sampleOf_0 : decode cX4_sampleOf 0 = .ok (.iload_n 0, 1) := by decide +kernel
theorem dX4_sampleOf_1 : decode cX4_sampleOf 1 = .ok (.ifCond .lt 15, 3) := by decide +kernel
theorem dX4_sampleOf_4 : decode cX4_sampleOf 4 = .ok (.iload_n 0, 1) := by decide +kernel
theorem dX4_sampleOf_5 : decode cX4_sampleOf 5 = .ok (.getstatic 29, 3) := by decide +kernel
theorem dX4_sampleOf_8 : decode cX4_sampleOf 8 = .ok (.arraylength, 1) := by decide +kernel
theorem dX4_sampleOf_9 : decode cX4_sampleOf 9 = .ok (.if_icmp .ge 7, 3) := by decide +kernel
theorem dX4_sampleOf_12 : decode cX4_sampleOf 12 = .ok (.iconst 1, 1) := by decide +kernel
theorem dX4_sampleOf_13 : decode cX4_sampleOf 13 = .ok (.goto 4, 3) := by decide +kernel
theorem dX4_sampleOf_16 : decode cX4_sampleOf 16 = .ok (.iconst 0, 1) := by decide +kernel
theorem dX4_sampleOf_17 : decode cX4_sampleOf 17 = .ok (.istore_n 1, 1) := by decide +kernel
theorem dX4_sampleOf_18 : decode cX4_sampleOf 18 = .ok (.getstatic 29, 3) := by decide +kernel
theorem dX4_sampleOf_21 : decode cX4_sampleOf 21 = .ok (.iload_n 1, 1) := by decide +kernel
theorem dX4_sampleOf_22 : decode cX4_sampleOf 22 = .ok (.ifCond .eq 7, 3) := by decide +kernel
theorem dX4_sampleOf_25 : decode cX4_sampleOf 25 = .ok (.iload_n 0, 1) := by decide +kernel
theorem dX4_sampleOf_26 : decode cX4_sampleOf 26 = .ok (.goto 4, 3) := by decide +kernel
theorem dX4_sampleOf_29 : decode cX4_sampleOf 29 = .ok (.iconst 0, 1) := by decide +kernel
theorem dX4_sampleOf_30 : decode cX4_sampleOf 30 = .ok (.iaload, 1) := by decide +kernel
theorem dX4_sampleOf_31 : decode cX4_sampleOf 31 = .ok (.ireturn, 1) := by decide +kernel
theorem dX4_inspect_0 : decode cX4_inspect 0 = .ok (.aload_n 0, 1) := by decide +kernel
theorem dX4_inspect_1 : decode cX4_inspect 1 = .ok (.aload_n 1, 1) := by decide +kernel
theorem dX4_inspect_2 : decode cX4_inspect 2 = .ok (.getfield 32, 3) := by decide +kernel
theorem dX4_inspect_5 : decode cX4_inspect 5 = .ok (.iload_n 2, 1) := by decide +kernel
theorem dX4_inspect_6 : decode cX4_inspect 6 = .ok (.invokevirtual 37, 3) := by decide +kernel
theorem dX4_inspect_9 : decode cX4_inspect 9 = .ok (.istore_n 3, 1) := by decide +kernel
theorem dX4_inspect_10 : decode cX4_inspect 10 = .ok (.aload_n 0, 1) := by decide +kernel
theorem dX4_inspect_11 : decode cX4_inspect 11 = .ok (.aload_n 1, 1) := by decide +kernel
theorem dX4_inspect_12 : decode cX4_inspect 12 = .ok (.getfield 32, 3) := by decide +kernel
theorem dX4_inspect_15 : decode cX4_inspect 15 = .ok (.iload_n 2, 1) := by decide +kernel
theorem dX4_inspect_16 : decode cX4_inspect 16 = .ok (.invokevirtual 41, 3) := by decide +kernel
theorem dX4_inspect_19 : decode cX4_inspect 19 = .ok (.istore 4, 2) := by decide +kernel
theorem dX4_inspect_21 : decode cX4_inspect 21 = .ok (.aload_n 0, 1) := by decide +kernel
theorem dX4_inspect_22 : decode cX4_inspect 22 = .ok (.getfield 44, 3) := by decide +kernel
theorem dX4_inspect_25 : decode cX4_inspect 25 = .ok (.ifCond .eq 27, 3) := by decide +kernel
theorem dX4_inspect_28 : decode cX4_inspect 28 = .ok (.iload_n 2, 1) := by decide +kernel
theorem dX4_inspect_29 : decode cX4_inspect 29 = .ok (.iconst 2, 1) := by decide +kernel
theorem dX4_inspect_30 : decode cX4_inspect 30 = .ok (.if_icmp .eq 22, 3) := by decide +kernel
theorem dX4_inspect_33 : decode cX4_inspect 33 = .ok (.iload_n 3, 1) := by decide +kernel
theorem dX4_inspect_34 : decode cX4_inspect 34 = .ok (.iconst 5, 1) := by decide +kernel
theorem dX4_inspect_35 : decode cX4_inspect 35 = .ok (.if_icmp .lt 17, 3) := by decide +kernel
theorem dX4_inspect_38 : decode cX4_inspect 38 = .ok (.aload_n 1, 1) := by decide +kernel
theorem dX4_inspect_39 : decode cX4_inspect 39 = .ok (.iload_n 3, 1) := by decide +kernel
theorem dX4_inspect_40 : decode cX4_inspect 40 = .ok (.iconst 2, 1) := by decide +kernel
theorem dX4_inspect_41 : decode cX4_inspect 41 = .ok (.imul, 1) := by decide +kernel
theorem dX4_inspect_42 : decode cX4_inspect 42 = .ok (.iconst 2, 1) := by decide +kernel
theorem dX4_inspect_43 : decode cX4_inspect 43 = .ok (.iadd, 1) := by decide +kernel
theorem dX4_inspect_44 : decode cX4_inspect 44 = .ok (.iconst 3, 1) := by decide +kernel
theorem dX4_inspect_45 : decode cX4_inspect 45 = .ok (.idiv, 1) := by decide +kernel
theorem dX4_inspect_46 : decode cX4_inspect 46 = .ok (.iload 4, 2) := by decide +kernel
theorem dX4_inspect_48 : decode cX4_inspect 48 = .ok (.invokestatic 48, 3) := by decide +kernel
theorem dX4_inspect_51 : decode cX4_inspect 51 = .ok (.return_, 1) := by decide +kernel
theorem dX4_inspect_52 : decode cX4_inspect 52 = .ok (.aload_n 1, 1) := by decide +kernel
theorem dX4_inspect_53 : decode cX4_inspect 53 = .ok (.iload_n 3, 1) := by decide +kernel
theorem dX4_inspect_54 : decode cX4_inspect 54 = .ok (.invokevirtual 52, 3) := by decide +kernel
theorem dX4_inspect_57 : decode cX4_inspect 57 = .ok (.aload_n 1, 1) := by decide +kernel
theorem dX4_inspect_58 : decode cX4_inspect 58 = .ok (.aload_n 1, 1) := by decide +kernel
theorem dX4_inspect_59 : decode cX4_inspect 59 = .ok (.getfield 56, 3) := by decide +kernel
theorem dX4_inspect_62 : decode cX4_inspect 62 = .ok (.iload_n 2, 1) := by decide +kernel
theorem dX4_inspect_63 : decode cX4_inspect 63 = .ok (.iconst 2, 1) := by decide +kernel
theorem dX4_inspect_64 : decode cX4_inspect 64 = .ok (.if_icmp .ne 10, 3) := by decide +kernel
theorem dX4_inspect_67 : decode cX4_inspect 67 = .ok (.iload 4, 2) := by decide +kernel
theorem dX4_inspect_69 : decode cX4_inspect 69 = .ok (.iconst 1, 1) := by decide +kernel
theorem dX4_inspect_70 : decode cX4_inspect 70 = .ok (.iadd, 1) := by decide +kernel
theorem dX4_inspect_71 : decode cX4_inspect 71 = .ok (.goto 5, 3) := by decide +kernel
theorem dX4_inspect_74 : decode cX4_inspect 74 = .ok (.iload 4, 2) := by decide +kernel
theorem dX4_inspect_76 : decode cX4_inspect 76 = .ok (.if_icmp .gt 7, 3) := by decide +kernel
theorem dX4_inspect_79 : decode cX4_inspect 79 = .ok (.iconst 1, 1) := by decide +kernel
theorem dX4_inspect_80 : decode cX4_inspect 80 = .ok (.goto 4, 3) := by decide +kernel
theorem dX4_inspect_83 : decode cX4_inspect 83 = .ok (.iconst 0, 1) := by decide +kernel
theorem dX4_inspect_84 : decode cX4_inspect 84 = .ok (.invokevirtual 59, 3) := by decide +kernel
theorem dX4_inspect_87 : decode cX4_inspect 87 = .ok (.return_, 1) := by decide +kernel
theorem dX4_inspectTwice_0 : decode cX4_inspectTwice 0 = .ok (.aload_n 0, 1) := by decide +kernel
theorem dX4_inspectTwice_1 : decode cX4_inspectTwice 1 = .ok (.iload_n 1, 1) := by decide +kernel
theorem dX4_inspectTwice_2 : decode cX4_inspectTwice 2 = .ok (.invokevirtual 52, 3) := by decide +kernel
theorem dX4_inspectTwice_5 : decode cX4_inspectTwice 5 = .ok (.aload_n 0, 1) := by decide +kernel
theorem dX4_inspectTwice_6 : decode cX4_inspectTwice 6 = .ok (.getfield 56, 3) := by decide +kernel
theorem dX4_inspectTwice_9 : decode cX4_inspectTwice 9 = .ok (.iload_n 2, 1) := by decide +kernel
theorem dX4_inspectTwice_10 : decode cX4_inspectTwice 10 = .ok (.iconst 2, 1) := by decide +kernel
theorem dX4_inspectTwice_11 : decode cX4_inspectTwice 11 = .ok (.isub, 1) := by decide +kernel
theorem dX4_inspectTwice_12 : decode cX4_inspectTwice 12 = .ok (.if_icmp .gt 7, 3) := by decide +kernel
theorem dX4_inspectTwice_15 : decode cX4_inspectTwice 15 = .ok (.iconst 1, 1) := by decide +kernel
theorem dX4_inspectTwice_16 : decode cX4_inspectTwice 16 = .ok (.goto 4, 3) := by decide +kernel
theorem dX4_inspectTwice_19 : decode cX4_inspectTwice 19 = .ok (.iconst 0, 1) := by decide +kernel
theorem dX4_inspectTwice_20 : decode cX4_inspectTwice 20 = .ok (.istore_n 3, 1) := by decide +kernel
theorem dX4_inspectTwice_21 : decode cX4_inspectTwice 21 = .ok (.iload_n 3, 1) := by decide +kernel
theorem dX4_inspectTwice_22 : decode cX4_inspectTwice 22 = .ok (.ifCond .ne 34, 3) := by decide +kernel
theorem dX4_inspectTwice_25 : decode cX4_inspectTwice 25 = .ok (.aload_n 0, 1) := by decide +kernel
theorem dX4_inspectTwice_26 : decode cX4_inspectTwice 26 = .ok (.getfield 56, 3) := by decide +kernel
theorem dX4_inspectTwice_29 : decode cX4_inspectTwice 29 = .ok (.iload_n 2, 1) := by decide +kernel
theorem dX4_inspectTwice_30 : decode cX4_inspectTwice 30 = .ok (.if_icmp .gt 26, 3) := by decide +kernel
theorem dX4_inspectTwice_33 : decode cX4_inspectTwice 33 = .ok (.iconst 2, 1) := by decide +kernel
theorem dX4_inspectTwice_34 : decode cX4_inspectTwice 34 = .ok (.iload_n 1, 1) := by decide +kernel
theorem dX4_inspectTwice_35 : decode cX4_inspectTwice 35 = .ok (.imul, 1) := by decide +kernel
theorem dX4_inspectTwice_36 : decode cX4_inspectTwice 36 = .ok (.aload_n 0, 1) := by decide +kernel
theorem dX4_inspectTwice_37 : decode cX4_inspectTwice 37 = .ok (.getfield 32, 3) := by decide +kernel
theorem dX4_inspectTwice_40 : decode cX4_inspectTwice 40 = .ok (.bipush 50, 2) := by decide +kernel
theorem dX4_inspectTwice_42 : decode cX4_inspectTwice 42 = .ok (.invokestatic 63, 3) := by decide +kernel
theorem dX4_inspectTwice_45 : decode cX4_inspectTwice 45 = .ok (.invokestatic 63, 3) := by decide +kernel
theorem dX4_inspectTwice_48 : decode cX4_inspectTwice 48 = .ok (.istore 4, 2) := by decide +kernel
theorem dX4_inspectTwice_50 : decode cX4_inspectTwice 50 = .ok (.aload_n 0, 1) := by decide +kernel
theorem dX4_inspectTwice_51 : decode cX4_inspectTwice 51 = .ok (.iload 4, 2) := by decide +kernel
theorem dX4_inspectTwice_53 : decode cX4_inspectTwice 53 = .ok (.invokevirtual 52, 3) := by decide +kernel
theorem dX4_inspectTwice_56 : decode cX4_inspectTwice 56 = .ok (.aload_n 0, 1) := by decide +kernel
theorem dX4_inspectTwice_57 : decode cX4_inspectTwice 57 = .ok (.iload_n 3, 1) := by decide +kernel
theorem dX4_inspectTwice_58 : decode cX4_inspectTwice 58 = .ok (.ifCond .ne 11, 3) := by decide +kernel
theorem dX4_inspectTwice_61 : decode cX4_inspectTwice 61 = .ok (.aload_n 0, 1) := by decide +kernel
theorem dX4_inspectTwice_62 : decode cX4_inspectTwice 62 = .ok (.getfield 56, 3) := by decide +kernel
theorem dX4_inspectTwice_65 : decode cX4_inspectTwice 65 = .ok (.iload_n 2, 1) := by decide +kernel
theorem dX4_inspectTwice_66 : decode cX4_inspectTwice 66 = .ok (.if_icmp .gt 7, 3) := by decide +kernel
theorem dX4_inspectTwice_69 : decode cX4_inspectTwice 69 = .ok (.iconst 1, 1) := by decide +kernel
theorem dX4_inspectTwice_70 : decode cX4_inspectTwice 70 = .ok (.goto 4, 3) := by decide +kernel
theorem dX4_inspectTwice_73 : decode cX4_inspectTwice 73 = .ok (.iconst 0, 1) := by decide +kernel
theorem dX4_inspectTwice_74 : decode cX4_inspectTwice 74 = .ok (.invokevirtual 59, 3) := by decide +kernel
theorem dX4_inspectTwice_77 : decode cX4_inspectTwice 77 = .ok (.return_, 1) := by decide +kernel
theorem dX5_init_0 : decode cX5_init 0 = .ok (.aload_n 0, 1) := by decide +kernel
theorem dX5_init_1 : decode cX5_init 1 = .ok (.invokespecial 3, 3) := by decide +kernel
theorem dX5_init_4 : decode cX5_init 4 = .ok (.aload_n 0, 1) := by decide +kernel
theorem dX5_init_5 : decode cX5_init 5 = .ok (.sipush 200, 3) := by decide +kernel
theorem dX5_init_8 : decode cX5_init 8 = .ok (.anewarray 9, 3) := by decide +kernel
theorem dX5_init_11 : decode cX5_init 11 = .ok (.putfield 11, 3) := by decide +kernel
theorem dX5_init_14 : decode cX5_init 14 = .ok (.aload_n 0, 1) := by decide +kernel
theorem dX5_init_15 : decode cX5_init 15 = .ok (.sipush 200, 3) := by decide +kernel
theorem dX5_init_18 : decode cX5_init 18 = .ok (.newarray .boolean, 2) := by decide +kernel
theorem dX5_init_20 : decode cX5_init 20 = .ok (.putfield 15, 3) := by decide +kernel
theorem dX5_init_23 : decode cX5_init 23 = .ok (.aload_n 0, 1) := by decide +kernel
theorem dX5_init_24 : decode cX5_init 24 = .ok (.new 19, 3) := by decide +kernel
theorem dX5_init_27 : decode cX5_init 27 = .ok (.dup, 1) := by decide +kernel
theorem dX5_init_28 : decode cX5_init 28 = .ok (.invokespecial 21, 3) := by decide +kernel
theorem dX5_init_31 : decode cX5_init 31 = .ok (.putfield 22, 3) := by decide +kernel
theorem dX5_init_34 : decode cX5_init 34 = .ok (.aload_n 0, 1) := by decide +kernel
theorem dX5_init_35 : decode cX5_init 35 = .ok (.new 26, 3) := by decide +kernel
theorem dX5_init_38 : decode cX5_init 38 = .ok (.dup, 1) := by decide +kernel
theorem dX5_init_39 : decode cX5_init 39 = .ok (.invokespecial 28, 3) := by decide +kernel
theorem dX5_init_42 : decode cX5_init 42 = .ok (.putfield 29, 3) := by decide +kernel
theorem dX5_init_45 : decode cX5_init 45 = .ok (.return_, 1) := by decide +kernel
theorem dX5_setPlan_0 : decode cX5_setPlan 0 = .ok (.iload_n 1, 1) := by decide +kernel
theorem dX5_setPlan_1 : decode cX5_setPlan 1 = .ok (.iconst 0, 1) := by decide +kernel
theorem dX5_setPlan_2 : decode cX5_setPlan 2 = .ok (.iconst 2, 1) := by decide +kernel
theorem dX5_setPlan_3 : decode cX5_setPlan 3 = .ok (.invokestatic 33, 3) := by decide +kernel
theorem dX5_setPlan_6 : decode cX5_setPlan 6 = .ok (.ifCond .eq 12, 3) := by decide +kernel
theorem dX5_setPlan_9 : decode cX5_setPlan 9 = .ok (.iload_n 2, 1) := by decide +kernel
theorem dX5_setPlan_10 : decode cX5_setPlan 10 = .ok (.iconst 0, 1) := by decide +kernel
theorem dX5_setPlan_11 : decode cX5_setPlan 11 = .ok (.iconst 3, 1) := by decide +kernel
theorem dX5_setPlan_12 : decode cX5_setPlan 12 = .ok (.invokestatic 33, 3) := by decide +kernel
theorem dX5_setPlan_15 : decode cX5_setPlan 15 = .ok (.ifCond .ne 13, 3) := by decide +kernel
theorem dX5_setPlan_18 : decode cX5_setPlan 18 = .ok (.new 37, 3) := by decide +kernel
theorem dX5_setPlan_21 : decode cX5_setPlan 21 = .ok (.dup, 1) := by decide +kernel
theorem dX5_setPlan_22 : decode cX5_setPlan 22 = .ok (.ldc 39, 2) := by decide +kernel
theorem dX5_setPlan_24 : decode cX5_setPlan 24 = .ok (.invokespecial 41, 3) := by decide +kernel
theorem dX5_setPlan_27 : decode cX5_setPlan 27 = .ok (.athrow, 1) := by decide +kernel
theorem dX5_setPlan_28 : decode cX5_setPlan 28 = .ok (.aload_n 0, 1) := by decide +kernel
theorem dX5_setPlan_29 : decode cX5_setPlan 29 = .ok (.getfield 22, 3) := by decide +kernel
theorem dX5_setPlan_32 : decode cX5_setPlan 32 = .ok (.iload_n 1, 1) := by decide +kernel
theorem dX5_setPlan_33 : decode cX5_setPlan 33 = .ok (.putfield 44, 3) := by decide +kernel
theorem dX5_setPlan_36 : decode cX5_setPlan 36 = .ok (.aload_n 0, 1) := by decide +kernel
theorem dX5_setPlan_37 : decode cX5_setPlan 37 = .ok (.getfield 22, 3) := by decide +kernel
theorem dX5_setPlan_40 : decode cX5_setPlan 40 = .ok (.iload_n 2, 1) := by decide +kernel
theorem dX5_setPlan_41 : decode cX5_setPlan 41 = .ok (.putfield 48, 3) := by decide +kernel
theorem dX5_setPlan_44 : decode cX5_setPlan 44 = .ok (.aload_n 0, 1) := by decide +kernel
theorem dX5_setPlan_45 : decode cX5_setPlan 45 = .ok (.invokevirtual 51, 3) := by decide +kernel
theorem dX5_setPlan_48 : decode cX5_setPlan 48 = .ok (.return_, 1) := by decide +kernel
theorem dX5_setWays_0 : decode cX5_setWays 0 = .ok (.iload_n 3, 1) := by decide +kernel
theorem dX5_setWays_1 : decode cX5_setWays 1 = .ok (.ifCond .eq 22, 3) := by decide +kernel
theorem dX5_setWays_4 : decode cX5_setWays 4 = .ok (.iload_n 3, 1) := by decide +kernel
theorem dX5_setWays_5 : decode cX5_setWays 5 = .ok (.iconst 2, 1) := by decide +kernel
theorem dX5_setWays_6 : decode cX5_setWays 6 = .ok (.iconst 5, 1) := by decide +kernel
theorem dX5_setWays_7 : decode cX5_setWays 7 = .ok (.invokestatic 33, 3) := by decide +kernel
theorem dX5_setWays_10 : decode cX5_setWays 10 = .ok (.ifCond .ne 13, 3) := by decide +kernel
theorem dX5_setWays_13 : decode cX5_setWays 13 = .ok (.new 37, 3) := by decide +kernel
theorem dX5_setWays_16 : decode cX5_setWays 16 = .ok (.dup, 1) := by decide +kernel
theorem dX5_setWays_17 : decode cX5_setWays 17 = .ok (.ldc 54, 2) := by decide +kernel
theorem dX5_setWays_19 : decode cX5_setWays 19 = .ok (.invokespecial 41, 3) := by decide +kernel
theorem dX5_setWays_22 : decode cX5_setWays 22 = .ok (.athrow, 1) := by decide +kernel
theorem dX5_setWays_23 : decode cX5_setWays 23 = .ok (.aload_n 0, 1) := by decide +kernel
theorem dX5_setWays_24 : decode cX5_setWays 24 = .ok (.getfield 22, 3) := by decide +kernel
theorem dX5_setWays_27 : decode cX5_setWays 27 = .ok (.iload_n 1, 1) := by decide +kernel
theorem dX5_setWays_28 : decode cX5_setWays 28 = .ok (.putfield 56, 3) := by decide +kernel
theorem dX5_setWays_31 : decode cX5_setWays 31 = .ok (.aload_n 0, 1) := by decide +kernel
theorem dX5_setWays_32 : decode cX5_setWays 32 = .ok (.getfield 29, 3) := by decide +kernel
theorem dX5_setWays_35 : decode cX5_setWays 35 = .ok (.iload_n 2, 1) := by decide +kernel
theorem dX5_setWays_36 : decode cX5_setWays 36 = .ok (.putfield 60, 3) := by decide +kernel
theorem dX5_setWays_39 : decode cX5_setWays 39 = .ok (.aload_n 0, 1) := by decide +kernel
theorem dX5_setWays_40 : decode cX5_setWays 40 = .ok (.getfield 29, 3) := by decide +kernel
theorem dX5_setWays_43 : decode cX5_setWays 43 = .ok (.iload_n 3, 1) := by decide +kernel
theorem dX5_setWays_44 : decode cX5_setWays 44 = .ok (.putfield 63, 3) := by decide +kernel
theorem dX5_setWays_47 : decode cX5_setWays 47 = .ok (.aload_n 0, 1) := by decide +kernel
theorem dX5_setWays_48 : decode cX5_setWays 48 = .ok (.invokevirtual 51, 3) := by decide +kernel
theorem dX5_setWays_51 : decode cX5_setWays 51 = .ok (.return_, 1) := by decide +kernel
theorem dX5_toggleMark_0 : decode cX5_toggleMark 0 = .ok (.iload_n 1, 1) := by decide +kernel
theorem dX5_toggleMark_1 : decode cX5_toggleMark 1 = .ok (.invokestatic 66, 3) := by decide +kernel
theorem dX5_toggleMark_4 : decode cX5_toggleMark 4 = .ok (.ifCond .ne 13, 3) := by decide +kernel
theorem dX5_toggleMark_7 : decode cX5_toggleMark 7 = .ok (.new 37, 3) := by decide +kernel
theorem dX5_toggleMark_10 : decode cX5_toggleMark 10 = .ok (.dup, 1) := by decide +kernel
theorem dX5_toggleMark_11 : decode cX5_toggleMark 11 = .ok (.ldc 70, 2) := by decide +kernel
theorem dX5_toggleMark_13 : decode cX5_toggleMark 13 = .ok (.invokespecial 41, 3) := by decide +kernel
theorem dX5_toggleMark_16 : decode cX5_toggleMark 16 = .ok (.athrow, 1) := by decide +kernel
theorem dX5_toggleMark_17 : decode cX5_toggleMark 17 = .ok (.aload_n 0, 1) := by decide +kernel
theorem dX5_toggleMark_18 : decode cX5_toggleMark 18 = .ok (.getfield 15, 3) := by decide +kernel
theorem dX5_toggleMark_21 : decode cX5_toggleMark 21 = .ok (.iload_n 1, 1) := by decide +kernel
theorem dX5_toggleMark_22 : decode cX5_toggleMark 22 = .ok (.aload_n 0, 1) := by decide +kernel
theorem dX5_toggleMark_23 : decode cX5_toggleMark 23 = .ok (.getfield 15, 3) := by decide +kernel
theorem dX5_toggleMark_26 : decode cX5_toggleMark 26 = .ok (.iload_n 1, 1) := by decide +kernel
theorem dX5_toggleMark_27 : decode cX5_toggleMark 27 = .ok (.baload, 1) := by decide +kernel
theorem dX5_toggleMark_28 : decode cX5_toggleMark 28 = .ok (.ifCond .ne 7, 3) := by decide +kernel
theorem dX5_toggleMark_31 : decode cX5_toggleMark 31 = .ok (.iconst 1, 1) := by decide +kernel
theorem dX5_toggleMark_32 : decode cX5_toggleMark 32 = .ok (.goto 4, 3) := by decide +kernel
theorem dX5_toggleMark_35 : decode cX5_toggleMark 35 = .ok (.iconst 0, 1) := by decide +kernel
theorem dX5_toggleMark_36 : decode cX5_toggleMark 36 = .ok (.bastore, 1) := by decide +kernel
theorem dX5_toggleMark_37 : decode cX5_toggleMark 37 = .ok (.aload_n 0, 1) := by decide +kernel
theorem dX5_toggleMark_38 : decode cX5_toggleMark 38 = .ok (.invokevirtual 51, 3) := by decide +kernel
theorem dX5_toggleMark_41 : decode cX5_toggleMark 41 = .ok (.aload_n 0, 1) := by decide +kernel
theorem dX5_toggleMark_42 : decode cX5_toggleMark 42 = .ok (.getfield 15, 3) := by decide +kernel
theorem dX5_toggleMark_45 : decode cX5_toggleMark 45 = .ok (.iload_n 1, 1) := by decide +kernel
theorem dX5_toggleMark_46 : decode cX5_toggleMark 46 = .ok (.baload, 1) := by decide +kernel
theorem dX5_toggleMark_47 : decode cX5_toggleMark 47 = .ok (.ireturn, 1) := by decide +kernel
theorem dX5_record_0 : decode cX5_record 0 = .ok (.iload_n 1, 1) := by decide +kernel
theorem dX5_record_1 : decode cX5_record 1 = .ok (.invokestatic 66, 3) := by decide +kernel
theorem dX5_record_4 : decode cX5_record 4 = .ok (.ifCond .eq 17, 3) := by decide +kernel
theorem dX5_record_7 : decode cX5_record 7 = .ok (.iload_n 2, 1) := by decide +kernel
theorem dX5_record_8 : decode cX5_record 8 = .ok (.invokestatic 72, 3) := by decide +kernel
theorem dX5_record_11 : decode cX5_record 11 = .ok (.ifCond .eq 10, 3) := by decide +kernel
theorem dX5_record_14 : decode cX5_record 14 = .ok (.lload_n 3, 1) := by decide +kernel
theorem dX5_record_15 : decode cX5_record 15 = .ok (.invokestatic 75, 3) := by decide +kernel
theorem dX5_record_18 : decode cX5_record 18 = .ok (.ifCond .ne 13, 3) := by decide +kernel
theorem dX5_record_21 : decode cX5_record 21 = .ok (.new 37, 3) := by decide +kernel
theorem dX5_record_24 : decode cX5_record 24 = .ok (.dup, 1) := by decide +kernel
theorem dX5_record_25 : decode cX5_record 25 = .ok (.ldc 79, 2) := by decide +kernel
theorem dX5_record_27 : decode cX5_record 27 = .ok (.invokespecial 41, 3) := by decide +kernel
theorem dX5_record_30 : decode cX5_record 30 = .ok (.athrow, 1) := by decide +kernel
theorem dX5_record_31 : decode cX5_record 31 = .ok (.aload_n 0, 1) := by decide +kernel
theorem dX5_record_32 : decode cX5_record 32 = .ok (.getfield 11, 3) := by decide +kernel
theorem dX5_record_35 : decode cX5_record 35 = .ok (.iload_n 1, 1) := by decide +kernel
theorem dX5_record_36 : decode cX5_record 36 = .ok (.aaload, 1) := by decide +kernel
theorem dX5_record_37 : decode cX5_record 37 = .ok (.ifnonnull 12, 3) := by decide +kernel
theorem dX5_record_40 : decode cX5_record 40 = .ok (.aload_n 0, 1) := by decide +kernel
theorem dX5_record_41 : decode cX5_record 41 = .ok (.getfield 81, 3) := by decide +kernel
theorem dX5_record_44 : decode cX5_record 44 = .ok (.bipush 60, 2) := by decide +kernel
theorem dX5_record_46 : decode cX5_record 46 = .ok (.if_icmp .lt 13, 3) := by decide +kernel
theorem dX5_record_49 : decode cX5_record 49 = .ok (.new 84, 3) := by decide +kernel
theorem dX5_record_52 : decode cX5_record 52 = .ok (.dup, 1) := by decide +kernel
theorem dX5_record_53 : decode cX5_record 53 = .ok (.ldc 86, 2) := by decide +kernel
theorem dX5_record_55 : decode cX5_record 55 = .ok (.invokespecial 88, 3) := by decide +kernel
theorem dX5_record_58 : decode cX5_record 58 = .ok (.athrow, 1) := by decide +kernel
theorem dX5_record_59 : decode cX5_record 59 = .ok (.aload_n 0, 1) := by decide +kernel
theorem dX5_record_60 : decode cX5_record 60 = .ok (.getfield 11, 3) := by decide +kernel
theorem dX5_record_63 : decode cX5_record 63 = .ok (.iload_n 1, 1) := by decide +kernel
theorem dX5_record_64 : decode cX5_record 64 = .ok (.new 9, 3) := by decide +kernel
theorem dX5_record_67 : decode cX5_record 67 = .ok (.dup, 1) := by decide +kernel
theorem dX5_record_68 : decode cX5_record 68 = .ok (.iload_n 1, 1) := by decide +kernel
theorem dX5_record_69 : decode cX5_record 69 = .ok (.iload_n 2, 1) := by decide +kernel
theorem dX5_record_70 : decode cX5_record 70 = .ok (.lload_n 3, 1) := by decide +kernel
theorem dX5_record_71 : decode cX5_record 71 = .ok (.invokespecial 89, 3) := by decide +kernel
theorem dX5_record_74 : decode cX5_record 74 = .ok (.aastore, 1) := by decide +kernel
theorem dX5_record_75 : decode cX5_record 75 = .ok (.aload_n 0, 1) := by decide +kernel
theorem dX5_record_76 : decode cX5_record 76 = .ok (.dup, 1) := by decide +kernel
theorem dX5_record_77 : decode cX5_record 77 = .ok (.getfield 81, 3) := by decide +kernel
theorem dX5_record_80 : decode cX5_record 80 = .ok (.iconst 1, 1) := by decide +kernel
theorem dX5_record_81 : decode cX5_record 81 = .ok (.iadd, 1) := by decide +kernel
theorem dX5_record_82 : decode cX5_record 82 = .ok (.putfield 81, 3) := by decide +kernel
theorem dX5_record_85 : decode cX5_record 85 = .ok (.aload_n 0, 1) := by decide +kernel
theorem dX5_record_86 : decode cX5_record 86 = .ok (.invokevirtual 51, 3) := by decide +kernel
theorem dX5_record_89 : decode cX5_record 89 = .ok (.aload_n 0, 1) := by decide +kernel
theorem dX5_record_90 : decode cX5_record 90 = .ok (.getfield 81, 3) := by decide +kernel
theorem dX5_record_93 : decode cX5_record 93 = .ok (.ireturn, 1) := by decide +kernel
theorem dX5_correct_0 : decode cX5_correct 0 = .ok (.lload_n 2, 1) := by decide +kernel
theorem dX5_correct_1 : decode cX5_correct 1 = .ok (.invokestatic 75, 3) := by decide +kernel
theorem dX5_correct_4 : decode cX5_correct 4 = .ok (.ifCond .ne 13, 3) := by decide +kernel
theorem dX5_correct_7 : decode cX5_correct 7 = .ok (.new 37, 3) := by decide +kernel
theorem dX5_correct_10 : decode cX5_correct 10 = .ok (.dup, 1) := by decide +kernel
theorem dX5_correct_11 : decode cX5_correct 11 = .ok (.ldc 92, 2) := by decide +kernel
theorem dX5_correct_13 : decode cX5_correct 13 = .ok (.invokespecial 41, 3) := by decide +kernel
theorem dX5_correct_16 : decode cX5_correct 16 = .ok (.athrow, 1) := by decide +kernel
theorem dX5_correct_17 : decode cX5_correct 17 = .ok (.aload_n 0, 1) := by decide +kernel
theorem dX5_correct_18 : decode cX5_correct 18 = .ok (.iload_n 1, 1) := by decide +kernel
theorem dX5_correct_19 : decode cX5_correct 19 = .ok (.invokevirtual 94, 3) := by decide +kernel
theorem dX5_correct_22 : decode cX5_correct 22 = .ok (.astore 4, 2) := by decide +kernel
theorem dX5_correct_24 : decode cX5_correct 24 = .ok (.aload 4, 2) := by decide +kernel
theorem dX5_correct_26 : decode cX5_correct 26 = .ok (.ifnonnull 13, 3) := by decide +kernel
theorem dX5_correct_29 : decode cX5_correct 29 = .ok (.new 84, 3) := by decide +kernel
theorem dX5_correct_32 : decode cX5_correct 32 = .ok (.dup, 1) := by decide +kernel
theorem dX5_correct_33 : decode cX5_correct 33 = .ok (.ldc 98, 2) := by decide +kernel
theorem dX5_correct_35 : decode cX5_correct 35 = .ok (.invokespecial 88, 3) := by decide +kernel
theorem dX5_correct_38 : decode cX5_correct 38 = .ok (.athrow, 1) := by decide +kernel
theorem dX5_correct_39 : decode cX5_correct 39 = .ok (.aload 4, 2) := by decide +kernel
theorem dX5_correct_41 : decode cX5_correct 41 = .ok (.getfield 100, 3) := by decide +kernel
theorem dX5_correct_44 : decode cX5_correct 44 = .ok (.lstore 5, 2) := by decide +kernel
theorem dX5_correct_46 : decode cX5_correct 46 = .ok (.aload 4, 2) := by decide +kernel
theorem dX5_correct_48 : decode cX5_correct 48 = .ok (.lload_n 2, 1) := by decide +kernel
theorem dX5_correct_49 : decode cX5_correct 49 = .ok (.putfield 100, 3) := by decide +kernel
theorem dX5_correct_52 : decode cX5_correct 52 = .ok (.aload_n 0, 1) := by decide +kernel
theorem dX5_correct_53 : decode cX5_correct 53 = .ok (.invokevirtual 51, 3) := by decide +kernel
theorem dX5_correct_56 : decode cX5_correct 56 = .ok (.lload 5, 2) := by decide +kernel
theorem dX5_correct_58 : decode cX5_correct 58 = .ok (.lreturn, 1) := by decide +kernel
theorem dX5_strike_0 : decode cX5_strike 0 = .ok (.iload_n 1, 1) := by decide +kernel
theorem dX5_strike_1 : decode cX5_strike 1 = .ok (.invokestatic 66, 3) := by decide +kernel
theorem dX5_strike_4 : decode cX5_strike 4 = .ok (.ifCond .eq 12, 3) := by decide +kernel
theorem dX5_strike_7 : decode cX5_strike 7 = .ok (.aload_n 0, 1) := by decide +kernel
theorem dX5_strike_8 : decode cX5_strike 8 = .ok (.getfield 11, 3) := by decide +kernel
theorem dX5_strike_11 : decode cX5_strike 11 = .ok (.iload_n 1, 1) := by decide +kernel
theorem dX5_strike_12 : decode cX5_strike 12 = .ok (.aaload, 1) := by decide +kernel
theorem dX5_strike_13 : decode cX5_strike 13 = .ok (.ifnonnull 13, 3) := by decide +kernel
theorem dX5_strike_16 : decode cX5_strike 16 = .ok (.new 84, 3) := by decide +kernel
theorem dX5_strike_19 : decode cX5_strike 19 = .ok (.dup, 1) := by decide +kernel
theorem dX5_strike_20 : decode cX5_strike 20 = .ok (.ldc 98, 2) := by decide +kernel
theorem dX5_strike_22 : decode cX5_strike 22 = .ok (.invokespecial 88, 3) := by decide +kernel
theorem dX5_strike_25 : decode cX5_strike 25 = .ok (.athrow, 1) := by decide +kernel
theorem dX5_strike_26 : decode cX5_strike 26 = .ok (.aload_n 0, 1) := by decide +kernel
theorem dX5_strike_27 : decode cX5_strike 27 = .ok (.getfield 11, 3) := by decide +kernel
theorem dX5_strike_30 : decode cX5_strike 30 = .ok (.iload_n 1, 1) := by decide +kernel
theorem dX5_strike_31 : decode cX5_strike 31 = .ok (.aconst_null, 1) := by decide +kernel
theorem dX5_strike_32 : decode cX5_strike 32 = .ok (.aastore, 1) := by decide +kernel
theorem dX5_strike_33 : decode cX5_strike 33 = .ok (.aload_n 0, 1) := by decide +kernel
theorem dX5_strike_34 : decode cX5_strike 34 = .ok (.dup, 1) := by decide +kernel
theorem dX5_strike_35 : decode cX5_strike 35 = .ok (.getfield 81, 3) := by decide +kernel
theorem dX5_strike_38 : decode cX5_strike 38 = .ok (.iconst 1, 1) := by decide +kernel
theorem dX5_strike_39 : decode cX5_strike 39 = .ok (.isub, 1) := by decide +kernel
theorem dX5_strike_40 : decode cX5_strike 40 = .ok (.putfield 81, 3) := by decide +kernel
theorem dX5_strike_43 : decode cX5_strike 43 = .ok (.aload_n 0, 1) := by decide +kernel
theorem dX5_strike_44 : decode cX5_strike 44 = .ok (.invokevirtual 51, 3) := by decide +kernel
theorem dX5_strike_47 : decode cX5_strike 47 = .ok (.aload_n 0, 1) := by decide +kernel
theorem dX5_strike_48 : decode cX5_strike 48 = .ok (.getfield 81, 3) := by decide +kernel
theorem dX5_strike_51 : decode cX5_strike 51 = .ok (.ireturn, 1) := by decide +kernel
theorem dX5_lots_0 : decode cX5_lots 0 = .ok (.aload_n 0, 1) := by decide +kernel
theorem dX5_lots_1 : decode cX5_lots 1 = .ok (.getfield 81, 3) := by decide +kernel
theorem dX5_lots_4 : decode cX5_lots 4 = .ok (.ireturn, 1) := by decide +kernel
theorem dX5_orderAt_0 : decode cX5_orderAt 0 = .ok (.iconst 0, 1) := by decide +kernel
theorem dX5_orderAt_1 : decode cX5_orderAt 1 = .ok (.istore_n 2, 1) := by decide +kernel
theorem dX5_orderAt_2 : decode cX5_orderAt 2 = .ok (.iconst 0, 1) := by decide +kernel
theorem dX5_orderAt_3 : decode cX5_orderAt 3 = .ok (.istore_n 3, 1) := by decide +kernel
theorem dX5_orderAt_4 : decode cX5_orderAt 4 = .ok (.iload_n 3, 1) := by decide +kernel
theorem dX5_orderAt_5 : decode cX5_orderAt 5 = .ok (.sipush 200, 3) := by decide +kernel
theorem dX5_orderAt_8 : decode cX5_orderAt 8 = .ok (.if_icmp .ge 28, 3) := by decide +kernel
theorem dX5_orderAt_11 : decode cX5_orderAt 11 = .ok (.aload_n 0, 1) := by decide +kernel
theorem dX5_orderAt_12 : decode cX5_orderAt 12 = .ok (.getfield 11, 3) := by decide +kernel
theorem dX5_orderAt_15 : decode cX5_orderAt 15 = .ok (.iload_n 3, 1) := by decide +kernel
theorem dX5_orderAt_16 : decode cX5_orderAt 16 = .ok (.aaload, 1) := by decide +kernel
theorem dX5_orderAt_17 : decode cX5_orderAt 17 = .ok (.ifnull 13, 3) := by decide +kernel
theorem dX5_orderAt_20 : decode cX5_orderAt 20 = .ok (.iload_n 2, 1) := by decide +kernel
theorem dX5_orderAt_21 : decode cX5_orderAt 21 = .ok (.iload_n 1, 1) := by decide +kernel
theorem dX5_orderAt_22 : decode cX5_orderAt 22 = .ok (.if_icmp .ne 5, 3) := by decide +kernel
theorem dX5_orderAt_25 : decode cX5_orderAt 25 = .ok (.iload_n 3, 1) := by decide +kernel
theorem dX5_orderAt_26 : decode cX5_orderAt 26 = .ok (.ireturn, 1) := by decide +kernel
theorem dX5_orderAt_27 : decode cX5_orderAt 27 = .ok (.iinc 2 1, 3) := by decide +kernel
theorem dX5_orderAt_30 : decode cX5_orderAt 30 = .ok (.iinc 3 1, 3) := by decide +kernel
theorem dX5_orderAt_33 : decode cX5_orderAt 33 = .ok (.goto (-29), 3) := by decide +kernel
theorem dX5_orderAt_36 : decode cX5_orderAt 36 = .ok (.new 104, 3) := by decide +kernel
theorem dX5_orderAt_39 : decode cX5_orderAt 39 = .ok (.dup, 1) := by decide +kernel
theorem dX5_orderAt_40 : decode cX5_orderAt 40 = .ok (.ldc 106, 2) := by decide +kernel
theorem dX5_orderAt_42 : decode cX5_orderAt 42 = .ok (.invokespecial 108, 3) := by decide +kernel
theorem dX5_orderAt_45 : decode cX5_orderAt 45 = .ok (.athrow, 1) := by decide +kernel
theorem dX5_verdict_0 : decode cX5_verdict 0 = .ok (.aload_n 0, 1) := by decide +kernel
theorem dX5_verdict_1 : decode cX5_verdict 1 = .ok (.iload_n 1, 1) := by decide +kernel
theorem dX5_verdict_2 : decode cX5_verdict 2 = .ok (.invokevirtual 94, 3) := by decide +kernel
theorem dX5_verdict_5 : decode cX5_verdict 5 = .ok (.astore_n 2, 1) := by decide +kernel
theorem dX5_verdict_6 : decode cX5_verdict 6 = .ok (.aload_n 2, 1) := by decide +kernel
theorem dX5_verdict_7 : decode cX5_verdict 7 = .ok (.ifnonnull 13, 3) := by decide +kernel
theorem dX5_verdict_10 : decode cX5_verdict 10 = .ok (.new 84, 3) := by decide +kernel
theorem dX5_verdict_13 : decode cX5_verdict 13 = .ok (.dup, 1) := by decide +kernel
theorem dX5_verdict_14 : decode cX5_verdict 14 = .ok (.ldc 98, 2) := by decide +kernel
theorem dX5_verdict_16 : decode cX5_verdict 16 = .ok (.invokespecial 88, 3) := by decide +kernel
theorem dX5_verdict_19 : decode cX5_verdict 19 = .ok (.athrow, 1) := by decide +kernel
theorem dX5_verdict_20 : decode cX5_verdict 20 = .ok (.aload_n 2, 1) := by decide +kernel
theorem dX5_verdict_21 : decode cX5_verdict 21 = .ok (.getfield 109, 3) := by decide +kernel
theorem dX5_verdict_24 : decode cX5_verdict 24 = .ok (.ireturn, 1) := by decide +kernel
theorem dX5_stateAt_0 : decode cX5_stateAt 0 = .ok (.aload_n 0, 1) := by decide +kernel
theorem dX5_stateAt_1 : decode cX5_stateAt 1 = .ok (.iload_n 1, 1) := by decide +kernel
theorem dX5_stateAt_2 : decode cX5_stateAt 2 = .ok (.invokevirtual 94, 3) := by decide +kernel
theorem dX5_stateAt_5 : decode cX5_stateAt 5 = .ok (.astore_n 2, 1) := by decide +kernel
theorem dX5_stateAt_6 : decode cX5_stateAt 6 = .ok (.aload_n 2, 1) := by decide +kernel
theorem dX5_stateAt_7 : decode cX5_stateAt 7 = .ok (.ifnonnull 13, 3) := by decide +kernel
theorem dX5_stateAt_10 : decode cX5_stateAt 10 = .ok (.new 84, 3) := by decide +kernel
theorem dX5_stateAt_13 : decode cX5_stateAt 13 = .ok (.dup, 1) := by decide +kernel
theorem dX5_stateAt_14 : decode cX5_stateAt 14 = .ok (.ldc 98, 2) := by decide +kernel
theorem dX5_stateAt_16 : decode cX5_stateAt 16 = .ok (.invokespecial 88, 3) := by decide +kernel
theorem dX5_stateAt_19 : decode cX5_stateAt 19 = .ok (.athrow, 1) := by decide +kernel
theorem dX5_stateAt_20 : decode cX5_stateAt 20 = .ok (.aload_n 2, 1) := by decide +kernel
theorem dX5_stateAt_21 : decode cX5_stateAt 21 = .ok (.getfield 112, 3) := by decide +kernel
theorem dX5_stateAt_24 : decode cX5_stateAt 24 = .ok (.ireturn, 1) := by decide +kernel
theorem dX5_state_0 : decode cX5_state 0 = .ok (.aload_n 0, 1) := by decide +kernel
theorem dX5_state_1 : decode cX5_state 1 = .ok (.getfield 29, 3) := by decide +kernel
theorem dX5_state_4 : decode cX5_state 4 = .ok (.getfield 115, 3) := by decide +kernel
theorem dX5_state_7 : decode cX5_state 7 = .ok (.ireturn, 1) := by decide +kernel
theorem dX5_isSkipping_0 : decode cX5_isSkipping 0 = .ok (.aload_n 0, 1) := by decide +kernel
theorem dX5_isSkipping_1 : decode cX5_isSkipping 1 = .ok (.getfield 29, 3) := by decide +kernel
theorem dX5_isSkipping_4 : decode cX5_isSkipping 4 = .ok (.getfield 116, 3) := by decide +kernel
theorem dX5_isSkipping_7 : decode cX5_isSkipping 7 = .ok (.ireturn, 1) := by decide +kernel
theorem dX5_inspected_0 : decode cX5_inspected 0 = .ok (.aload_n 0, 1) := by decide +kernel
theorem dX5_inspected_1 : decode cX5_inspected 1 = .ok (.iload_n 1, 1) := by decide +kernel
theorem dX5_inspected_2 : decode cX5_inspected 2 = .ok (.invokevirtual 94, 3) := by decide +kernel
theorem dX5_inspected_5 : decode cX5_inspected 5 = .ok (.astore_n 2, 1) := by decide +kernel
theorem dX5_inspected_6 : decode cX5_inspected 6 = .ok (.aload_n 2, 1) := by decide +kernel
theorem dX5_inspected_7 : decode cX5_inspected 7 = .ok (.ifnonnull 13, 3) := by decide +kernel
theorem dX5_inspected_10 : decode cX5_inspected 10 = .ok (.new 84, 3) := by decide +kernel
theorem dX5_inspected_13 : decode cX5_inspected 13 = .ok (.dup, 1) := by decide +kernel
theorem dX5_inspected_14 : decode cX5_inspected 14 = .ok (.ldc 98, 2) := by decide +kernel
theorem dX5_inspected_16 : decode cX5_inspected 16 = .ok (.invokespecial 88, 3) := by decide +kernel
theorem dX5_inspected_19 : decode cX5_inspected 19 = .ok (.athrow, 1) := by decide +kernel
theorem dX5_inspected_20 : decode cX5_inspected 20 = .ok (.aload_n 2, 1) := by decide +kernel
theorem dX5_inspected_21 : decode cX5_inspected 21 = .ok (.getfield 119, 3) := by decide +kernel
theorem dX5_inspected_24 : decode cX5_inspected 24 = .ok (.ireturn, 1) := by decide +kernel
theorem dX5_badIn_0 : decode cX5_badIn 0 = .ok (.aload_n 0, 1) := by decide +kernel
theorem dX5_badIn_1 : decode cX5_badIn 1 = .ok (.iload_n 1, 1) := by decide +kernel
theorem dX5_badIn_2 : decode cX5_badIn 2 = .ok (.invokevirtual 94, 3) := by decide +kernel
theorem dX5_badIn_5 : decode cX5_badIn 5 = .ok (.astore_n 2, 1) := by decide +kernel
theorem dX5_badIn_6 : decode cX5_badIn 6 = .ok (.aload_n 2, 1) := by decide +kernel
theorem dX5_badIn_7 : decode cX5_badIn 7 = .ok (.ifnonnull 13, 3) := by decide +kernel
theorem dX5_badIn_10 : decode cX5_badIn 10 = .ok (.new 84, 3) := by decide +kernel
theorem dX5_badIn_13 : decode cX5_badIn 13 = .ok (.dup, 1) := by decide +kernel
theorem dX5_badIn_14 : decode cX5_badIn 14 = .ok (.ldc 98, 2) := by decide +kernel
theorem dX5_badIn_16 : decode cX5_badIn 16 = .ok (.invokespecial 88, 3) := by decide +kernel
theorem dX5_badIn_19 : decode cX5_badIn 19 = .ok (.athrow, 1) := by decide +kernel
theorem dX5_badIn_20 : decode cX5_badIn 20 = .ok (.aload_n 2, 1) := by decide +kernel
theorem dX5_badIn_21 : decode cX5_badIn 21 = .ok (.getfield 122, 3) := by decide +kernel
theorem dX5_badIn_24 : decode cX5_badIn 24 = .ok (.ireturn, 1) := by decide +kernel
theorem dX5_count_0 : decode cX5_count 0 = .ok (.iload_n 1, 1) := by decide +kernel
theorem dX5_count_1 : decode cX5_count 1 = .ok (.iconst 0, 1) := by decide +kernel
theorem dX5_count_2 : decode cX5_count 2 = .ok (.iconst 3, 1) := by decide +kernel
theorem dX5_count_3 : decode cX5_count 3 = .ok (.invokestatic 33, 3) := by decide +kernel
theorem dX5_count_6 : decode cX5_count 6 = .ok (.ifCond .ne 13, 3) := by decide +kernel
theorem dX5_count_9 : decode cX5_count 9 = .ok (.new 37, 3) := by decide +kernel
theorem dX5_count_12 : decode cX5_count 12 = .ok (.dup, 1) := by decide +kernel
theorem dX5_count_13 : decode cX5_count 13 = .ok (.ldc 125, 2) := by decide +kernel
theorem dX5_count_15 : decode cX5_count 15 = .ok (.invokespecial 41, 3) := by decide +kernel
theorem dX5_count_18 : decode cX5_count 18 = .ok (.athrow, 1) := by decide +kernel
theorem dX5_count_19 : decode cX5_count 19 = .ok (.iconst 0, 1) := by decide +kernel
theorem dX5_count_20 : decode cX5_count 20 = .ok (.istore_n 2, 1) := by decide +kernel
theorem dX5_count_21 : decode cX5_count 21 = .ok (.aload_n 0, 1) := by decide +kernel
theorem dX5_count_22 : decode cX5_count 22 = .ok (.getfield 11, 3) := by decide +kernel
theorem dX5_count_25 : decode cX5_count 25 = .ok (.astore_n 3, 1) := by decide +kernel
theorem dX5_count_26 : decode cX5_count 26 = .ok (.aload_n 3, 1) := by decide +kernel
theorem dX5_count_27 : decode cX5_count 27 = .ok (.arraylength, 1) := by decide +kernel
theorem dX5_count_28 : decode cX5_count 28 = .ok (.istore 4, 2) := by decide +kernel
theorem dX5_count_30 : decode cX5_count 30 = .ok (.iconst 0, 1) := by decide +kernel
theorem dX5_count_31 : decode cX5_count 31 = .ok (.istore 5, 2) := by decide +kernel
theorem dX5_count_33 : decode cX5_count 33 = .ok (.iload 5, 2) := by decide +kernel
theorem dX5_count_35 : decode cX5_count 35 = .ok (.iload 4, 2) := by decide +kernel
theorem dX5_count_37 : decode cX5_count 37 = .ok (.if_icmp .ge 32, 3) := by decide +kernel
theorem dX5_count_40 : decode cX5_count 40 = .ok (.aload_n 3, 1) := by decide +kernel
theorem dX5_count_41 : decode cX5_count 41 = .ok (.iload 5, 2) := by decide +kernel
theorem dX5_count_43 : decode cX5_count 43 = .ok (.aaload, 1) := by decide +kernel
theorem dX5_count_44 : decode cX5_count 44 = .ok (.astore 6, 2) := by decide +kernel
theorem dX5_count_46 : decode cX5_count 46 = .ok (.aload 6, 2) := by decide +kernel
theorem dX5_count_48 : decode cX5_count 48 = .ok (.ifnull 15, 3) := by decide +kernel
theorem dX5_count_51 : decode cX5_count 51 = .ok (.aload 6, 2) := by decide +kernel
theorem dX5_count_53 : decode cX5_count 53 = .ok (.getfield 109, 3) := by decide +kernel
theorem dX5_count_56 : decode cX5_count 56 = .ok (.iload_n 1, 1) := by decide +kernel
theorem dX5_count_57 : decode cX5_count 57 = .ok (.if_icmp .ne 6, 3) := by decide +kernel
theorem dX5_count_60 : decode cX5_count 60 = .ok (.iinc 2 1, 3) := by decide +kernel
theorem dX5_count_63 : decode cX5_count 63 = .ok (.iinc 5 1, 3) := by decide +kernel
theorem dX5_count_66 : decode cX5_count 66 = .ok (.goto (-33), 3) := by decide +kernel
theorem dX5_count_69 : decode cX5_count 69 = .ok (.iload_n 2, 1) := by decide +kernel
theorem dX5_count_70 : decode cX5_count 70 = .ok (.ireturn, 1) := by decide +kernel
theorem dX5_samples_0 : decode cX5_samples 0 = .ok (.iload_n 1, 1) := by decide +kernel
theorem dX5_samples_1 : decode cX5_samples 1 = .ok (.iconst 2, 1) := by decide +kernel
theorem dX5_samples_2 : decode cX5_samples 2 = .ok (.bipush 60, 2) := by decide +kernel
theorem dX5_samples_4 : decode cX5_samples 4 = .ok (.invokestatic 33, 3) := by decide +kernel
theorem dX5_samples_7 : decode cX5_samples 7 = .ok (.ifCond .eq 12, 3) := by decide +kernel
theorem dX5_samples_10 : decode cX5_samples 10 = .ok (.iload_n 2, 1) := by decide +kernel
theorem dX5_samples_11 : decode cX5_samples 11 = .ok (.iconst 1, 1) := by decide +kernel
theorem dX5_samples_12 : decode cX5_samples 12 = .ok (.iload_n 1, 1) := by decide +kernel
theorem dX5_samples_13 : decode cX5_samples 13 = .ok (.invokestatic 33, 3) := by decide +kernel
theorem dX5_samples_16 : decode cX5_samples 16 = .ok (.ifCond .ne 13, 3) := by decide +kernel
theorem dX5_samples_19 : decode cX5_samples 19 = .ok (.new 37, 3) := by decide +kernel
theorem dX5_samples_22 : decode cX5_samples 22 = .ok (.dup, 1) := by decide +kernel
theorem dX5_samples_23 : decode cX5_samples 23 = .ok (.ldc 142, 2) := by decide +kernel
theorem dX5_samples_25 : decode cX5_samples 25 = .ok (.invokespecial 41, 3) := by decide +kernel
theorem dX5_samples_28 : decode cX5_samples 28 = .ok (.athrow, 1) := by decide +kernel
theorem dX5_samples_29 : decode cX5_samples 29 = .ok (.iload_n 1, 1) := by decide +kernel
theorem dX5_samples_30 : decode cX5_samples 30 = .ok (.iload_n 2, 1) := by decide +kernel
theorem dX5_samples_31 : decode cX5_samples 31 = .ok (.invokestatic 144, 3) := by decide +kernel
theorem dX5_samples_34 : decode cX5_samples 34 = .ok (.lreturn, 1) := by decide +kernel
theorem dX5_accepted_0 : decode cX5_accepted 0 = .ok (.iload_n 1, 1) := by decide +kernel
theorem dX5_accepted_1 : decode cX5_accepted 1 = .ok (.iconst 2, 1) := by decide +kernel
theorem dX5_accepted_2 : decode cX5_accepted 2 = .ok (.bipush 60, 2) := by decide +kernel
theorem dX5_accepted_4 : decode cX5_accepted 4 = .ok (.invokestatic 33, 3) := by decide +kernel
theorem dX5_accepted_7 : decode cX5_accepted 7 = .ok (.ifCond .eq 32, 3) := by decide +kernel
theorem dX5_accepted_10 : decode cX5_accepted 10 = .ok (.iload_n 2, 1) := by decide +kernel
theorem dX5_accepted_11 : decode cX5_accepted 11 = .ok (.iconst 0, 1) := by decide +kernel
theorem dX5_accepted_12 : decode cX5_accepted 12 = .ok (.iload_n 1, 1) := by decide +kernel
theorem dX5_accepted_13 : decode cX5_accepted 13 = .ok (.invokestatic 33, 3) := by decide +kernel
theorem dX5_accepted_16 : decode cX5_accepted 16 = .ok (.ifCond .eq 23, 3) := by decide +kernel
theorem dX5_accepted_19 : decode cX5_accepted 19 = .ok (.iload_n 3, 1) := by decide +kernel
theorem dX5_accepted_20 : decode cX5_accepted 20 = .ok (.iconst 1, 1) := by decide +kernel
theorem dX5_accepted_21 : decode cX5_accepted 21 = .ok (.iload_n 1, 1) := by decide +kernel
theorem dX5_accepted_22 : decode cX5_accepted 22 = .ok (.invokestatic 33, 3) := by decide +kernel
theorem dX5_accepted_25 : decode cX5_accepted 25 = .ok (.ifCond .eq 14, 3) := by decide +kernel
theorem dX5_accepted_28 : decode cX5_accepted 28 = .ok (.iload 4, 2) := by decide +kernel
theorem dX5_accepted_30 : decode cX5_accepted 30 = .ok (.iconst 0, 1) := by decide +kernel
theorem dX5_accepted_31 : decode cX5_accepted 31 = .ok (.bipush 60, 2) := by decide +kernel
theorem dX5_accepted_33 : decode cX5_accepted 33 = .ok (.invokestatic 33, 3) := by decide +kernel
theorem dX5_accepted_36 : decode cX5_accepted 36 = .ok (.ifCond .ne 13, 3) := by decide +kernel
theorem dX5_accepted_39 : decode cX5_accepted 39 = .ok (.new 37, 3) := by decide +kernel
theorem dX5_accepted_42 : decode cX5_accepted 42 = .ok (.dup, 1) := by decide +kernel
theorem dX5_accepted_43 : decode cX5_accepted 43 = .ok (.ldc 150, 2) := by decide +kernel
theorem dX5_accepted_45 : decode cX5_accepted 45 = .ok (.invokespecial 41, 3) := by decide +kernel
theorem dX5_accepted_48 : decode cX5_accepted 48 = .ok (.athrow, 1) := by decide +kernel
theorem dX5_accepted_49 : decode cX5_accepted 49 = .ok (.iload_n 1, 1) := by decide +kernel
theorem dX5_accepted_50 : decode cX5_accepted 50 = .ok (.iload_n 2, 1) := by decide +kernel
theorem dX5_accepted_51 : decode cX5_accepted 51 = .ok (.iload_n 3, 1) := by decide +kernel
theorem dX5_accepted_52 : decode cX5_accepted 52 = .ok (.iload 4, 2) := by decide +kernel
theorem dX5_accepted_54 : decode cX5_accepted 54 = .ok (.invokestatic 152, 3) := by decide +kernel
theorem dX5_accepted_57 : decode cX5_accepted 57 = .ok (.lreturn, 1) := by decide +kernel
theorem dX5_acceptedByListing_0 : decode cX5_acceptedByListing 0 = .ok (.iload_n 1, 1) := by decide +kernel
theorem dX5_acceptedByListing_1 : decode cX5_acceptedByListing 1 = .ok (.iconst 2, 1) := by decide +kernel
theorem dX5_acceptedByListing_2 : decode cX5_acceptedByListing 2 = .ok (.bipush 14, 2) := by decide +kernel
theorem dX5_acceptedByListing_4 : decode cX5_acceptedByListing 4 = .ok (.invokestatic 33, 3) := by decide +kernel
theorem dX5_acceptedByListing_7 : decode cX5_acceptedByListing 7 = .ok (.ifCond .eq 32, 3) := by decide +kernel
theorem dX5_acceptedByListing_10 : decode cX5_acceptedByListing 10 = .ok (.iload_n 2, 1) := by decide +kernel
theorem dX5_acceptedByListing_11 : decode cX5_acceptedByListing 11 = .ok (.iconst 0, 1) := by decide +kernel
theorem dX5_acceptedByListing_12 : decode cX5_acceptedByListing 12 = .ok (.iload_n 1, 1) := by decide +kernel
theorem dX5_acceptedByListing_13 : decode cX5_acceptedByListing 13 = .ok (.invokestatic 33, 3) := by decide +kernel
theorem dX5_acceptedByListing_16 : decode cX5_acceptedByListing 16 = .ok (.ifCond .eq 23, 3) := by decide +kernel
theorem dX5_acceptedByListing_19 : decode cX5_acceptedByListing 19 = .ok (.iload_n 3, 1) := by decide +kernel
theorem dX5_acceptedByListing_20 : decode cX5_acceptedByListing 20 = .ok (.iconst 1, 1) := by decide +kernel
theorem dX5_acceptedByListing_21 : decode cX5_acceptedByListing 21 = .ok (.iload_n 1, 1) := by decide +kernel
theorem dX5_acceptedByListing_22 : decode cX5_acceptedByListing 22 = .ok (.invokestatic 33, 3) := by decide +kernel
theorem dX5_acceptedByListing_25 : decode cX5_acceptedByListing 25 = .ok (.ifCond .eq 14, 3) := by decide +kernel
theorem dX5_acceptedByListing_28 : decode cX5_acceptedByListing 28 = .ok (.iload 4, 2) := by decide +kernel
theorem dX5_acceptedByListing_30 : decode cX5_acceptedByListing 30 = .ok (.iconst 0, 1) := by decide +kernel
theorem dX5_acceptedByListing_31 : decode cX5_acceptedByListing 31 = .ok (.bipush 60, 2) := by decide +kernel
theorem dX5_acceptedByListing_33 : decode cX5_acceptedByListing 33 = .ok (.invokestatic 33, 3) := by decide +kernel
theorem dX5_acceptedByListing_36 : decode cX5_acceptedByListing 36 = .ok (.ifCond .ne 13, 3) := by decide +kernel
theorem dX5_acceptedByListing_39 : decode cX5_acceptedByListing 39 = .ok (.new 37, 3) := by decide +kernel
theorem dX5_acceptedByListing_42 : decode cX5_acceptedByListing 42 = .ok (.dup, 1) := by decide +kernel
theorem dX5_acceptedByListing_43 : decode cX5_acceptedByListing 43 = .ok (.ldc 150, 2) := by decide +kernel
theorem dX5_acceptedByListing_45 : decode cX5_acceptedByListing 45 = .ok (.invokespecial 41, 3) := by decide +kernel
theorem dX5_acceptedByListing_48 : decode cX5_acceptedByListing 48 = .ok (.athrow, 1) := by decide +kernel
theorem dX5_acceptedByListing_49 : decode cX5_acceptedByListing 49 = .ok (.iload_n 1, 1) := by decide +kernel
theorem dX5_acceptedByListing_50 : decode cX5_acceptedByListing 50 = .ok (.iload_n 2, 1) := by decide +kernel
theorem dX5_acceptedByListing_51 : decode cX5_acceptedByListing 51 = .ok (.iload_n 3, 1) := by decide +kernel
theorem dX5_acceptedByListing_52 : decode cX5_acceptedByListing 52 = .ok (.iload 4, 2) := by decide +kernel
theorem dX5_acceptedByListing_54 : decode cX5_acceptedByListing 54 = .ok (.invokestatic 156, 3) := by decide +kernel
theorem dX5_acceptedByListing_57 : decode cX5_acceptedByListing 57 = .ok (.lreturn, 1) := by decide +kernel
theorem dX5_isWithin_0 : decode cX5_isWithin 0 = .ok (.iload_n 0, 1) := by decide +kernel
theorem dX5_isWithin_1 : decode cX5_isWithin 1 = .ok (.iload_n 1, 1) := by decide +kernel
theorem dX5_isWithin_2 : decode cX5_isWithin 2 = .ok (.if_icmp .lt 12, 3) := by decide +kernel
theorem dX5_isWithin_5 : decode cX5_isWithin 5 = .ok (.iload_n 0, 1) := by decide +kernel
theorem dX5_isWithin_6 : decode cX5_isWithin 6 = .ok (.iload_n 2, 1) := by decide +kernel
theorem dX5_isWithin_7 : decode cX5_isWithin 7 = .ok (.if_icmp .gt 7, 3) := by decide +kernel
theorem dX5_isWithin_10 : decode cX5_isWithin 10 = .ok (.iconst 1, 1) := by decide +kernel
theorem dX5_isWithin_11 : decode cX5_isWithin 11 = .ok (.goto 4, 3) := by decide +kernel
theorem dX5_isWithin_14 : decode cX5_isWithin 14 = .ok (.iconst 0, 1) := by decide +kernel
theorem dX5_isWithin_15 : decode cX5_isWithin 15 = .ok (.ireturn, 1) := by decide +kernel
theorem dX5_isOrder_0 : decode cX5_isOrder 0 = .ok (.iload_n 0, 1) := by decide +kernel
theorem dX5_isOrder_1 : decode cX5_isOrder 1 = .ok (.ifCond .lt 14, 3) := by decide +kernel
theorem dX5_isOrder_4 : decode cX5_isOrder 4 = .ok (.iload_n 0, 1) := by decide +kernel
theorem dX5_isOrder_5 : decode cX5_isOrder 5 = .ok (.sipush 200, 3) := by decide +kernel
theorem dX5_isOrder_8 : decode cX5_isOrder 8 = .ok (.if_icmp .ge 7, 3) := by decide +kernel
theorem dX5_isOrder_11 : decode cX5_isOrder 11 = .ok (.iconst 1, 1) := by decide +kernel
theorem dX5_isOrder_12 : decode cX5_isOrder 12 = .ok (.goto 4, 3) := by decide +kernel
theorem dX5_isOrder_15 : decode cX5_isOrder 15 = .ok (.iconst 0, 1) := by decide +kernel
theorem dX5_isOrder_16 : decode cX5_isOrder 16 = .ok (.ireturn, 1) := by decide +kernel
theorem dX5_isLotSize_0 : decode cX5_isLotSize 0 = .ok (.iload_n 0, 1) := by decide +kernel
theorem dX5_isLotSize_1 : decode cX5_isLotSize 1 = .ok (.iconst 2, 1) := by decide +kernel
theorem dX5_isLotSize_2 : decode cX5_isLotSize 2 = .ok (.sipush 5000, 3) := by decide +kernel
theorem dX5_isLotSize_5 : decode cX5_isLotSize 5 = .ok (.invokestatic 33, 3) := by decide +kernel
theorem dX5_isLotSize_8 : decode cX5_isLotSize 8 = .ok (.ireturn, 1) := by decide +kernel
theorem dX5_isFindings_0 : decode cX5_isFindings 0 = .ok (.lload_n 0, 1) := by decide +kernel
theorem dX5_isFindings_1 : decode cX5_isFindings 1 = .ok (.lconst 0, 1) := by decide +kernel
theorem dX5_isFindings_2 : decode cX5_isFindings 2 = .ok (.lcmp, 1) := by decide +kernel
theorem dX5_isFindings_3 : decode cX5_isFindings 3 = .ok (.ifCond .lt 15, 3) := by decide +kernel
theorem dX5_isFindings_6 : decode cX5_isFindings 6 = .ok (.lload_n 0, 1) := by decide +kernel
theorem dX5_isFindings_7 : decode cX5_isFindings 7 = .ok (.ldc2_w 162, 3) := by decide +kernel
theorem dX5_isFindings_10 : decode cX5_isFindings 10 = .ok (.lcmp, 1) := by decide +kernel
theorem dX5_isFindings_11 : decode cX5_isFindings 11 = .ok (.ifCond .gt 7, 3) := by decide +kernel
theorem dX5_isFindings_14 : decode cX5_isFindings 14 = .ok (.iconst 1, 1) := by decide +kernel
theorem dX5_isFindings_15 : decode cX5_isFindings 15 = .ok (.goto 4, 3) := by decide +kernel
theorem dX5_isFindings_18 : decode cX5_isFindings 18 = .ok (.iconst 0, 1) := by decide +kernel
theorem dX5_isFindings_19 : decode cX5_isFindings 19 = .ok (.ireturn, 1) := by decide +kernel
theorem dX5_findLot_0 : decode cX5_findLot 0 = .ok (.iload_n 1, 1) := by decide +kernel
theorem dX5_findLot_1 : decode cX5_findLot 1 = .ok (.invokestatic 66, 3) := by decide +kernel
theorem dX5_findLot_4 : decode cX5_findLot 4 = .ok (.ifCond .eq 12, 3) := by decide +kernel
theorem dX5_findLot_7 : decode cX5_findLot 7 = .ok (.aload_n 0, 1) := by decide +kernel
theorem dX5_findLot_8 : decode cX5_findLot 8 = .ok (.getfield 11, 3) := by decide +kernel
theorem dX5_findLot_11 : decode cX5_findLot 11 = .ok (.iload_n 1, 1) := by decide +kernel
theorem dX5_findLot_12 : decode cX5_findLot 12 = .ok (.aaload, 1) := by decide +kernel
theorem dX5_findLot_13 : decode cX5_findLot 13 = .ok (.goto 4, 3) := by decide +kernel
theorem dX5_findLot_16 : decode cX5_findLot 16 = .ok (.aconst_null, 1) := by decide +kernel
theorem dX5_findLot_17 : decode cX5_findLot 17 = .ok (.areturn, 1) := by decide +kernel
theorem dX5_judgeAll_0 : decode cX5_judgeAll 0 = .ok (.aload_n 0, 1) := by decide +kernel
theorem dX5_judgeAll_1 : decode cX5_judgeAll 1 = .ok (.getfield 29, 3) := by decide +kernel
theorem dX5_judgeAll_4 : decode cX5_judgeAll 4 = .ok (.invokevirtual 164, 3) := by decide +kernel
theorem dX5_judgeAll_7 : decode cX5_judgeAll 7 = .ok (.iconst (-1), 1) := by decide +kernel
theorem dX5_judgeAll_8 : decode cX5_judgeAll 8 = .ok (.istore_n 1, 1) := by decide +kernel
theorem dX5_judgeAll_9 : decode cX5_judgeAll 9 = .ok (.iconst 0, 1) := by decide +kernel
theorem dX5_judgeAll_10 : decode cX5_judgeAll 10 = .ok (.istore_n 2, 1) := by decide +kernel
theorem dX5_judgeAll_11 : decode cX5_judgeAll 11 = .ok (.iload_n 2, 1) := by decide +kernel
theorem dX5_judgeAll_12 : decode cX5_judgeAll 12 = .ok (.sipush 200, 3) := by decide +kernel
theorem dX5_judgeAll_15 : decode cX5_judgeAll 15 = .ok (.if_icmp .ge 44, 3) := by decide +kernel
theorem dX5_judgeAll_18 : decode cX5_judgeAll 18 = .ok (.aload_n 0, 1) := by decide +kernel
theorem dX5_judgeAll_19 : decode cX5_judgeAll 19 = .ok (.getfield 15, 3) := by decide +kernel
theorem dX5_judgeAll_22 : decode cX5_judgeAll 22 = .ok (.iload_n 2, 1) := by decide +kernel
theorem dX5_judgeAll_23 : decode cX5_judgeAll 23 = .ok (.baload, 1) := by decide +kernel
theorem dX5_judgeAll_24 : decode cX5_judgeAll 24 = .ok (.ifCond .eq 5, 3) := by decide +kernel
theorem dX5_judgeAll_27 : decode cX5_judgeAll 27 = .ok (.iload_n 2, 1) := by decide +kernel
theorem dX5_judgeAll_28 : decode cX5_judgeAll 28 = .ok (.istore_n 1, 1) := by decide +kernel
theorem dX5_judgeAll_29 : decode cX5_judgeAll 29 = .ok (.aload_n 0, 1) := by decide +kernel
theorem dX5_judgeAll_30 : decode cX5_judgeAll 30 = .ok (.getfield 11, 3) := by decide +kernel
theorem dX5_judgeAll_33 : decode cX5_judgeAll 33 = .ok (.iload_n 2, 1) := by decide +kernel
theorem dX5_judgeAll_34 : decode cX5_judgeAll 34 = .ok (.aaload, 1) := by decide +kernel
theorem dX5_judgeAll_35 : decode cX5_judgeAll 35 = .ok (.astore_n 3, 1) := by decide +kernel
theorem dX5_judgeAll_36 : decode cX5_judgeAll 36 = .ok (.aload_n 3, 1) := by decide +kernel
theorem dX5_judgeAll_37 : decode cX5_judgeAll 37 = .ok (.ifnull 16, 3) := by decide +kernel
theorem dX5_judgeAll_40 : decode cX5_judgeAll 40 = .ok (.aload_n 0, 1) := by decide +kernel
theorem dX5_judgeAll_41 : decode cX5_judgeAll 41 = .ok (.getfield 29, 3) := by decide +kernel
theorem dX5_judgeAll_44 : decode cX5_judgeAll 44 = .ok (.aload_n 3, 1) := by decide +kernel
theorem dX5_judgeAll_45 : decode cX5_judgeAll 45 = .ok (.iload_n 1, 1) := by decide +kernel
theorem dX5_judgeAll_46 : decode cX5_judgeAll 46 = .ok (.aload_n 0, 1) := by decide +kernel
theorem dX5_judgeAll_47 : decode cX5_judgeAll 47 = .ok (.getfield 22, 3) := by decide +kernel
theorem dX5_judgeAll_50 : decode cX5_judgeAll 50 = .ok (.invokevirtual 167, 3) := by decide +kernel
theorem dX5_judgeAll_53 : decode cX5_judgeAll 53 = .ok (.iinc 2 1, 3) := by decide +kernel
theorem dX5_judgeAll_56 : decode cX5_judgeAll 56 = .ok (.goto (-45), 3) := by decide +kernel
theorem dX5_judgeAll_59 : decode cX5_judgeAll 59 = .ok (.return_, 1) := by decide +kernel
end
section
theorem dJ6_bitCount_0f7a4_0 : decode cJ6_bitCount_0f7a4 0 = .ok (.iload_n 0, 1) := by decide +kernel
theorem dJ6_bitCount_0f7a4_1 : decode cJ6_bitCount_0f7a4 1 = .ok (.iload_n 0, 1) := by decide +kernel
theorem dJ6_bitCount_0f7a4_2 : decode cJ6_bitCount_0f7a4 2 = .ok (.iconst 1, 1) := by decide +kernel
theorem dJ6_bitCount_0f7a4_3 : decode cJ6_bitCount_0f7a4 3 = .ok (.iushr, 1) := by decide +kernel
theorem dJ6_bitCount_0f7a4_4 : decode cJ6_bitCount_0f7a4 4 = .ok (.ldc_w 265, 3) := by decide +kernel
theorem dJ6_bitCount_0f7a4_7 : decode cJ6_bitCount_0f7a4 7 = .ok (.iand, 1) := by decide +kernel
theorem dJ6_bitCount_0f7a4_8 : decode cJ6_bitCount_0f7a4 8 = .ok (.isub, 1) := by decide +kernel
theorem dJ6_bitCount_0f7a4_9 : decode cJ6_bitCount_0f7a4 9 = .ok (.istore_n 0, 1) := by decide +kernel
theorem dJ6_bitCount_0f7a4_10 : decode cJ6_bitCount_0f7a4 10 = .ok (.iload_n 0, 1) := by decide +kernel
theorem dJ6_bitCount_0f7a4_11 : decode cJ6_bitCount_0f7a4 11 = .ok (.ldc_w 266, 3) := by decide +kernel
theorem dJ6_bitCount_0f7a4_14 : decode cJ6_bitCount_0f7a4 14 = .ok (.iand, 1) := by decide +kernel
theorem dJ6_bitCount_0f7a4_15 : decode cJ6_bitCount_0f7a4 15 = .ok (.iload_n 0, 1) := by decide +kernel
theorem dJ6_bitCount_0f7a4_16 : decode cJ6_bitCount_0f7a4 16 = .ok (.iconst 2, 1) := by decide +kernel
theorem dJ6_bitCount_0f7a4_17 : decode cJ6_bitCount_0f7a4 17 = .ok (.iushr, 1) := by decide +kernel
theorem dJ6_bitCount_0f7a4_18 : decode cJ6_bitCount_0f7a4 18 = .ok (.ldc_w 266, 3) := by decide +kernel
theorem dJ6_bitCount_0f7a4_21 : decode cJ6_bitCount_0f7a4 21 = .ok (.iand, 1) := by decide +kernel
theorem dJ6_bitCount_0f7a4_22 : decode cJ6_bitCount_0f7a4 22 = .ok (.iadd, 1) := by decide +kernel
theorem dJ6_bitCount_0f7a4_23 : decode cJ6_bitCount_0f7a4 23 = .ok (.istore_n 0, 1) := by decide +kernel
theorem dJ6_bitCount_0f7a4_24 : decode cJ6_bitCount_0f7a4 24 = .ok (.iload_n 0, 1) := by decide +kernel
theorem dJ6_bitCount_0f7a4_25 : decode cJ6_bitCount_0f7a4 25 = .ok (.iload_n 0, 1) := by decide +kernel
theorem dJ6_bitCount_0f7a4_26 : decode cJ6_bitCount_0f7a4 26 = .ok (.iconst 4, 1) := by decide +kernel
theorem dJ6_bitCount_0f7a4_27 : decode cJ6_bitCount_0f7a4 27 = .ok (.iushr, 1) := by decide +kernel
theorem dJ6_bitCount_0f7a4_28 : decode cJ6_bitCount_0f7a4 28 = .ok (.iadd, 1) := by decide +kernel
theorem dJ6_bitCount_0f7a4_29 : decode cJ6_bitCount_0f7a4 29 = .ok (.ldc_w 267, 3) := by decide +kernel
theorem dJ6_bitCount_0f7a4_32 : decode cJ6_bitCount_0f7a4 32 = .ok (.iand, 1) := by decide +kernel
theorem dJ6_bitCount_0f7a4_33 : decode cJ6_bitCount_0f7a4 33 = .ok (.istore_n 0, 1) := by decide +kernel
theorem dJ6_bitCount_0f7a4_34 : decode cJ6_bitCount_0f7a4 34 = .ok (.iload_n 0, 1) := by decide +kernel
theorem dJ6_bitCount_0f7a4_35 : decode cJ6_bitCount_0f7a4 35 = .ok (.iload_n 0, 1) := by decide +kernel
theorem dJ6_bitCount_0f7a4_36 : decode cJ6_bitCount_0f7a4 36 = .ok (.bipush 8, 2) := by decide +kernel
theorem dJ6_bitCount_0f7a4_38 : decode cJ6_bitCount_0f7a4 38 = .ok (.iushr, 1) := by decide +kernel
theorem dJ6_bitCount_0f7a4_39 : decode cJ6_bitCount_0f7a4 39 = .ok (.iadd, 1) := by decide +kernel
theorem dJ6_bitCount_0f7a4_40 : decode cJ6_bitCount_0f7a4 40 = .ok (.istore_n 0, 1) := by decide +kernel
theorem dJ6_bitCount_0f7a4_41 : decode cJ6_bitCount_0f7a4 41 = .ok (.iload_n 0, 1) := by decide +kernel
theorem dJ6_bitCount_0f7a4_42 : decode cJ6_bitCount_0f7a4 42 = .ok (.iload_n 0, 1) := by decide +kernel
theorem dJ6_bitCount_0f7a4_43 : decode cJ6_bitCount_0f7a4 43 = .ok (.bipush 16, 2) := by decide +kernel
theorem dJ6_bitCount_0f7a4_45 : decode cJ6_bitCount_0f7a4 45 = .ok (.iushr, 1) := by decide +kernel
theorem dJ6_bitCount_0f7a4_46 : decode cJ6_bitCount_0f7a4 46 = .ok (.iadd, 1) := by decide +kernel
theorem dJ6_bitCount_0f7a4_47 : decode cJ6_bitCount_0f7a4 47 = .ok (.istore_n 0, 1) := by decide +kernel
theorem dJ6_bitCount_0f7a4_48 : decode cJ6_bitCount_0f7a4 48 = .ok (.iload_n 0, 1) := by decide +kernel
theorem dJ6_bitCount_0f7a4_49 : decode cJ6_bitCount_0f7a4 49 = .ok (.bipush 63, 2) := by decide +kernel
theorem dJ6_bitCount_0f7a4_51 : decode cJ6_bitCount_0f7a4 51 = .ok (.iand, 1) := by decide +kernel
theorem dJ6_bitCount_0f7a4_52 : decode cJ6_bitCount_0f7a4 52 = .ok (.ireturn, 1) := by decide +kernel
theorem dJ13_bitCount_95d88_0 : decode cJ13_bitCount_95d88 0 = .ok (.lload_n 0, 1) := by decide +kernel
theorem dJ13_bitCount_95d88_1 : decode cJ13_bitCount_95d88 1 = .ok (.lload_n 0, 1) := by decide +kernel
theorem dJ13_bitCount_95d88_2 : decode cJ13_bitCount_95d88 2 = .ok (.iconst 1, 1) := by decide +kernel
theorem dJ13_bitCount_95d88_3 : decode cJ13_bitCount_95d88 3 = .ok (.lushr, 1) := by decide +kernel
theorem dJ13_bitCount_95d88_4 : decode cJ13_bitCount_95d88 4 = .ok (.ldc2_w 314, 3) := by decide +kernel
theorem dJ13_bitCount_95d88_7 : decode cJ13_bitCount_95d88 7 = .ok (.land, 1) := by decide +kernel
theorem dJ13_bitCount_95d88_8 : decode cJ13_bitCount_95d88 8 = .ok (.lsub, 1) := by decide +kernel
theorem dJ13_bitCount_95d88_9 : decode cJ13_bitCount_95d88 9 = .ok (.lstore_n 0, 1) := by decide +kernel
theorem dJ13_bitCount_95d88_10 : decode cJ13_bitCount_95d88 10 = .ok (.lload_n 0, 1) := by decide +kernel
theorem dJ13_bitCount_95d88_11 : decode cJ13_bitCount_95d88 11 = .ok (.ldc2_w 316, 3) := by decide +kernel
theorem dJ13_bitCount_95d88_14 : decode cJ13_bitCount_95d88 14 = .ok (.land, 1) := by decide +kernel
theorem dJ13_bitCount_95d88_15 : decode cJ13_bitCount_95d88 15 = .ok (.lload_n 0, 1) := by decide +kernel
theorem dJ13_bitCount_95d88_16 : decode cJ13_bitCount_95d88 16 = .ok (.iconst 2, 1) := by decide +kernel
theorem dJ13_bitCount_95d88_17 : decode cJ13_bitCount_95d88 17 = .ok (.lushr, 1) := by decide +kernel
theorem dJ13_bitCount_95d88_18 : decode cJ13_bitCount_95d88 18 = .ok (.ldc2_w 316, 3) := by decide +kernel
theorem dJ13_bitCount_95d88_21 : decode cJ13_bitCount_95d88 21 = .ok (.land, 1) := by decide +kernel
theorem dJ13_bitCount_95d88_22 : decode cJ13_bitCount_95d88 22 = .ok (.ladd, 1) := by decide +kernel
theorem dJ13_bitCount_95d88_23 : decode cJ13_bitCount_95d88 23 = .ok (.lstore_n 0, 1) := by decide +kernel
theorem dJ13_bitCount_95d88_24 : decode cJ13_bitCount_95d88 24 = .ok (.lload_n 0, 1) := by decide +kernel
theorem dJ13_bitCount_95d88_25 : decode cJ13_bitCount_95d88 25 = .ok (.lload_n 0, 1) := by decide +kernel
theorem dJ13_bitCount_95d88_26 : decode cJ13_bitCount_95d88 26 = .ok (.iconst 4, 1) := by decide +kernel
theorem dJ13_bitCount_95d88_27 : decode cJ13_bitCount_95d88 27 = .ok (.lushr, 1) := by decide +kernel
theorem dJ13_bitCount_95d88_28 : decode cJ13_bitCount_95d88 28 = .ok (.ladd, 1) := by decide +kernel
theorem dJ13_bitCount_95d88_29 : decode cJ13_bitCount_95d88 29 = .ok (.ldc2_w 318, 3) := by decide +kernel
theorem dJ13_bitCount_95d88_32 : decode cJ13_bitCount_95d88 32 = .ok (.land, 1) := by decide +kernel
theorem dJ13_bitCount_95d88_33 : decode cJ13_bitCount_95d88 33 = .ok (.lstore_n 0, 1) := by decide +kernel
theorem dJ13_bitCount_95d88_34 : decode cJ13_bitCount_95d88 34 = .ok (.lload_n 0, 1) := by decide +kernel
theorem dJ13_bitCount_95d88_35 : decode cJ13_bitCount_95d88 35 = .ok (.lload_n 0, 1) := by decide +kernel
theorem dJ13_bitCount_95d88_36 : decode cJ13_bitCount_95d88 36 = .ok (.bipush 8, 2) := by decide +kernel
theorem dJ13_bitCount_95d88_38 : decode cJ13_bitCount_95d88 38 = .ok (.lushr, 1) := by decide +kernel
theorem dJ13_bitCount_95d88_39 : decode cJ13_bitCount_95d88 39 = .ok (.ladd, 1) := by decide +kernel
theorem dJ13_bitCount_95d88_40 : decode cJ13_bitCount_95d88 40 = .ok (.lstore_n 0, 1) := by decide +kernel
theorem dJ13_bitCount_95d88_41 : decode cJ13_bitCount_95d88 41 = .ok (.lload_n 0, 1) := by decide +kernel
theorem dJ13_bitCount_95d88_42 : decode cJ13_bitCount_95d88 42 = .ok (.lload_n 0, 1) := by decide +kernel
theorem dJ13_bitCount_95d88_43 : decode cJ13_bitCount_95d88 43 = .ok (.bipush 16, 2) := by decide +kernel
theorem dJ13_bitCount_95d88_45 : decode cJ13_bitCount_95d88 45 = .ok (.lushr, 1) := by decide +kernel
theorem dJ13_bitCount_95d88_46 : decode cJ13_bitCount_95d88 46 = .ok (.ladd, 1) := by decide +kernel
theorem dJ13_bitCount_95d88_47 : decode cJ13_bitCount_95d88 47 = .ok (.lstore_n 0, 1) := by decide +kernel
theorem dJ13_bitCount_95d88_48 : decode cJ13_bitCount_95d88 48 = .ok (.lload_n 0, 1) := by decide +kernel
theorem dJ13_bitCount_95d88_49 : decode cJ13_bitCount_95d88 49 = .ok (.lload_n 0, 1) := by decide +kernel
theorem dJ13_bitCount_95d88_50 : decode cJ13_bitCount_95d88 50 = .ok (.bipush 32, 2) := by decide +kernel
theorem dJ13_bitCount_95d88_52 : decode cJ13_bitCount_95d88 52 = .ok (.lushr, 1) := by decide +kernel
theorem dJ13_bitCount_95d88_53 : decode cJ13_bitCount_95d88 53 = .ok (.ladd, 1) := by decide +kernel
theorem dJ13_bitCount_95d88_54 : decode cJ13_bitCount_95d88 54 = .ok (.lstore_n 0, 1) := by decide +kernel
theorem dJ13_bitCount_95d88_55 : decode cJ13_bitCount_95d88 55 = .ok (.lload_n 0, 1) := by decide +kernel
theorem dJ13_bitCount_95d88_56 : decode cJ13_bitCount_95d88 56 = .ok (.l2i, 1) := by decide +kernel
theorem dJ13_bitCount_95d88_57 : decode cJ13_bitCount_95d88 57 = .ok (.bipush 127, 2) := by decide +kernel
theorem dJ13_bitCount_95d88_59 : decode cJ13_bitCount_95d88 59 = .ok (.iand, 1) := by decide +kernel
theorem dJ13_bitCount_95d88_60 : decode cJ13_bitCount_95d88 60 = .ok (.ireturn, 1) := by decide +kernel
theorem dJ9_min_7cf53_0 : decode cJ9_min_7cf53 0 = .ok (.iload_n 0, 1) := by decide +kernel
theorem dJ9_min_7cf53_1 : decode cJ9_min_7cf53 1 = .ok (.iload_n 1, 1) := by decide +kernel
theorem dJ9_min_7cf53_2 : decode cJ9_min_7cf53 2 = .ok (.if_icmp .gt 7, 3) := by decide +kernel
theorem dJ9_min_7cf53_5 : decode cJ9_min_7cf53 5 = .ok (.iload_n 0, 1) := by decide +kernel
theorem dJ9_min_7cf53_6 : decode cJ9_min_7cf53 6 = .ok (.goto 4, 3) := by decide +kernel
theorem dJ9_min_7cf53_9 : decode cJ9_min_7cf53 9 = .ok (.iload_n 1, 1) := by decide +kernel
theorem dJ9_min_7cf53_10 : decode cJ9_min_7cf53 10 = .ok (.ireturn, 1) := by decide +kernel
end
section
abbrev vwCl : List vw_C := [(RX0, TX0, 8), (RX2, TX2, 3), (RX3, TX3, 7), (RX4, TX4, 3), (RX5, TX5, 5)]
-- worlds: the context, the tables, what every method is given beside its own cells
abbrev cxT : Type := va_G × (Nat → ClassId)
abbrev tyA (X : cxT) : List (ClassId × FieldType) := [(X.2 0, .int), (X.2 1, .int), (X.2 2, .boolean), (X.2 3, .object RX3)]
def tabL (j : Nat) : Int32 := match j with
  | 0 => 8
  | 1 => 15
  | 2 => 50
  | 3 => 150
  | _ => 500
def tabS (j : Nat) : Int32 := match j with
  | 0 => 2
  | 1 => 3
  | 2 => 5
  | 3 => 8
  | 4 => 13
  | 5 => 20
  | 6 => 32
  | _ => 50
def strL : List (Nat × String) := [(39, "level or quality is out of range"), (54, "rate is out of range"), (70, "order is out of range"), (79, "order, size or findings is out of range"), (86, "the order is taken, or there are 60 lots"), (92, "findings is out of range"), (98, "there is no lot with this order"), (106, "there are not so many lots"), (125, "verdict is out of range"), (142, "size or sample is out of range"), (150, "size, bad, sample or most is out of range")]
def stP (A : Nat → Prop) (U : State) (H : Heap) : Prop := (∃ t : Nat, va_Z RX4 "LARGEST_OF_CLASS" "[I" (.ref t) A U H ∧ va_T .int t 5 (fun j => .int (tabL j)) A U H) ∧ (∃ t : Nat, va_Z RX4 "SAMPLE_OF_LETTER" "[I" (.ref t) A U H ∧ va_T .int t 8 (fun j => .int (tabS j)) A U H)
abbrev xB (E : String) : List Cond := [.declares (Bundle.initS "java/lang/RuntimeException"), .declares (Bundle.initS "java/lang/Exception"), .declares (Bundle.initS "java/lang/Throwable"), .castable E E]
theorem xB_moved {E : String} {u U : State} (hW : u.WarmedH U.vm) (h : ∀ w ∈ xB E, va_Nw w u) : ∀ w ∈ xB E, va_Nw w U := by
  have d : ∀ x : MethodName, va_Nw (.declares x) u → va_Nw (.declares x) U := fun x hZ => va_tabs rfl (rfl : (u.setVm U.vm).vm = U.vm) (by rw [Cond.declares_setVm hW.alike]; exact hZ)
  intro w hw
  simp only [xB, List.mem_cons, List.not_mem_nil, or_false] at hw
  rcases hw with rfl | rfl | rfl | rfl
  · exact d _ (h _ (by simp))
  · exact d _ (h _ (by simp))
  · exact d _ (h _ (by simp))
  · exact va_Nw.warmC hW (h _ (by simp))
theorem xB_use {E : String} {s : State} {args : Array Value} (h : ∀ w ∈ xB E, va_Nw w s) : ∀ w ∈ xB E, w.before args s = true := by
  intro w hw
  have h1 := h w hw
  simp only [xB, List.mem_cons, List.not_mem_nil, or_false] at hw
  rcases hw with rfl | rfl | rfl | rfl <;> exact va_Nw.use rfl h1
def stN (U : State) : Prop := (∀ q ∈ strL, ∃ a : Nat, vk_R RX5 q.1 q.2 a U) ∧ va_Nc "java/lang/IllegalArgumentException" "java/lang/IllegalStateException" U ∧ (∀ w ∈ xB "java/lang/IllegalArgumentException", va_Nw w U) ∧ (∀ w ∈ xB "java/lang/IllegalStateException", va_Nw w U) ∧ (∀ w ∈ xB "java/lang/IndexOutOfBoundsException", va_Nw w U)
def stX (A : Nat → Prop) (U : State) (H : Heap) : Prop := vx_Zq Bundle.tN "UNASSIGNED_STACK" Bundle.steD A U H ∧ vx_Zq Bundle.tN "SUPPRESSED_SENTINEL" Bundle.listD A U H
def stA (A : Nat → Prop) (U : State) (H : Heap) : Prop := stP A U H ∧ stX A U H ∧ stN U
theorem stA.moved {A : Nat → Prop} {u U : State} {H : Heap} (hW : u.WarmedH U.vm) (h : stA A u H) : stA A U H := by
  obtain ⟨⟨⟨t1, a1, b1⟩, ⟨t2, a2, b2⟩⟩, ⟨c1, c2⟩, d1, d2, d3, d4, d5⟩ := h
  refine ⟨⟨⟨t1, a1.moved hW.alike, b1.moved hW.alike⟩, ⟨t2, a2.moved hW.alike, b2.moved hW.alike⟩⟩, ⟨c1.moved hW.alike, c2.moved hW.alike⟩, fun q hq => ?_, ?_, xB_moved hW d3, xB_moved hW d4, xB_moved hW d5⟩
  · obtain ⟨a, ha⟩ := d1 q hq
    exact ⟨a, ha.warm hW⟩
  · obtain ⟨c, t, h1, h2, h3⟩ := d2
    exact ⟨c, t, by rw [hW.alike.findClass]; exact h1, by rw [hW.alike.findClass]; exact h2, by rw [hW.alike.assignable]; exact h3⟩
theorem stA.kept {A : Nat → Prop} {U : State} {H H1 : Heap} (h : stA A U H) (hq : ∀ a : Nat, a < H.size → ¬ A a → H1[a]? = H[a]?) : stA A U H1 := by
  obtain ⟨⟨⟨t1, a1, b1⟩, ⟨t2, a2, b2⟩⟩, ⟨c1, c2⟩, d⟩ := h
  exact ⟨⟨⟨t1, a1.kept hq, b1.kept hq⟩, ⟨t2, a2.kept hq, b2.kept hq⟩⟩, ⟨c1.kept hq, c2.kept hq⟩, d⟩
theorem stA.narrow {A B : Nat → Prop} {U : State} {H : Heap} (h : stA A U H) (hAB : ∀ q, B q → A q) : stA B U H := by
  obtain ⟨⟨⟨t1, a1, b1⟩, ⟨t2, a2, b2⟩⟩, ⟨c1, c2⟩, d⟩ := h
  exact ⟨⟨⟨t1, a1.narrow hAB, b1.narrow hAB⟩, ⟨t2, a2.narrow hAB, b2.narrow hAB⟩⟩, ⟨c1.narrow hAB, c2.narrow hAB⟩, d⟩
theorem stA.blind {A : Nat → Prop} {U : State} {g : JFrame} {mk : MethodId} {a : Array Value} (h : stA A U U.heap) : stA A (U.calling g mk a) (U.calling g mk a).heap := stA.moved (u := U) (U := U.calling g mk a) (State.WarmedH.refl U) h
theorem stA.at {A B : Nat → Prop} {s U : State} {H : Heap} {locs : List Loc} (h : stA A s s.heap) (hS : va_S A s.heap H locs) (hF : ∀ q, B q → A q) (hU : U.heap = H) (hW : s.WarmedH U.vm) : stA B U U.heap := by
  rw [hU]
  exact ((h.kept hS.2.1).narrow hF).moved hW
-- what a method is given: a reader (nothing changes), a writer (its cells may change)
def rPre (X : cxT) (W0 : va_W) (av : List Value) : Array Value → State → Prop := va_Pc av (fun U => va_P X.1 vwCl W0 U.heap ∧ va_K X.1 vwCl (tyA X) U ∧ stA (fun _ => False) U U.heap)
def wPre (X : cxT) (sz : Nat) (W0 : va_W) (av : List Value) : Array Value → State → Prop := va_Pc av (fun U => U.heap.size = sz ∧ va_P X.1 vwCl W0 U.heap ∧ va_K X.1 vwCl (tyA X) U ∧ va_D (fun _ => True) W0 ∧ stA (va_A W0 sz) U U.heap)
def wPost (X : cxT) (W1 : va_W) (t : State) : Prop := va_P X.1 vwCl W1 t.heap ∧ va_K X.1 vwCl (tyA X) t
theorem rPre.blind {X : cxT} {W0 : va_W} {av : List Value} : FrameBlind (rPre X W0 av) := fun a U g mk h => ⟨h.1, h.2.1, va_K.moved (u := U) (U := U.calling g mk a) (Vm.Alike.refl U.vm) h.2.2.1, h.2.2.2.blind⟩
theorem wPre.blind {X : cxT} {sz : Nat} {W0 : va_W} {av : List Value} : FrameBlind (wPre X sz W0 av) := fun a U g mk h => ⟨h.1, h.2.1, h.2.2.1, va_K.moved (u := U) (U := U.calling g mk a) (Vm.Alike.refl U.vm) h.2.2.2.1, h.2.2.2.2.1, h.2.2.2.2.2.blind⟩
theorem rPreS {X : cxT} {A : Nat → Prop} {s : State} {H : Heap} {locs : List Loc} {ws W0 : va_W} {av : List Value} (hK : va_K X.1 vwCl (tyA X) s) (hP : va_P X.1 vwCl ws H) (hSt : stA A s s.heap) (hS : va_S A s.heap H locs) (is : List Nat) (hw : is.filterMap (fun i => ws[i]?) = W0) : PreS s H (rPre X W0 av) av :=
  ⟨rPre.blind, fun U hU hW => ⟨rfl, by rw [hU]; exact hP.sub is hw, va_K.moved hW.alike hK, hSt.at hS (fun _ h => h.elim) hU hW⟩⟩
theorem rPreV {X : cxT} {A : Nat → Prop} {s : State} {H : Heap} {locs : List Loc} {ws W0 : va_W} {b ci : Nat} {fs : List Value} {q : vw_C} {As : List Value} (hK : va_K X.1 vwCl (tyA X) s) (hP : va_P X.1 vwCl ws H) (hSt : stA A s s.heap) (hS : va_S A s.heap H locs) (is : List Nat) (hw : is.filterMap (fun i => ws[i]?) = W0) (q0 : Nat) (he : ws[q0]? = some (b, .inr (ci, fs))) (hc : vwCl[ci]? = some q) : PreV s H q.1 b (rPre X W0 (.ref b :: As)) As :=
  ⟨rPre.blind, va_recv hK hP hc he, fun U hU hW => ⟨rfl, by rw [hU]; exact hP.sub is hw, va_K.moved hW.alike hK, hSt.at hS (fun _ h => h.elim) hU hW⟩⟩
theorem wPreS {X : cxT} {A : Nat → Prop} {s : State} {H : Heap} {locs : List Loc} {ws W0 : va_W} {av : List Value} (hK : va_K X.1 vwCl (tyA X) s) (hP : va_P X.1 vwCl ws H) (hD : va_D A ws) (hSt : stA A s s.heap) (hS : va_S A s.heap H locs) (hF : ∀ q, va_A W0 H.size q → A q) (is : List Nat) (hn : va_nd is = true) (hw : is.map (fun i => ws[i]?) = W0.map some) (hw2 : is.filterMap (fun i => ws[i]?) = W0) : PreS s H (wPre X H.size W0 av) av :=
  ⟨wPre.blind, fun U hU hW => ⟨rfl, by rw [hU], by rw [hU]; exact hP.sub is hw2, va_K.moved hW.alike hK, (hD.sub is hn hw).weaken (fun _ _ _ _ => trivial), hSt.at hS hF hU hW⟩⟩
theorem wPreV {X : cxT} {A : Nat → Prop} {s : State} {H : Heap} {locs : List Loc} {ws W0 : va_W} {b ci : Nat} {fs : List Value} {q : vw_C} {As : List Value} (hK : va_K X.1 vwCl (tyA X) s) (hP : va_P X.1 vwCl ws H) (hD : va_D A ws) (hSt : stA A s s.heap) (hS : va_S A s.heap H locs) (hF : ∀ q, va_A W0 H.size q → A q) (is : List Nat) (hn : va_nd is = true) (hw : is.map (fun i => ws[i]?) = W0.map some) (hw2 : is.filterMap (fun i => ws[i]?) = W0) (q0 : Nat) (he : ws[q0]? = some (b, .inr (ci, fs))) (hc : vwCl[ci]? = some q) : PreV s H q.1 b (wPre X H.size W0 (.ref b :: As)) As :=
  ⟨wPre.blind, va_recv hK hP hc he, fun U hU hW => ⟨rfl, by rw [hU], by rw [hU]; exact hP.sub is hw2, va_K.moved hW.alike hK, (hD.sub is hn hw).weaken (fun _ _ _ _ => trivial), hSt.at hS hF hU hW⟩⟩
-- behind a call: the callee's cells at their places, with what they hold now
def wset : List Nat → va_W → va_W → va_W
  | [], _, ws => ws
  | _ :: _, [], ws => ws
  | i :: is, q :: w, ws => wset is w (ws.set i q)
theorem wset_get : ∀ (is : List Nat) (w ws : va_W), is.length = w.length → ∀ (j : Nat) (q : Nat × va_E), (wset is w ws)[j]? = some q → (∃ k : Nat, is[k]? = some j ∧ w[k]? = some q) ∨ (j ∉ is ∧ ws[j]? = some q)
  | [], w, ws, _, j, q, h => Or.inr ⟨List.not_mem_nil, h⟩
  | _ :: _, [], ws, hl, j, q, h => by simp at hl
  | i :: is, q0 :: w, ws, hl, j, q, h => by
    rcases wset_get is w (ws.set i q0) (by simpa using hl) j q h with ⟨k, a, b⟩ | ⟨a, b⟩
    · exact Or.inl ⟨k + 1, by simpa using a, by simpa using b⟩
    · by_cases e : j = i
      · subst e
        have hj : j < ws.length := by
          have := (List.getElem?_eq_some_iff.mp b).1
          simpa using this
        rw [List.getElem?_set_self hj] at b
        cases b
        exact Or.inl ⟨0, by simp, by simp⟩
      · rw [List.getElem?_set_ne (Ne.symm e)] at b
        exact Or.inr ⟨by simp [e, a], b⟩
theorem wset_at {ws wc w1 : va_W} {is : List Nat} (hC : is.map (fun i => ws[i]?) = wc.map some) (ha : w1.map Prod.fst = wc.map Prod.fst) (j : Nat) (q : Nat × va_E) (h : (wset is w1 ws)[j]? = some q) : (∃ (k : Nat) (q0 : Nat × va_E), is[k]? = some j ∧ w1[k]? = some q ∧ wc[k]? = some q0 ∧ ws[j]? = some q0 ∧ q0.1 = q.1) ∨ (j ∉ is ∧ ws[j]? = some q) := by
  have l1 : is.length = wc.length := by
    have := congrArg List.length hC
    simpa using this
  have l2 : w1.length = wc.length := by
    have := congrArg List.length ha
    simpa using this
  rcases wset_get is w1 ws (l1.trans l2.symm) j q h with ⟨k, a, b⟩ | h
  · refine Or.inl ?_
    have hk : k < wc.length := by rw [← l1]; exact (List.getElem?_eq_some_iff.mp a).1
    refine ⟨k, wc[k], a, b, List.getElem?_eq_getElem hk, ?_, ?_⟩
    · have h1 : (is.map (fun i => ws[i]?))[k]? = (wc.map some)[k]? := by rw [hC]
      rw [List.getElem?_map, List.getElem?_map, a, List.getElem?_eq_getElem hk] at h1
      exact Option.some.inj h1
    · have h1 : (w1.map Prod.fst)[k]? = (wc.map Prod.fst)[k]? := by rw [ha]
      rw [List.getElem?_map, List.getElem?_map, b, List.getElem?_eq_getElem hk] at h1
      exact (Option.some.inj h1).symm
  · exact Or.inr h
theorem wj {A0 : Nat → Prop} {D : va_G} {cl : List vw_C} {ws wc w1 : va_W} {H H1 : Heap} (hP : va_P D cl ws H) (hD : va_D A0 ws) (is : List Nat) (hC : is.map (fun i => ws[i]?) = wc.map some) (ha : w1.map Prod.fst = wc.map Prod.fst)
    (hk : ∀ q : Nat, q < H.size → ¬ va_A wc H.size q → H1[q]? = H[q]?) (hP1 : va_P D cl w1 H1) : va_P D cl (wset is w1 ws) H1 ∧ va_D A0 (wset is w1 ws) := by
  have key : ∀ (j : Nat) (q : Nat × va_E), (wset is w1 ws)[j]? = some q → ∃ q0, ws[j]? = some q0 ∧ q0.1 = q.1 := by
    intro j q h
    rcases wset_at hC ha j q h with ⟨k, q0, -, -, -, h4, h5⟩ | ⟨-, h2⟩
    · exact ⟨q0, h4, h5⟩
    · exact ⟨q, h2, rfl⟩
  refine ⟨fun j q h => ?_, fun i j x y hi hj hxy => ?_, fun k q h => ?_⟩
  · rcases wset_at hC ha j q h with ⟨k, q0, -, h2, -, -, -⟩ | ⟨h1, h2⟩
    · exact hP1 k q h2
    · refine (hP j q h2).kept (hk q.1 (hP j q h2).lt (fun z => ?_))
      rcases z with ⟨k2, e, z⟩ | z
      · have h3 : (is.map (fun i => ws[i]?))[k2]? = (wc.map some)[k2]? := by rw [hC]
        rw [List.getElem?_map, List.getElem?_map, z] at h3
        cases hi : is[k2]? with
        | none => rw [hi] at h3; cases h3
        | some i =>
          rw [hi] at h3
          have h4 : ws[i]? = some (q.1, e) := Option.some.inj h3
          have := hD.1 j i q (q.1, e) h2 h4 rfl
          subst this
          exact h1 (List.mem_of_getElem? hi)
      · have := (hP j q h2).lt
        omega
  · obtain ⟨x0, h1, h2⟩ := key i x hi
    obtain ⟨y0, h3, h4⟩ := key j y hj
    exact hD.1 i j x0 y0 h1 h3 (h2.trans (hxy.trans h4.symm))
  · obtain ⟨q0, h1, h2⟩ := key k q h
    rw [← h2]
    exact hD.2 k q0 h1
-- the pure functions: 'none' where the machine would throw by itself, or the fuel is spent
abbrev okI (i : Int32) (n : Nat) : Prop := ¬ (i < 0 ∨ n ≤ i.toNatClampNeg)
theorem ite_some {α : Type} {c : Prop} [Decidable c] {a : Option α} {r : α} (h : (if c then a else none) = some r) : c ∧ a = some r := by
  by_cases hc : c
  · rw [if_pos hc] at h
    exact ⟨hc, h⟩
  · rw [if_neg hc] at h
    cases h
theorem bind_some {α β : Type} {a : Option α} {f : α → Option β} {r : β} (h : a.bind f = some r) : ∃ x, a = some x ∧ f x = some r := by
  cases a with
  | none => cases h
  | some x => exact ⟨x, rfl, h⟩
theorem zb_n {v : Int32} (h : v = 0 ∨ v = 1) : narrow .boolean (.int v) = .int v := by
  rcases h with rfl | rfl <;> rfl
theorem zb_f {v : Int32} (h : v = 0 ∨ v = 1) : fits .boolean (.int v) = true := by
  rcases h with rfl | rfl <;> rfl
section LVEQ
variable {p : Program} {l : Launch} {e : Env} {R : Room} {s : State} {m : MethodId} {args : Array Value} {below : List Frame} {meth : Method} {c : Code} {H : Heap} {locs : List Loc} {cells slots : Nat} {Q : State → Prop} {pc : Nat} {ls : Array Slot} {rest : List Value}
theorem lv_eqi {x y : Int32} (h : x = y) (k : W p l e R s m args below meth c H locs cells slots Q (F0 m pc ls (.int y :: rest))) : W p l e R s m args below meth c H locs cells slots Q (F0 m pc ls (.int x :: rest)) := h ▸ k
theorem lv_eql {x y : Int64} (h : x = y) (k : W p l e R s m args below meth c H locs cells slots Q (F0 m pc ls (.long y :: rest))) : W p l e R s m args below meth c H locs cells slots Q (F0 m pc ls (.long x :: rest)) := h ▸ k
end LVEQ
end
section
theorem dL_low_0 : decode cL_low 0 = .ok (.iload_n 0, 1) := by decide +kernel
theorem dL_low_1 : decode cL_low 1 = .ok (.ldc 7, 2) := by decide +kernel
theorem dL_low_3 : decode cL_low 3 = .ok (.iand, 1) := by decide +kernel
theorem dL_low_4 : decode cL_low 4 = .ok (.iload_n 1, 1) := by decide +kernel
theorem dL_low_5 : decode cL_low 5 = .ok (.irem, 1) := by decide +kernel
theorem dL_low_6 : decode cL_low 6 = .ok (.ireturn, 1) := by decide +kernel
theorem dL_cell_0 : decode cL_cell 0 = .ok (.iload_n 1, 1) := by decide +kernel
theorem dL_cell_1 : decode cL_cell 1 = .ok (.aload_n 0, 1) := by decide +kernel
theorem dL_cell_2 : decode cL_cell 2 = .ok (.arraylength, 1) := by decide +kernel
theorem dL_cell_3 : decode cL_cell 3 = .ok (.if_icmp .ge 9, 3) := by decide +kernel
theorem dL_cell_6 : decode cL_cell 6 = .ok (.aload_n 0, 1) := by decide +kernel
theorem dL_cell_7 : decode cL_cell 7 = .ok (.iload_n 1, 1) := by decide +kernel
theorem dL_cell_8 : decode cL_cell 8 = .ok (.iaload, 1) := by decide +kernel
theorem dL_cell_9 : decode cL_cell 9 = .ok (.goto 11, 3) := by decide +kernel
theorem dL_cell_12 : decode cL_cell 12 = .ok (.ldc 8, 2) := by decide +kernel
theorem dL_cell_14 : decode cL_cell 14 = .ok (.iload_n 1, 1) := by decide +kernel
theorem dL_cell_15 : decode cL_cell 15 = .ok (.imul, 1) := by decide +kernel
theorem dL_cell_16 : decode cL_cell 16 = .ok (.sipush 977, 3) := by decide +kernel
theorem dL_cell_19 : decode cL_cell 19 = .ok (.iadd, 1) := by decide +kernel
theorem dL_cell_20 : decode cL_cell 20 = .ok (.ireturn, 1) := by decide +kernel
theorem dL_record_0 : decode cL_record 0 = .ok (.aload_n 0, 1) := by decide +kernel
theorem dL_record_1 : decode cL_record 1 = .ok (.iload_n 1, 1) := by decide +kernel
theorem dL_record_2 : decode cL_record 2 = .ok (.iload_n 2, 1) := by decide +kernel
theorem dL_record_3 : decode cL_record 3 = .ok (.lload_n 3, 1) := by decide +kernel
theorem dL_record_4 : decode cL_record 4 = .ok (.invokevirtual 9, 3) := by decide +kernel
theorem dL_record_7 : decode cL_record 7 = .ok (.ireturn, 1) := by decide +kernel
theorem dL_record_8 : decode cL_record 8 = .ok (.astore 5, 2) := by decide +kernel
theorem dL_record_10 : decode cL_record 10 = .ok (.bipush (-2), 2) := by decide +kernel
theorem dL_record_12 : decode cL_record 12 = .ok (.ireturn, 1) := by decide +kernel
theorem dL_strike_0 : decode cL_strike 0 = .ok (.aload_n 0, 1) := by decide +kernel
theorem dL_strike_1 : decode cL_strike 1 = .ok (.iload_n 1, 1) := by decide +kernel
theorem dL_strike_2 : decode cL_strike 2 = .ok (.invokevirtual 17, 3) := by decide +kernel
theorem dL_strike_5 : decode cL_strike 5 = .ok (.ireturn, 1) := by decide +kernel
theorem dL_strike_6 : decode cL_strike 6 = .ok (.astore_n 2, 1) := by decide +kernel
theorem dL_strike_7 : decode cL_strike 7 = .ok (.bipush (-2), 2) := by decide +kernel
theorem dL_strike_9 : decode cL_strike 9 = .ok (.ireturn, 1) := by decide +kernel
theorem dL_findings_0 : decode cL_findings 0 = .ok (.lconst 1, 1) := by decide +kernel
theorem dL_findings_1 : decode cL_findings 1 = .ok (.iload_n 0, 1) := by decide +kernel
theorem dL_findings_2 : decode cL_findings 2 = .ok (.bipush 50, 2) := by decide +kernel
theorem dL_findings_4 : decode cL_findings 4 = .ok (.invokestatic 21, 3) := by decide +kernel
theorem dL_findings_7 : decode cL_findings 7 = .ok (.lshl, 1) := by decide +kernel
theorem dL_findings_8 : decode cL_findings 8 = .ok (.lconst 1, 1) := by decide +kernel
theorem dL_findings_9 : decode cL_findings 9 = .ok (.iload_n 0, 1) := by decide +kernel
theorem dL_findings_10 : decode cL_findings 10 = .ok (.bipush 6, 2) := by decide +kernel
theorem dL_findings_12 : decode cL_findings 12 = .ok (.ishr, 1) := by decide +kernel
theorem dL_findings_13 : decode cL_findings 13 = .ok (.bipush 30, 2) := by decide +kernel
theorem dL_findings_15 : decode cL_findings 15 = .ok (.invokestatic 21, 3) := by decide +kernel
theorem dL_findings_18 : decode cL_findings 18 = .ok (.lshl, 1) := by decide +kernel
theorem dL_findings_19 : decode cL_findings 19 = .ok (.lor, 1) := by decide +kernel
theorem dL_findings_20 : decode cL_findings 20 = .ok (.iload_n 1, 1) := by decide +kernel
theorem dL_findings_21 : decode cL_findings 21 = .ok (.iconst 3, 1) := by decide +kernel
theorem dL_findings_22 : decode cL_findings 22 = .ok (.invokestatic 21, 3) := by decide +kernel
theorem dL_findings_25 : decode cL_findings 25 = .ok (.ifCond .ne 25, 3) := by decide +kernel
theorem dL_findings_28 : decode cL_findings 28 = .ok (.iload_n 1, 1) := by decide +kernel
theorem dL_findings_29 : decode cL_findings 29 = .ok (.iconst 2, 1) := by decide +kernel
theorem dL_findings_30 : decode cL_findings 30 = .ok (.ishr, 1) := by decide +kernel
theorem dL_findings_31 : decode cL_findings 31 = .ok (.bipush 64, 2) := by decide +kernel
theorem dL_findings_33 : decode cL_findings 33 = .ok (.invokestatic 21, 3) := by decide +kernel
theorem dL_findings_36 : decode cL_findings 36 = .ok (.i2l, 1) := by decide +kernel
theorem dL_findings_37 : decode cL_findings 37 = .ok (.iload_n 0, 1) := by decide +kernel
theorem dL_findings_38 : decode cL_findings 38 = .ok (.bipush 12, 2) := by decide +kernel
theorem dL_findings_40 : decode cL_findings 40 = .ok (.ishr, 1) := by decide +kernel
theorem dL_findings_41 : decode cL_findings 41 = .ok (.bipush 20, 2) := by decide +kernel
theorem dL_findings_43 : decode cL_findings 43 = .ok (.invokestatic 21, 3) := by decide +kernel
theorem dL_findings_46 : decode cL_findings 46 = .ok (.lshl, 1) := by decide +kernel
theorem dL_findings_47 : decode cL_findings 47 = .ok (.goto 4, 3) := by decide +kernel
theorem dL_findings_50 : decode cL_findings 50 = .ok (.lconst 0, 1) := by decide +kernel
theorem dL_findings_51 : decode cL_findings 51 = .ok (.lor, 1) := by decide +kernel
theorem dL_findings_52 : decode cL_findings 52 = .ok (.lreturn, 1) := by decide +kernel
theorem dL_holds_0 : decode cL_holds 0 = .ok (.iconst 0, 1) := by decide +kernel
theorem dL_holds_1 : decode cL_holds 1 = .ok (.istore_n 1, 1) := by decide +kernel
theorem dL_holds_2 : decode cL_holds 2 = .ok (.iconst 1, 1) := by decide +kernel
theorem dL_holds_3 : decode cL_holds 3 = .ok (.istore_n 2, 1) := by decide +kernel
theorem dL_holds_4 : decode cL_holds 4 = .ok (.iconst 0, 1) := by decide +kernel
theorem dL_holds_5 : decode cL_holds 5 = .ok (.istore_n 3, 1) := by decide +kernel
theorem dL_holds_6 : decode cL_holds 6 = .ok (.iload_n 3, 1) := by decide +kernel
theorem dL_holds_7 : decode cL_holds 7 = .ok (.iconst 4, 1) := by decide +kernel
theorem dL_holds_8 : decode cL_holds 8 = .ok (.if_icmp .ge 17, 3) := by decide +kernel
theorem dL_holds_11 : decode cL_holds 11 = .ok (.iload_n 1, 1) := by decide +kernel
theorem dL_holds_12 : decode cL_holds 12 = .ok (.aload_n 0, 1) := by decide +kernel
theorem dL_holds_13 : decode cL_holds 13 = .ok (.iload_n 3, 1) := by decide +kernel
theorem dL_holds_14 : decode cL_holds 14 = .ok (.invokevirtual 27, 3) := by decide +kernel
theorem dL_holds_17 : decode cL_holds 17 = .ok (.iadd, 1) := by decide +kernel
theorem dL_holds_18 : decode cL_holds 18 = .ok (.istore_n 1, 1) := by decide +kernel
theorem dL_holds_19 : decode cL_holds 19 = .ok (.iinc 3 1, 3) := by decide +kernel
theorem dL_holds_22 : decode cL_holds 22 = .ok (.goto (-16), 3) := by decide +kernel
theorem dL_holds_25 : decode cL_holds 25 = .ok (.iconst 0, 1) := by decide +kernel
theorem dL_holds_26 : decode cL_holds 26 = .ok (.istore_n 3, 1) := by decide +kernel
theorem dL_holds_27 : decode cL_holds 27 = .ok (.iconst 0, 1) := by decide +kernel
theorem dL_holds_28 : decode cL_holds 28 = .ok (.istore 4, 2) := by decide +kernel
theorem dL_holds_30 : decode cL_holds 30 = .ok (.iload 4, 2) := by decide +kernel
theorem dL_holds_32 : decode cL_holds 32 = .ok (.aload_n 0, 1) := by decide +kernel
theorem dL_holds_33 : decode cL_holds 33 = .ok (.invokevirtual 30, 3) := by decide +kernel
theorem dL_holds_36 : decode cL_holds 36 = .ok (.if_icmp .ge 170, 3) := by decide +kernel
theorem dL_holds_39 : decode cL_holds 39 = .ok (.iload_n 2, 1) := by decide +kernel
theorem dL_holds_40 : decode cL_holds 40 = .ok (.ifCond .eq 166, 3) := by decide +kernel
theorem dL_holds_43 : decode cL_holds 43 = .ok (.aload_n 0, 1) := by decide +kernel
theorem dL_holds_44 : decode cL_holds 44 = .ok (.iload 4, 2) := by decide +kernel
theorem dL_holds_46 : decode cL_holds 46 = .ok (.invokevirtual 34, 3) := by decide +kernel
theorem dL_holds_49 : decode cL_holds 49 = .ok (.istore 5, 2) := by decide +kernel
theorem dL_holds_51 : decode cL_holds 51 = .ok (.aload_n 0, 1) := by decide +kernel
theorem dL_holds_52 : decode cL_holds 52 = .ok (.iload 5, 2) := by decide +kernel
theorem dL_holds_54 : decode cL_holds 54 = .ok (.invokevirtual 37, 3) := by decide +kernel
theorem dL_holds_57 : decode cL_holds 57 = .ok (.istore 6, 2) := by decide +kernel
theorem dL_holds_59 : decode cL_holds 59 = .ok (.aload_n 0, 1) := by decide +kernel
theorem dL_holds_60 : decode cL_holds 60 = .ok (.iload 5, 2) := by decide +kernel
theorem dL_holds_62 : decode cL_holds 62 = .ok (.invokevirtual 40, 3) := by decide +kernel
theorem dL_holds_65 : decode cL_holds 65 = .ok (.istore 7, 2) := by decide +kernel
theorem dL_holds_67 : decode cL_holds 67 = .ok (.aload_n 0, 1) := by decide +kernel
theorem dL_holds_68 : decode cL_holds 68 = .ok (.iload 5, 2) := by decide +kernel
theorem dL_holds_70 : decode cL_holds 70 = .ok (.invokevirtual 43, 3) := by decide +kernel
theorem dL_holds_73 : decode cL_holds 73 = .ok (.istore 8, 2) := by decide +kernel
theorem dL_holds_75 : decode cL_holds 75 = .ok (.iload_n 3, 1) := by decide +kernel
theorem dL_holds_76 : decode cL_holds 76 = .ok (.iload 6, 2) := by decide +kernel
theorem dL_holds_78 : decode cL_holds 78 = .ok (.iconst 2, 1) := by decide +kernel
theorem dL_holds_79 : decode cL_holds 79 = .ok (.if_icmp .ge 7, 3) := by decide +kernel
theorem dL_holds_82 : decode cL_holds 82 = .ok (.iconst 1, 1) := by decide +kernel
theorem dL_holds_83 : decode cL_holds 83 = .ok (.goto 4, 3) := by decide +kernel
theorem dL_holds_86 : decode cL_holds 86 = .ok (.iconst 0, 1) := by decide +kernel
theorem dL_holds_87 : decode cL_holds 87 = .ok (.iadd, 1) := by decide +kernel
theorem dL_holds_88 : decode cL_holds 88 = .ok (.istore_n 3, 1) := by decide +kernel
theorem dL_holds_89 : decode cL_holds 89 = .ok (.iload 4, 2) := by decide +kernel
theorem dL_holds_91 : decode cL_holds 91 = .ok (.ifCond .eq 16, 3) := by decide +kernel
theorem dL_holds_94 : decode cL_holds 94 = .ok (.aload_n 0, 1) := by decide +kernel
theorem dL_holds_95 : decode cL_holds 95 = .ok (.iload 4, 2) := by decide +kernel
theorem dL_holds_97 : decode cL_holds 97 = .ok (.iconst 1, 1) := by decide +kernel
theorem dL_holds_98 : decode cL_holds 98 = .ok (.isub, 1) := by decide +kernel
theorem dL_holds_99 : decode cL_holds 99 = .ok (.invokevirtual 34, 3) := by decide +kernel
theorem dL_holds_102 : decode cL_holds 102 = .ok (.iload 5, 2) := by decide +kernel
theorem dL_holds_104 : decode cL_holds 104 = .ok (.if_icmp .ge 94, 3) := by decide +kernel
theorem dL_holds_107 : decode cL_holds 107 = .ok (.iload 6, 2) := by decide +kernel
theorem dL_holds_109 : decode cL_holds 109 = .ok (.ifCond .lt 89, 3) := by decide +kernel
theorem dL_holds_112 : decode cL_holds 112 = .ok (.iload 6, 2) := by decide +kernel
theorem dL_holds_114 : decode cL_holds 114 = .ok (.iconst 3, 1) := by decide +kernel
theorem dL_holds_115 : decode cL_holds 115 = .ok (.if_icmp .gt 83, 3) := by decide +kernel
theorem dL_holds_118 : decode cL_holds 118 = .ok (.iload 6, 2) := by decide +kernel
theorem dL_holds_120 : decode cL_holds 120 = .ok (.iconst 3, 1) := by decide +kernel
theorem dL_holds_121 : decode cL_holds 121 = .ok (.if_icmp .ne 7, 3) := by decide +kernel
theorem dL_holds_124 : decode cL_holds 124 = .ok (.iconst 1, 1) := by decide +kernel
theorem dL_holds_125 : decode cL_holds 125 = .ok (.goto 4, 3) := by decide +kernel
theorem dL_holds_128 : decode cL_holds 128 = .ok (.iconst 0, 1) := by decide +kernel
theorem dL_holds_129 : decode cL_holds 129 = .ok (.iload 7, 2) := by decide +kernel
theorem dL_holds_131 : decode cL_holds 131 = .ok (.iconst 3, 1) := by decide +kernel
theorem dL_holds_132 : decode cL_holds 132 = .ok (.if_icmp .ne 7, 3) := by decide +kernel
theorem dL_holds_135 : decode cL_holds 135 = .ok (.iconst 1, 1) := by decide +kernel
theorem dL_holds_136 : decode cL_holds 136 = .ok (.goto 4, 3) := by decide +kernel
theorem dL_holds_139 : decode cL_holds 139 = .ok (.iconst 0, 1) := by decide +kernel
theorem dL_holds_140 : decode cL_holds 140 = .ok (.if_icmp .ne 58, 3) := by decide +kernel
theorem dL_holds_143 : decode cL_holds 143 = .ok (.iload 8, 2) := by decide +kernel
theorem dL_holds_145 : decode cL_holds 145 = .ok (.ifCond .le 7, 3) := by decide +kernel
theorem dL_holds_148 : decode cL_holds 148 = .ok (.iconst 1, 1) := by decide +kernel
theorem dL_holds_149 : decode cL_holds 149 = .ok (.goto 4, 3) := by decide +kernel
theorem dL_holds_152 : decode cL_holds 152 = .ok (.iconst 0, 1) := by decide +kernel
theorem dL_holds_153 : decode cL_holds 153 = .ok (.iload 6, 2) := by decide +kernel
theorem dL_holds_155 : decode cL_holds 155 = .ok (.iconst 2, 1) := by decide +kernel
theorem dL_holds_156 : decode cL_holds 156 = .ok (.if_icmp .ge 7, 3) := by decide +kernel
theorem dL_holds_159 : decode cL_holds 159 = .ok (.iconst 1, 1) := by decide +kernel
theorem dL_holds_160 : decode cL_holds 160 = .ok (.goto 4, 3) := by decide +kernel
theorem dL_holds_163 : decode cL_holds 163 = .ok (.iconst 0, 1) := by decide +kernel
theorem dL_holds_164 : decode cL_holds 164 = .ok (.if_icmp .ne 34, 3) := by decide +kernel
theorem dL_holds_167 : decode cL_holds 167 = .ok (.aload_n 0, 1) := by decide +kernel
theorem dL_holds_168 : decode cL_holds 168 = .ok (.iload 5, 2) := by decide +kernel
theorem dL_holds_170 : decode cL_holds 170 = .ok (.invokevirtual 46, 3) := by decide +kernel
theorem dL_holds_173 : decode cL_holds 173 = .ok (.iload 8, 2) := by decide +kernel
theorem dL_holds_175 : decode cL_holds 175 = .ok (.if_icmp .gt 23, 3) := by decide +kernel
theorem dL_holds_178 : decode cL_holds 178 = .ok (.aload_n 0, 1) := by decide +kernel
theorem dL_holds_179 : decode cL_holds 179 = .ok (.iload 5, 2) := by decide +kernel
theorem dL_holds_181 : decode cL_holds 181 = .ok (.invokevirtual 46, 3) := by decide +kernel
theorem dL_holds_184 : decode cL_holds 184 = .ok (.ifCond .lt 14, 3) := by decide +kernel
theorem dL_holds_187 : decode cL_holds 187 = .ok (.iload 8, 2) := by decide +kernel
theorem dL_holds_189 : decode cL_holds 189 = .ok (.bipush 50, 2) := by decide +kernel
theorem dL_holds_191 : decode cL_holds 191 = .ok (.if_icmp .gt 7, 3) := by decide +kernel
theorem dL_holds_194 : decode cL_holds 194 = .ok (.iconst 1, 1) := by decide +kernel
theorem dL_holds_195 : decode cL_holds 195 = .ok (.goto 4, 3) := by decide +kernel
theorem dL_holds_198 : decode cL_holds 198 = .ok (.iconst 0, 1) := by decide +kernel
theorem dL_holds_199 : decode cL_holds 199 = .ok (.istore_n 2, 1) := by decide +kernel
theorem dL_holds_200 : decode cL_holds 200 = .ok (.iinc 4 1, 3) := by decide +kernel
theorem dL_holds_203 : decode cL_holds 203 = .ok (.goto (-173), 3) := by decide +kernel
theorem dL_holds_206 : decode cL_holds 206 = .ok (.iload_n 2, 1) := by decide +kernel
theorem dL_holds_207 : decode cL_holds 207 = .ok (.ifCond .eq 66, 3) := by decide +kernel
theorem dL_holds_210 : decode cL_holds 210 = .ok (.iload_n 1, 1) := by decide +kernel
theorem dL_holds_211 : decode cL_holds 211 = .ok (.aload_n 0, 1) := by decide +kernel
theorem dL_holds_212 : decode cL_holds 212 = .ok (.invokevirtual 30, 3) := by decide +kernel
theorem dL_holds_215 : decode cL_holds 215 = .ok (.if_icmp .ne 58, 3) := by decide +kernel
theorem dL_holds_218 : decode cL_holds 218 = .ok (.iload_n 3, 1) := by decide +kernel
theorem dL_holds_219 : decode cL_holds 219 = .ok (.aload_n 0, 1) := by decide +kernel
theorem dL_holds_220 : decode cL_holds 220 = .ok (.iconst 0, 1) := by decide +kernel
theorem dL_holds_221 : decode cL_holds 221 = .ok (.invokevirtual 27, 3) := by decide +kernel
theorem dL_holds_224 : decode cL_holds 224 = .ok (.aload_n 0, 1) := by decide +kernel
theorem dL_holds_225 : decode cL_holds 225 = .ok (.iconst 1, 1) := by decide +kernel
theorem dL_holds_226 : decode cL_holds 226 = .ok (.invokevirtual 27, 3) := by decide +kernel
theorem dL_holds_229 : decode cL_holds 229 = .ok (.iadd, 1) := by decide +kernel
theorem dL_holds_230 : decode cL_holds 230 = .ok (.if_icmp .ne 43, 3) := by decide +kernel
theorem dL_holds_233 : decode cL_holds 233 = .ok (.aload_n 0, 1) := by decide +kernel
theorem dL_holds_234 : decode cL_holds 234 = .ok (.invokevirtual 49, 3) := by decide +kernel
theorem dL_holds_237 : decode cL_holds 237 = .ok (.ifCond .lt 36, 3) := by decide +kernel
theorem dL_holds_240 : decode cL_holds 240 = .ok (.aload_n 0, 1) := by decide +kernel
theorem dL_holds_241 : decode cL_holds 241 = .ok (.invokevirtual 49, 3) := by decide +kernel
theorem dL_holds_244 : decode cL_holds 244 = .ok (.iconst 3, 1) := by decide +kernel
theorem dL_holds_245 : decode cL_holds 245 = .ok (.if_icmp .gt 28, 3) := by decide +kernel
theorem dL_holds_248 : decode cL_holds 248 = .ok (.aload_n 0, 1) := by decide +kernel
theorem dL_holds_249 : decode cL_holds 249 = .ok (.invokevirtual 30, 3) := by decide +kernel
theorem dL_holds_252 : decode cL_holds 252 = .ok (.ifCond .gt 17, 3) := by decide +kernel
theorem dL_holds_255 : decode cL_holds 255 = .ok (.aload_n 0, 1) := by decide +kernel
theorem dL_holds_256 : decode cL_holds 256 = .ok (.invokevirtual 49, 3) := by decide +kernel
theorem dL_holds_259 : decode cL_holds 259 = .ok (.ifCond .ne 14, 3) := by decide +kernel
theorem dL_holds_262 : decode cL_holds 262 = .ok (.aload_n 0, 1) := by decide +kernel
theorem dL_holds_263 : decode cL_holds 263 = .ok (.invokevirtual 52, 3) := by decide +kernel
theorem dL_holds_266 : decode cL_holds 266 = .ok (.ifCond .ne 7, 3) := by decide +kernel
theorem dL_holds_269 : decode cL_holds 269 = .ok (.iconst 1, 1) := by decide +kernel
theorem dL_holds_270 : decode cL_holds 270 = .ok (.goto 4, 3) := by decide +kernel
theorem dL_holds_273 : decode cL_holds 273 = .ok (.iconst 0, 1) := by decide +kernel
theorem dL_holds_274 : decode cL_holds 274 = .ok (.ireturn, 1) := by decide +kernel
theorem dL_again_0 : decode cL_again 0 = .ok (.aload_n 0, 1) := by decide +kernel
theorem dL_again_1 : decode cL_again 1 = .ok (.iload_n 1, 1) := by decide +kernel
theorem dL_again_2 : decode cL_again 2 = .ok (.invokevirtual 37, 3) := by decide +kernel
theorem dL_again_5 : decode cL_again 5 = .ok (.istore 5, 2) := by decide +kernel
theorem dL_again_7 : decode cL_again 7 = .ok (.aload_n 0, 1) := by decide +kernel
theorem dL_again_8 : decode cL_again 8 = .ok (.invokevirtual 49, 3) := by decide +kernel
theorem dL_again_11 : decode cL_again 11 = .ok (.istore 6, 2) := by decide +kernel
theorem dL_again_13 : decode cL_again 13 = .ok (.aload_n 0, 1) := by decide +kernel
theorem dL_again_14 : decode cL_again 14 = .ok (.invokevirtual 30, 3) := by decide +kernel
theorem dL_again_17 : decode cL_again 17 = .ok (.istore 7, 2) := by decide +kernel
theorem dL_again_19 : decode cL_again 19 = .ok (.aload_n 0, 1) := by decide +kernel
theorem dL_again_20 : decode cL_again 20 = .ok (.iload_n 1, 1) := by decide +kernel
theorem dL_again_21 : decode cL_again 21 = .ok (.lconst 0, 1) := by decide +kernel
theorem dL_again_22 : decode cL_again 22 = .ok (.invokevirtual 56, 3) := by decide +kernel
theorem dL_again_25 : decode cL_again 25 = .ok (.lload_n 3, 1) := by decide +kernel
theorem dL_again_26 : decode cL_again 26 = .ok (.lcmp, 1) := by decide +kernel
theorem dL_again_27 : decode cL_again 27 = .ok (.ifCond .ne 30, 3) := by decide +kernel
theorem dL_again_30 : decode cL_again 30 = .ok (.aload_n 0, 1) := by decide +kernel
theorem dL_again_31 : decode cL_again 31 = .ok (.iload_n 1, 1) := by decide +kernel
theorem dL_again_32 : decode cL_again 32 = .ok (.lload_n 3, 1) := by decide +kernel
theorem dL_again_33 : decode cL_again 33 = .ok (.invokevirtual 56, 3) := by decide +kernel
theorem dL_again_36 : decode cL_again 36 = .ok (.lconst 0, 1) := by decide +kernel
theorem dL_again_37 : decode cL_again 37 = .ok (.lcmp, 1) := by decide +kernel
theorem dL_again_38 : decode cL_again 38 = .ok (.ifCond .ne 19, 3) := by decide +kernel
theorem dL_again_41 : decode cL_again 41 = .ok (.aload_n 0, 1) := by decide +kernel
theorem dL_again_42 : decode cL_again 42 = .ok (.iload_n 1, 1) := by decide +kernel
theorem dL_again_43 : decode cL_again 43 = .ok (.invokevirtual 17, 3) := by decide +kernel
theorem dL_again_46 : decode cL_again 46 = .ok (.iload 7, 2) := by decide +kernel
theorem dL_again_48 : decode cL_again 48 = .ok (.iconst 1, 1) := by decide +kernel
theorem dL_again_49 : decode cL_again 49 = .ok (.isub, 1) := by decide +kernel
theorem dL_again_50 : decode cL_again 50 = .ok (.if_icmp .ne 7, 3) := by decide +kernel
theorem dL_again_53 : decode cL_again 53 = .ok (.iconst 1, 1) := by decide +kernel
theorem dL_again_54 : decode cL_again 54 = .ok (.goto 4, 3) := by decide +kernel
theorem dL_again_57 : decode cL_again 57 = .ok (.iconst 0, 1) := by decide +kernel
theorem dL_again_58 : decode cL_again 58 = .ok (.istore 8, 2) := by decide +kernel
theorem dL_again_60 : decode cL_again 60 = .ok (.iload 8, 2) := by decide +kernel
theorem dL_again_62 : decode cL_again 62 = .ok (.ifCond .eq 38, 3) := by decide +kernel
theorem dL_again_65 : decode cL_again 65 = .ok (.aload_n 0, 1) := by decide +kernel
theorem dL_again_66 : decode cL_again 66 = .ok (.iload_n 1, 1) := by decide +kernel
theorem dL_again_67 : decode cL_again 67 = .ok (.iload_n 2, 1) := by decide +kernel
theorem dL_again_68 : decode cL_again 68 = .ok (.lload_n 3, 1) := by decide +kernel
theorem dL_again_69 : decode cL_again 69 = .ok (.invokevirtual 9, 3) := by decide +kernel
theorem dL_again_72 : decode cL_again 72 = .ok (.iload 7, 2) := by decide +kernel
theorem dL_again_74 : decode cL_again 74 = .ok (.if_icmp .ne 26, 3) := by decide +kernel
theorem dL_again_77 : decode cL_again 77 = .ok (.aload_n 0, 1) := by decide +kernel
theorem dL_again_78 : decode cL_again 78 = .ok (.iload_n 1, 1) := by decide +kernel
theorem dL_again_79 : decode cL_again 79 = .ok (.invokevirtual 37, 3) := by decide +kernel
theorem dL_again_82 : decode cL_again 82 = .ok (.iload 5, 2) := by decide +kernel
theorem dL_again_84 : decode cL_again 84 = .ok (.if_icmp .ne 16, 3) := by decide +kernel
theorem dL_again_87 : decode cL_again 87 = .ok (.aload_n 0, 1) := by decide +kernel
theorem dL_again_88 : decode cL_again 88 = .ok (.invokevirtual 49, 3) := by decide +kernel
theorem dL_again_91 : decode cL_again 91 = .ok (.iload 6, 2) := by decide +kernel
theorem dL_again_93 : decode cL_again 93 = .ok (.if_icmp .ne 7, 3) := by decide +kernel
theorem dL_again_96 : decode cL_again 96 = .ok (.iconst 1, 1) := by decide +kernel
theorem dL_again_97 : decode cL_again 97 = .ok (.goto 4, 3) := by decide +kernel
theorem dL_again_100 : decode cL_again 100 = .ok (.iconst 0, 1) := by decide +kernel
theorem dL_again_101 : decode cL_again 101 = .ok (.ireturn, 1) := by decide +kernel
theorem dL_curves_0 : decode cL_curves 0 = .ok (.iconst 2, 1) := by decide +kernel
theorem dL_curves_1 : decode cL_curves 1 = .ok (.iload_n 1, 1) := by decide +kernel
theorem dL_curves_2 : decode cL_curves 2 = .ok (.bipush 13, 2) := by decide +kernel
theorem dL_curves_4 : decode cL_curves 4 = .ok (.invokestatic 21, 3) := by decide +kernel
theorem dL_curves_7 : decode cL_curves 7 = .ok (.iadd, 1) := by decide +kernel
theorem dL_curves_8 : decode cL_curves 8 = .ok (.istore_n 2, 1) := by decide +kernel
theorem dL_curves_9 : decode cL_curves 9 = .ok (.iconst 1, 1) := by decide +kernel
theorem dL_curves_10 : decode cL_curves 10 = .ok (.iload_n 1, 1) := by decide +kernel
theorem dL_curves_11 : decode cL_curves 11 = .ok (.iconst 4, 1) := by decide +kernel
theorem dL_curves_12 : decode cL_curves 12 = .ok (.ishr, 1) := by decide +kernel
theorem dL_curves_13 : decode cL_curves 13 = .ok (.iload_n 2, 1) := by decide +kernel
theorem dL_curves_14 : decode cL_curves 14 = .ok (.invokestatic 21, 3) := by decide +kernel
theorem dL_curves_17 : decode cL_curves 17 = .ok (.iadd, 1) := by decide +kernel
theorem dL_curves_18 : decode cL_curves 18 = .ok (.istore_n 3, 1) := by decide +kernel
theorem dL_curves_19 : decode cL_curves 19 = .ok (.iload_n 1, 1) := by decide +kernel
theorem dL_curves_20 : decode cL_curves 20 = .ok (.bipush 8, 2) := by decide +kernel
theorem dL_curves_22 : decode cL_curves 22 = .ok (.ishr, 1) := by decide +kernel
theorem dL_curves_23 : decode cL_curves 23 = .ok (.iload_n 2, 1) := by decide +kernel
theorem dL_curves_24 : decode cL_curves 24 = .ok (.iconst 1, 1) := by decide +kernel
theorem dL_curves_25 : decode cL_curves 25 = .ok (.iadd, 1) := by decide +kernel
theorem dL_curves_26 : decode cL_curves 26 = .ok (.invokestatic 21, 3) := by decide +kernel
theorem dL_curves_29 : decode cL_curves 29 = .ok (.istore 4, 2) := by decide +kernel
theorem dL_curves_31 : decode cL_curves 31 = .ok (.iload_n 1, 1) := by decide +kernel
theorem dL_curves_32 : decode cL_curves 32 = .ok (.bipush 12, 2) := by decide +kernel
theorem dL_curves_34 : decode cL_curves 34 = .ok (.ishr, 1) := by decide +kernel
theorem dL_curves_35 : decode cL_curves 35 = .ok (.bipush 6, 2) := by decide +kernel
theorem dL_curves_37 : decode cL_curves 37 = .ok (.invokestatic 21, 3) := by decide +kernel
theorem dL_curves_40 : decode cL_curves 40 = .ok (.istore 5, 2) := by decide +kernel
theorem dL_curves_42 : decode cL_curves 42 = .ok (.aload_n 0, 1) := by decide +kernel
theorem dL_curves_43 : decode cL_curves 43 = .ok (.iload_n 2, 1) := by decide +kernel
theorem dL_curves_44 : decode cL_curves 44 = .ok (.iload 4, 2) := by decide +kernel
theorem dL_curves_46 : decode cL_curves 46 = .ok (.iload_n 3, 1) := by decide +kernel
theorem dL_curves_47 : decode cL_curves 47 = .ok (.iload 5, 2) := by decide +kernel
theorem dL_curves_49 : decode cL_curves 49 = .ok (.invokevirtual 60, 3) := by decide +kernel
theorem dL_curves_52 : decode cL_curves 52 = .ok (.aload_n 0, 1) := by decide +kernel
theorem dL_curves_53 : decode cL_curves 53 = .ok (.iload_n 2, 1) := by decide +kernel
theorem dL_curves_54 : decode cL_curves 54 = .ok (.iload 4, 2) := by decide +kernel
theorem dL_curves_56 : decode cL_curves 56 = .ok (.iload_n 3, 1) := by decide +kernel
theorem dL_curves_57 : decode cL_curves 57 = .ok (.iload 5, 2) := by decide +kernel
theorem dL_curves_59 : decode cL_curves 59 = .ok (.invokevirtual 64, 3) := by decide +kernel
theorem dL_curves_62 : decode cL_curves 62 = .ok (.lcmp, 1) := by decide +kernel
theorem dL_curves_63 : decode cL_curves 63 = .ok (.ifCond .ne 37, 3) := by decide +kernel
theorem dL_curves_66 : decode cL_curves 66 = .ok (.aload_n 0, 1) := by decide +kernel
theorem dL_curves_67 : decode cL_curves 67 = .ok (.iload_n 2, 1) := by decide +kernel
theorem dL_curves_68 : decode cL_curves 68 = .ok (.iload 4, 2) := by decide +kernel
theorem dL_curves_70 : decode cL_curves 70 = .ok (.iload_n 3, 1) := by decide +kernel
theorem dL_curves_71 : decode cL_curves 71 = .ok (.iload_n 2, 1) := by decide +kernel
theorem dL_curves_72 : decode cL_curves 72 = .ok (.invokevirtual 60, 3) := by decide +kernel
theorem dL_curves_75 : decode cL_curves 75 = .ok (.aload_n 0, 1) := by decide +kernel
theorem dL_curves_76 : decode cL_curves 76 = .ok (.iload_n 2, 1) := by decide +kernel
theorem dL_curves_77 : decode cL_curves 77 = .ok (.iload_n 3, 1) := by decide +kernel
theorem dL_curves_78 : decode cL_curves 78 = .ok (.invokevirtual 67, 3) := by decide +kernel
theorem dL_curves_81 : decode cL_curves 81 = .ok (.lcmp, 1) := by decide +kernel
theorem dL_curves_82 : decode cL_curves 82 = .ok (.ifCond .ne 18, 3) := by decide +kernel
theorem dL_curves_85 : decode cL_curves 85 = .ok (.aload_n 0, 1) := by decide +kernel
theorem dL_curves_86 : decode cL_curves 86 = .ok (.iload_n 2, 1) := by decide +kernel
theorem dL_curves_87 : decode cL_curves 87 = .ok (.iload_n 2, 1) := by decide +kernel
theorem dL_curves_88 : decode cL_curves 88 = .ok (.invokevirtual 67, 3) := by decide +kernel
theorem dL_curves_91 : decode cL_curves 91 = .ok (.lconst 1, 1) := by decide +kernel
theorem dL_curves_92 : decode cL_curves 92 = .ok (.lcmp, 1) := by decide +kernel
theorem dL_curves_93 : decode cL_curves 93 = .ok (.ifCond .ne 7, 3) := by decide +kernel
theorem dL_curves_96 : decode cL_curves 96 = .ok (.iconst 1, 1) := by decide +kernel
theorem dL_curves_97 : decode cL_curves 97 = .ok (.goto 4, 3) := by decide +kernel
theorem dL_curves_100 : decode cL_curves 100 = .ok (.iconst 0, 1) := by decide +kernel
theorem dL_curves_101 : decode cL_curves 101 = .ok (.istore 6, 2) := by decide +kernel
theorem dL_curves_103 : decode cL_curves 103 = .ok (.bipush 15, 2) := by decide +kernel
theorem dL_curves_105 : decode cL_curves 105 = .ok (.iload_n 1, 1) := by decide +kernel
theorem dL_curves_106 : decode cL_curves 106 = .ok (.iconst 3, 1) := by decide +kernel
theorem dL_curves_107 : decode cL_curves 107 = .ok (.ishr, 1) := by decide +kernel
theorem dL_curves_108 : decode cL_curves 108 = .ok (.bipush 46, 2) := by decide +kernel
theorem dL_curves_110 : decode cL_curves 110 = .ok (.invokestatic 21, 3) := by decide +kernel
theorem dL_curves_113 : decode cL_curves 113 = .ok (.iadd, 1) := by decide +kernel
theorem dL_curves_114 : decode cL_curves 114 = .ok (.istore 7, 2) := by decide +kernel
theorem dL_curves_116 : decode cL_curves 116 = .ok (.iconst 1, 1) := by decide +kernel
theorem dL_curves_117 : decode cL_curves 117 = .ok (.iload_n 1, 1) := by decide +kernel
theorem dL_curves_118 : decode cL_curves 118 = .ok (.bipush 9, 2) := by decide +kernel
theorem dL_curves_120 : decode cL_curves 120 = .ok (.ishr, 1) := by decide +kernel
theorem dL_curves_121 : decode cL_curves 121 = .ok (.iload 7, 2) := by decide +kernel
theorem dL_curves_123 : decode cL_curves 123 = .ok (.iconst 1, 1) := by decide +kernel
theorem dL_curves_124 : decode cL_curves 124 = .ok (.isub, 1) := by decide +kernel
theorem dL_curves_125 : decode cL_curves 125 = .ok (.invokestatic 21, 3) := by decide +kernel
theorem dL_curves_128 : decode cL_curves 128 = .ok (.iadd, 1) := by decide +kernel
theorem dL_curves_129 : decode cL_curves 129 = .ok (.istore 8, 2) := by decide +kernel
theorem dL_curves_131 : decode cL_curves 131 = .ok (.iload 6, 2) := by decide +kernel
theorem dL_curves_133 : decode cL_curves 133 = .ok (.ifCond .eq 65, 3) := by decide +kernel
theorem dL_curves_136 : decode cL_curves 136 = .ok (.aload_n 0, 1) := by decide +kernel
theorem dL_curves_137 : decode cL_curves 137 = .ok (.iload 7, 2) := by decide +kernel
theorem dL_curves_139 : decode cL_curves 139 = .ok (.iload 8, 2) := by decide +kernel
theorem dL_curves_141 : decode cL_curves 141 = .ok (.invokevirtual 67, 3) := by decide +kernel
theorem dL_curves_144 : decode cL_curves 144 = .ok (.aload_n 0, 1) := by decide +kernel
theorem dL_curves_145 : decode cL_curves 145 = .ok (.iload 7, 2) := by decide +kernel
theorem dL_curves_147 : decode cL_curves 147 = .ok (.iload 7, 2) := by decide +kernel
theorem dL_curves_149 : decode cL_curves 149 = .ok (.iload 8, 2) := by decide +kernel
theorem dL_curves_151 : decode cL_curves 151 = .ok (.isub, 1) := by decide +kernel
theorem dL_curves_152 : decode cL_curves 152 = .ok (.ifCond .ne 8, 3) := by decide +kernel
theorem dL_curves_155 : decode cL_curves 155 = .ok (.iload 7, 2) := by decide +kernel
theorem dL_curves_157 : decode cL_curves 157 = .ok (.goto 8, 3) := by decide +kernel
theorem dL_curves_160 : decode cL_curves 160 = .ok (.iload 7, 2) := by decide +kernel
theorem dL_curves_162 : decode cL_curves 162 = .ok (.iload 8, 2) := by decide +kernel
theorem dL_curves_164 : decode cL_curves 164 = .ok (.isub, 1) := by decide +kernel
theorem dL_curves_165 : decode cL_curves 165 = .ok (.invokevirtual 67, 3) := by decide +kernel
theorem dL_curves_168 : decode cL_curves 168 = .ok (.lcmp, 1) := by decide +kernel
theorem dL_curves_169 : decode cL_curves 169 = .ok (.ifCond .ne 29, 3) := by decide +kernel
theorem dL_curves_172 : decode cL_curves 172 = .ok (.aload_n 0, 1) := by decide +kernel
theorem dL_curves_173 : decode cL_curves 173 = .ok (.iload 7, 2) := by decide +kernel
theorem dL_curves_175 : decode cL_curves 175 = .ok (.iconst 0, 1) := by decide +kernel
theorem dL_curves_176 : decode cL_curves 176 = .ok (.iload 8, 2) := by decide +kernel
theorem dL_curves_178 : decode cL_curves 178 = .ok (.iconst 0, 1) := by decide +kernel
theorem dL_curves_179 : decode cL_curves 179 = .ok (.invokevirtual 60, 3) := by decide +kernel
theorem dL_curves_182 : decode cL_curves 182 = .ok (.aload_n 0, 1) := by decide +kernel
theorem dL_curves_183 : decode cL_curves 183 = .ok (.iload 7, 2) := by decide +kernel
theorem dL_curves_185 : decode cL_curves 185 = .ok (.iload 8, 2) := by decide +kernel
theorem dL_curves_187 : decode cL_curves 187 = .ok (.invokevirtual 67, 3) := by decide +kernel
theorem dL_curves_190 : decode cL_curves 190 = .ok (.lcmp, 1) := by decide +kernel
theorem dL_curves_191 : decode cL_curves 191 = .ok (.ifCond .ne 7, 3) := by decide +kernel
theorem dL_curves_194 : decode cL_curves 194 = .ok (.iconst 1, 1) := by decide +kernel
theorem dL_curves_195 : decode cL_curves 195 = .ok (.goto 4, 3) := by decide +kernel
theorem dL_curves_198 : decode cL_curves 198 = .ok (.iconst 0, 1) := by decide +kernel
theorem dL_curves_199 : decode cL_curves 199 = .ok (.istore 6, 2) := by decide +kernel
theorem dL_curves_201 : decode cL_curves 201 = .ok (.iload 6, 2) := by decide +kernel
theorem dL_curves_203 : decode cL_curves 203 = .ok (.ifCond .eq 59, 3) := by decide +kernel
theorem dL_curves_206 : decode cL_curves 206 = .ok (.iload 8, 2) := by decide +kernel
theorem dL_curves_208 : decode cL_curves 208 = .ok (.iconst 2, 1) := by decide +kernel
theorem dL_curves_209 : decode cL_curves 209 = .ok (.if_icmp .lt 49, 3) := by decide +kernel
theorem dL_curves_212 : decode cL_curves 212 = .ok (.aload_n 0, 1) := by decide +kernel
theorem dL_curves_213 : decode cL_curves 213 = .ok (.iload 7, 2) := by decide +kernel
theorem dL_curves_215 : decode cL_curves 215 = .ok (.iload 8, 2) := by decide +kernel
theorem dL_curves_217 : decode cL_curves 217 = .ok (.invokevirtual 67, 3) := by decide +kernel
theorem dL_curves_220 : decode cL_curves 220 = .ok (.aload_n 0, 1) := by decide +kernel
theorem dL_curves_221 : decode cL_curves 221 = .ok (.iload 7, 2) := by decide +kernel
theorem dL_curves_223 : decode cL_curves 223 = .ok (.iconst 1, 1) := by decide +kernel
theorem dL_curves_224 : decode cL_curves 224 = .ok (.isub, 1) := by decide +kernel
theorem dL_curves_225 : decode cL_curves 225 = .ok (.iload 8, 2) := by decide +kernel
theorem dL_curves_227 : decode cL_curves 227 = .ok (.iconst 1, 1) := by decide +kernel
theorem dL_curves_228 : decode cL_curves 228 = .ok (.isub, 1) := by decide +kernel
theorem dL_curves_229 : decode cL_curves 229 = .ok (.invokevirtual 67, 3) := by decide +kernel
theorem dL_curves_232 : decode cL_curves 232 = .ok (.iload 8, 2) := by decide +kernel
theorem dL_curves_234 : decode cL_curves 234 = .ok (.iload 7, 2) := by decide +kernel
theorem dL_curves_236 : decode cL_curves 236 = .ok (.if_icmp .ge 16, 3) := by decide +kernel
theorem dL_curves_239 : decode cL_curves 239 = .ok (.aload_n 0, 1) := by decide +kernel
theorem dL_curves_240 : decode cL_curves 240 = .ok (.iload 7, 2) := by decide +kernel
theorem dL_curves_242 : decode cL_curves 242 = .ok (.iconst 1, 1) := by decide +kernel
theorem dL_curves_243 : decode cL_curves 243 = .ok (.isub, 1) := by decide +kernel
theorem dL_curves_244 : decode cL_curves 244 = .ok (.iload 8, 2) := by decide +kernel
theorem dL_curves_246 : decode cL_curves 246 = .ok (.invokevirtual 67, 3) := by decide +kernel
theorem dL_curves_249 : decode cL_curves 249 = .ok (.goto 4, 3) := by decide +kernel
theorem dL_curves_252 : decode cL_curves 252 = .ok (.lconst 0, 1) := by decide +kernel
theorem dL_curves_253 : decode cL_curves 253 = .ok (.ladd, 1) := by decide +kernel
theorem dL_curves_254 : decode cL_curves 254 = .ok (.lcmp, 1) := by decide +kernel
theorem dL_curves_255 : decode cL_curves 255 = .ok (.ifCond .ne 7, 3) := by decide +kernel
theorem dL_curves_258 : decode cL_curves 258 = .ok (.iconst 1, 1) := by decide +kernel
theorem dL_curves_259 : decode cL_curves 259 = .ok (.goto 4, 3) := by decide +kernel
theorem dL_curves_262 : decode cL_curves 262 = .ok (.iconst 0, 1) := by decide +kernel
theorem dL_curves_263 : decode cL_curves 263 = .ok (.ireturn, 1) := by decide +kernel
end
section
theorem dL_law_0 : decode cL_law 0 = .ok (.new 10, 3) := by decide +kernel
theorem dL_law_3 : decode cL_law 3 = .ok (.dup, 1) := by decide +kernel
theorem dL_law_4 : decode cL_law 4 = .ok (.invokespecial 71, 3) := by decide +kernel
theorem dL_law_7 : decode cL_law 7 = .ok (.astore_n 1, 1) := by decide +kernel
theorem dL_law_8 : decode cL_law 8 = .ok (.aload_n 1, 1) := by decide +kernel
theorem dL_law_9 : decode cL_law 9 = .ok (.invokestatic 72, 3) := by decide +kernel
theorem dL_law_12 : decode cL_law 12 = .ok (.istore_n 2, 1) := by decide +kernel
theorem dL_law_13 : decode cL_law 13 = .ok (.iconst 3, 1) := by decide +kernel
theorem dL_law_14 : decode cL_law 14 = .ok (.aload_n 0, 1) := by decide +kernel
theorem dL_law_15 : decode cL_law 15 = .ok (.iconst 0, 1) := by decide +kernel
theorem dL_law_16 : decode cL_law 16 = .ok (.invokestatic 76, 3) := by decide +kernel
theorem dL_law_19 : decode cL_law 19 = .ok (.bipush 45, 2) := by decide +kernel
theorem dL_law_21 : decode cL_law 21 = .ok (.invokestatic 21, 3) := by decide +kernel
theorem dL_law_24 : decode cL_law 24 = .ok (.iadd, 1) := by decide +kernel
theorem dL_law_25 : decode cL_law 25 = .ok (.istore_n 3, 1) := by decide +kernel
theorem dL_law_26 : decode cL_law 26 = .ok (.iconst 0, 1) := by decide +kernel
theorem dL_law_27 : decode cL_law 27 = .ok (.istore 4, 2) := by decide +kernel
theorem dL_law_29 : decode cL_law 29 = .ok (.iload 4, 2) := by decide +kernel
theorem dL_law_31 : decode cL_law 31 = .ok (.iload_n 3, 1) := by decide +kernel
theorem dL_law_32 : decode cL_law 32 = .ok (.if_icmp .ge 420, 3) := by decide +kernel
theorem dL_law_35 : decode cL_law 35 = .ok (.iload_n 2, 1) := by decide +kernel
theorem dL_law_36 : decode cL_law 36 = .ok (.ifCond .eq 416, 3) := by decide +kernel
theorem dL_law_39 : decode cL_law 39 = .ok (.aload_n 0, 1) := by decide +kernel
theorem dL_law_40 : decode cL_law 40 = .ok (.iconst 1, 1) := by decide +kernel
theorem dL_law_41 : decode cL_law 41 = .ok (.iload 4, 2) := by decide +kernel
theorem dL_law_43 : decode cL_law 43 = .ok (.iadd, 1) := by decide +kernel
theorem dL_law_44 : decode cL_law 44 = .ok (.invokestatic 76, 3) := by decide +kernel
theorem dL_law_47 : decode cL_law 47 = .ok (.istore 5, 2) := by decide +kernel
theorem dL_law_49 : decode cL_law 49 = .ok (.aload_n 0, 1) := by decide +kernel
theorem dL_law_50 : decode cL_law 50 = .ok (.iconst 2, 1) := by decide +kernel
theorem dL_law_51 : decode cL_law 51 = .ok (.iload 4, 2) := by decide +kernel
theorem dL_law_53 : decode cL_law 53 = .ok (.iadd, 1) := by decide +kernel
theorem dL_law_54 : decode cL_law 54 = .ok (.invokestatic 76, 3) := by decide +kernel
theorem dL_law_57 : decode cL_law 57 = .ok (.istore 6, 2) := by decide +kernel
theorem dL_law_59 : decode cL_law 59 = .ok (.iload 5, 2) := by decide +kernel
theorem dL_law_61 : decode cL_law 61 = .ok (.bipush 20, 2) := by decide +kernel
theorem dL_law_63 : decode cL_law 63 = .ok (.ishr, 1) := by decide +kernel
theorem dL_law_64 : decode cL_law 64 = .ok (.bipush 12, 2) := by decide +kernel
theorem dL_law_66 : decode cL_law 66 = .ok (.invokestatic 21, 3) := by decide +kernel
theorem dL_law_69 : decode cL_law 69 = .ok (.istore 7, 2) := by decide +kernel
theorem dL_law_71 : decode cL_law 71 = .ok (.iload 7, 2) := by decide +kernel
theorem dL_law_73 : decode cL_law 73 = .ok (.bipush 7, 2) := by decide +kernel
theorem dL_law_75 : decode cL_law 75 = .ok (.if_icmp .ge 126, 3) := by decide +kernel
theorem dL_law_78 : decode cL_law 78 = .ok (.iload 5, 2) := by decide +kernel
theorem dL_law_80 : decode cL_law 80 = .ok (.iconst 3, 1) := by decide +kernel
theorem dL_law_81 : decode cL_law 81 = .ok (.ishr, 1) := by decide +kernel
theorem dL_law_82 : decode cL_law 82 = .ok (.sipush 200, 3) := by decide +kernel
theorem dL_law_85 : decode cL_law 85 = .ok (.invokestatic 21, 3) := by decide +kernel
theorem dL_law_88 : decode cL_law 88 = .ok (.istore 8, 2) := by decide +kernel
theorem dL_law_90 : decode cL_law 90 = .ok (.iconst 2, 1) := by decide +kernel
theorem dL_law_91 : decode cL_law 91 = .ok (.iload 6, 2) := by decide +kernel
theorem dL_law_93 : decode cL_law 93 = .ok (.iload 6, 2) := by decide +kernel
theorem dL_law_95 : decode cL_law 95 = .ok (.bipush 15, 2) := by decide +kernel
theorem dL_law_97 : decode cL_law 97 = .ok (.ishr, 1) := by decide +kernel
theorem dL_law_98 : decode cL_law 98 = .ok (.iconst 2, 1) := by decide +kernel
theorem dL_law_99 : decode cL_law 99 = .ok (.invokestatic 21, 3) := by decide +kernel
theorem dL_law_102 : decode cL_law 102 = .ok (.ifCond .ne 8, 3) := by decide +kernel
theorem dL_law_105 : decode cL_law 105 = .ok (.bipush 60, 2) := by decide +kernel
theorem dL_law_107 : decode cL_law 107 = .ok (.goto 6, 3) := by decide +kernel
theorem dL_law_110 : decode cL_law 110 = .ok (.sipush 4999, 3) := by decide +kernel
theorem dL_law_113 : decode cL_law 113 = .ok (.invokestatic 21, 3) := by decide +kernel
theorem dL_law_116 : decode cL_law 116 = .ok (.iadd, 1) := by decide +kernel
theorem dL_law_117 : decode cL_law 117 = .ok (.istore 9, 2) := by decide +kernel
theorem dL_law_119 : decode cL_law 119 = .ok (.iload 5, 2) := by decide +kernel
theorem dL_law_121 : decode cL_law 121 = .ok (.iload 6, 2) := by decide +kernel
theorem dL_law_123 : decode cL_law 123 = .ok (.invokestatic 80, 3) := by decide +kernel
theorem dL_law_126 : decode cL_law 126 = .ok (.lstore 10, 2) := by decide +kernel
theorem dL_law_128 : decode cL_law 128 = .ok (.aload_n 1, 1) := by decide +kernel
theorem dL_law_129 : decode cL_law 129 = .ok (.invokevirtual 30, 3) := by decide +kernel
theorem dL_law_132 : decode cL_law 132 = .ok (.istore 12, 2) := by decide +kernel
theorem dL_law_134 : decode cL_law 134 = .ok (.aload_n 1, 1) := by decide +kernel
theorem dL_law_135 : decode cL_law 135 = .ok (.iload 8, 2) := by decide +kernel
theorem dL_law_137 : decode cL_law 137 = .ok (.iload 9, 2) := by decide +kernel
theorem dL_law_139 : decode cL_law 139 = .ok (.lload 10, 2) := by decide +kernel
theorem dL_law_141 : decode cL_law 141 = .ok (.invokestatic 83, 3) := by decide +kernel
theorem dL_law_144 : decode cL_law 144 = .ok (.istore 13, 2) := by decide +kernel
theorem dL_law_146 : decode cL_law 146 = .ok (.iload 13, 2) := by decide +kernel
theorem dL_law_148 : decode cL_law 148 = .ok (.bipush (-2), 2) := by decide +kernel
theorem dL_law_150 : decode cL_law 150 = .ok (.if_icmp .ne 20, 3) := by decide +kernel
theorem dL_law_153 : decode cL_law 153 = .ok (.aload_n 1, 1) := by decide +kernel
theorem dL_law_154 : decode cL_law 154 = .ok (.invokevirtual 30, 3) := by decide +kernel
theorem dL_law_157 : decode cL_law 157 = .ok (.iload 12, 2) := by decide +kernel
theorem dL_law_159 : decode cL_law 159 = .ok (.if_icmp .ne 7, 3) := by decide +kernel
theorem dL_law_162 : decode cL_law 162 = .ok (.iconst 1, 1) := by decide +kernel
theorem dL_law_163 : decode cL_law 163 = .ok (.goto 34, 3) := by decide +kernel
theorem dL_law_166 : decode cL_law 166 = .ok (.iconst 0, 1) := by decide +kernel
theorem dL_law_167 : decode cL_law 167 = .ok (.goto 30, 3) := by decide +kernel
theorem dL_law_170 : decode cL_law 170 = .ok (.iload 13, 2) := by decide +kernel
theorem dL_law_172 : decode cL_law 172 = .ok (.iload 12, 2) := by decide +kernel
theorem dL_law_174 : decode cL_law 174 = .ok (.iconst 1, 1) := by decide +kernel
theorem dL_law_175 : decode cL_law 175 = .ok (.iadd, 1) := by decide +kernel
theorem dL_law_176 : decode cL_law 176 = .ok (.if_icmp .ne 20, 3) := by decide +kernel
theorem dL_law_179 : decode cL_law 179 = .ok (.aload_n 1, 1) := by decide +kernel
theorem dL_law_180 : decode cL_law 180 = .ok (.iload 8, 2) := by decide +kernel
theorem dL_law_182 : decode cL_law 182 = .ok (.iload 9, 2) := by decide +kernel
theorem dL_law_184 : decode cL_law 184 = .ok (.lload 10, 2) := by decide +kernel
theorem dL_law_186 : decode cL_law 186 = .ok (.invokestatic 86, 3) := by decide +kernel
theorem dL_law_189 : decode cL_law 189 = .ok (.ifCond .eq 7, 3) := by decide +kernel
theorem dL_law_192 : decode cL_law 192 = .ok (.iconst 1, 1) := by decide +kernel
theorem dL_law_193 : decode cL_law 193 = .ok (.goto 4, 3) := by decide +kernel
theorem dL_law_196 : decode cL_law 196 = .ok (.iconst 0, 1) := by decide +kernel
theorem dL_law_197 : decode cL_law 197 = .ok (.istore_n 2, 1) := by decide +kernel
theorem dL_law_198 : decode cL_law 198 = .ok (.goto 224, 3) := by decide +kernel
theorem dL_law_201 : decode cL_law 201 = .ok (.iload 7, 2) := by decide +kernel
theorem dL_law_203 : decode cL_law 203 = .ok (.bipush 8, 2) := by decide +kernel
theorem dL_law_205 : decode cL_law 205 = .ok (.if_icmp .ge 65, 3) := by decide +kernel
theorem dL_law_208 : decode cL_law 208 = .ok (.aload_n 1, 1) := by decide +kernel
theorem dL_law_209 : decode cL_law 209 = .ok (.invokevirtual 30, 3) := by decide +kernel
theorem dL_law_212 : decode cL_law 212 = .ok (.istore 8, 2) := by decide +kernel
theorem dL_law_214 : decode cL_law 214 = .ok (.aload_n 1, 1) := by decide +kernel
theorem dL_law_215 : decode cL_law 215 = .ok (.iload 5, 2) := by decide +kernel
theorem dL_law_217 : decode cL_law 217 = .ok (.sipush 200, 3) := by decide +kernel
theorem dL_law_220 : decode cL_law 220 = .ok (.invokestatic 21, 3) := by decide +kernel
theorem dL_law_223 : decode cL_law 223 = .ok (.invokestatic 90, 3) := by decide +kernel
theorem dL_law_226 : decode cL_law 226 = .ok (.istore 9, 2) := by decide +kernel
theorem dL_law_228 : decode cL_law 228 = .ok (.iload 9, 2) := by decide +kernel
theorem dL_law_230 : decode cL_law 230 = .ok (.bipush (-2), 2) := by decide +kernel
theorem dL_law_232 : decode cL_law 232 = .ok (.if_icmp .ne 20, 3) := by decide +kernel
theorem dL_law_235 : decode cL_law 235 = .ok (.aload_n 1, 1) := by decide +kernel
theorem dL_law_236 : decode cL_law 236 = .ok (.invokevirtual 30, 3) := by decide +kernel
theorem dL_law_239 : decode cL_law 239 = .ok (.iload 8, 2) := by decide +kernel
theorem dL_law_241 : decode cL_law 241 = .ok (.if_icmp .ne 7, 3) := by decide +kernel
theorem dL_law_244 : decode cL_law 244 = .ok (.iconst 1, 1) := by decide +kernel
theorem dL_law_245 : decode cL_law 245 = .ok (.goto 21, 3) := by decide +kernel
theorem dL_law_248 : decode cL_law 248 = .ok (.iconst 0, 1) := by decide +kernel
theorem dL_law_249 : decode cL_law 249 = .ok (.goto 17, 3) := by decide +kernel
theorem dL_law_252 : decode cL_law 252 = .ok (.iload 9, 2) := by decide +kernel
theorem dL_law_254 : decode cL_law 254 = .ok (.iload 8, 2) := by decide +kernel
theorem dL_law_256 : decode cL_law 256 = .ok (.iconst 1, 1) := by decide +kernel
theorem dL_law_257 : decode cL_law 257 = .ok (.isub, 1) := by decide +kernel
theorem dL_law_258 : decode cL_law 258 = .ok (.if_icmp .ne 7, 3) := by decide +kernel
theorem dL_law_261 : decode cL_law 261 = .ok (.iconst 1, 1) := by decide +kernel
theorem dL_law_262 : decode cL_law 262 = .ok (.goto 4, 3) := by decide +kernel
theorem dL_law_265 : decode cL_law 265 = .ok (.iconst 0, 1) := by decide +kernel
theorem dL_law_266 : decode cL_law 266 = .ok (.istore_n 2, 1) := by decide +kernel
theorem dL_law_267 : decode cL_law 267 = .ok (.goto 155, 3) := by decide +kernel
theorem dL_law_270 : decode cL_law 270 = .ok (.iload 7, 2) := by decide +kernel
theorem dL_law_272 : decode cL_law 272 = .ok (.bipush 9, 2) := by decide +kernel
theorem dL_law_274 : decode cL_law 274 = .ok (.if_icmp .ge 24, 3) := by decide +kernel
theorem dL_law_277 : decode cL_law 277 = .ok (.aload_n 1, 1) := by decide +kernel
theorem dL_law_278 : decode cL_law 278 = .ok (.iload 5, 2) := by decide +kernel
theorem dL_law_280 : decode cL_law 280 = .ok (.iconst 3, 1) := by decide +kernel
theorem dL_law_281 : decode cL_law 281 = .ok (.invokestatic 21, 3) := by decide +kernel
theorem dL_law_284 : decode cL_law 284 = .ok (.iload 5, 2) := by decide +kernel
theorem dL_law_286 : decode cL_law 286 = .ok (.iconst 2, 1) := by decide +kernel
theorem dL_law_287 : decode cL_law 287 = .ok (.ishr, 1) := by decide +kernel
theorem dL_law_288 : decode cL_law 288 = .ok (.iconst 4, 1) := by decide +kernel
theorem dL_law_289 : decode cL_law 289 = .ok (.invokestatic 21, 3) := by decide +kernel
theorem dL_law_292 : decode cL_law 292 = .ok (.invokevirtual 93, 3) := by decide +kernel
theorem dL_law_295 : decode cL_law 295 = .ok (.goto 127, 3) := by decide +kernel
theorem dL_law_298 : decode cL_law 298 = .ok (.iload 7, 2) := by decide +kernel
theorem dL_law_300 : decode cL_law 300 = .ok (.bipush 10, 2) := by decide +kernel
theorem dL_law_302 : decode cL_law 302 = .ok (.if_icmp .ge 65, 3) := by decide +kernel
theorem dL_law_305 : decode cL_law 305 = .ok (.aload_n 1, 1) := by decide +kernel
theorem dL_law_306 : decode cL_law 306 = .ok (.iload 5, 2) := by decide +kernel
theorem dL_law_308 : decode cL_law 308 = .ok (.iconst 2, 1) := by decide +kernel
theorem dL_law_309 : decode cL_law 309 = .ok (.invokestatic 21, 3) := by decide +kernel
theorem dL_law_312 : decode cL_law 312 = .ok (.ifCond .ne 7, 3) := by decide +kernel
theorem dL_law_315 : decode cL_law 315 = .ok (.iconst 1, 1) := by decide +kernel
theorem dL_law_316 : decode cL_law 316 = .ok (.goto 4, 3) := by decide +kernel
theorem dL_law_319 : decode cL_law 319 = .ok (.iconst 0, 1) := by decide +kernel
theorem dL_law_320 : decode cL_law 320 = .ok (.iload 5, 2) := by decide +kernel
theorem dL_law_322 : decode cL_law 322 = .ok (.iconst 1, 1) := by decide +kernel
theorem dL_law_323 : decode cL_law 323 = .ok (.ishr, 1) := by decide +kernel
theorem dL_law_324 : decode cL_law 324 = .ok (.iconst 2, 1) := by decide +kernel
theorem dL_law_325 : decode cL_law 325 = .ok (.invokestatic 21, 3) := by decide +kernel
theorem dL_law_328 : decode cL_law 328 = .ok (.ifCond .ne 7, 3) := by decide +kernel
theorem dL_law_331 : decode cL_law 331 = .ok (.iconst 1, 1) := by decide +kernel
theorem dL_law_332 : decode cL_law 332 = .ok (.goto 4, 3) := by decide +kernel
theorem dL_law_335 : decode cL_law 335 = .ok (.iconst 0, 1) := by decide +kernel
theorem dL_law_336 : decode cL_law 336 = .ok (.iload 5, 2) := by decide +kernel
theorem dL_law_338 : decode cL_law 338 = .ok (.iconst 2, 1) := by decide +kernel
theorem dL_law_339 : decode cL_law 339 = .ok (.ishr, 1) := by decide +kernel
theorem dL_law_340 : decode cL_law 340 = .ok (.iconst 3, 1) := by decide +kernel
theorem dL_law_341 : decode cL_law 341 = .ok (.invokestatic 21, 3) := by decide +kernel
theorem dL_law_344 : decode cL_law 344 = .ok (.ifCond .ne 7, 3) := by decide +kernel
theorem dL_law_347 : decode cL_law 347 = .ok (.iconst 0, 1) := by decide +kernel
theorem dL_law_348 : decode cL_law 348 = .ok (.goto 13, 3) := by decide +kernel
theorem dL_law_351 : decode cL_law 351 = .ok (.iconst 2, 1) := by decide +kernel
theorem dL_law_352 : decode cL_law 352 = .ok (.iload 5, 2) := by decide +kernel
theorem dL_law_354 : decode cL_law 354 = .ok (.iconst 4, 1) := by decide +kernel
theorem dL_law_355 : decode cL_law 355 = .ok (.ishr, 1) := by decide +kernel
theorem dL_law_356 : decode cL_law 356 = .ok (.iconst 4, 1) := by decide +kernel
theorem dL_law_357 : decode cL_law 357 = .ok (.invokestatic 21, 3) := by decide +kernel
theorem dL_law_360 : decode cL_law 360 = .ok (.iadd, 1) := by decide +kernel
theorem dL_law_361 : decode cL_law 361 = .ok (.invokevirtual 97, 3) := by decide +kernel
theorem dL_law_364 : decode cL_law 364 = .ok (.goto 58, 3) := by decide +kernel
theorem dL_law_367 : decode cL_law 367 = .ok (.iload 7, 2) := by decide +kernel
theorem dL_law_369 : decode cL_law 369 = .ok (.bipush 11, 2) := by decide +kernel
theorem dL_law_371 : decode cL_law 371 = .ok (.if_icmp .ge 44, 3) := by decide +kernel
theorem dL_law_374 : decode cL_law 374 = .ok (.iload 5, 2) := by decide +kernel
theorem dL_law_376 : decode cL_law 376 = .ok (.sipush 200, 3) := by decide +kernel
theorem dL_law_379 : decode cL_law 379 = .ok (.invokestatic 21, 3) := by decide +kernel
theorem dL_law_382 : decode cL_law 382 = .ok (.istore 8, 2) := by decide +kernel
theorem dL_law_384 : decode cL_law 384 = .ok (.aload_n 1, 1) := by decide +kernel
theorem dL_law_385 : decode cL_law 385 = .ok (.iload 8, 2) := by decide +kernel
theorem dL_law_387 : decode cL_law 387 = .ok (.invokevirtual 101, 3) := by decide +kernel
theorem dL_law_390 : decode cL_law 390 = .ok (.aload_n 1, 1) := by decide +kernel
theorem dL_law_391 : decode cL_law 391 = .ok (.iload 8, 2) := by decide +kernel
theorem dL_law_393 : decode cL_law 393 = .ok (.invokevirtual 101, 3) := by decide +kernel
theorem dL_law_396 : decode cL_law 396 = .ok (.if_icmp .eq 7, 3) := by decide +kernel
theorem dL_law_399 : decode cL_law 399 = .ok (.iconst 1, 1) := by decide +kernel
theorem dL_law_400 : decode cL_law 400 = .ok (.goto 4, 3) := by decide +kernel
theorem dL_law_403 : decode cL_law 403 = .ok (.iconst 0, 1) := by decide +kernel
theorem dL_law_404 : decode cL_law 404 = .ok (.istore_n 2, 1) := by decide +kernel
theorem dL_law_405 : decode cL_law 405 = .ok (.aload_n 1, 1) := by decide +kernel
theorem dL_law_406 : decode cL_law 406 = .ok (.iload 8, 2) := by decide +kernel
theorem dL_law_408 : decode cL_law 408 = .ok (.invokevirtual 101, 3) := by decide +kernel
theorem dL_law_411 : decode cL_law 411 = .ok (.pop, 1) := by decide +kernel
theorem dL_law_412 : decode cL_law 412 = .ok (.goto 10, 3) := by decide +kernel
theorem dL_law_415 : decode cL_law 415 = .ok (.aload_n 1, 1) := by decide +kernel
theorem dL_law_416 : decode cL_law 416 = .ok (.iload 5, 2) := by decide +kernel
theorem dL_law_418 : decode cL_law 418 = .ok (.invokestatic 105, 3) := by decide +kernel
theorem dL_law_421 : decode cL_law 421 = .ok (.istore_n 2, 1) := by decide +kernel
theorem dL_law_422 : decode cL_law 422 = .ok (.iload_n 2, 1) := by decide +kernel
theorem dL_law_423 : decode cL_law 423 = .ok (.ifCond .eq 21, 3) := by decide +kernel
theorem dL_law_426 : decode cL_law 426 = .ok (.iload 4, 2) := by decide +kernel
theorem dL_law_428 : decode cL_law 428 = .ok (.iconst 3, 1) := by decide +kernel
theorem dL_law_429 : decode cL_law 429 = .ok (.irem, 1) := by decide +kernel
theorem dL_law_430 : decode cL_law 430 = .ok (.ifCond .gt 10, 3) := by decide +kernel
theorem dL_law_433 : decode cL_law 433 = .ok (.aload_n 1, 1) := by decide +kernel
theorem dL_law_434 : decode cL_law 434 = .ok (.invokestatic 72, 3) := by decide +kernel
theorem dL_law_437 : decode cL_law 437 = .ok (.ifCond .eq 7, 3) := by decide +kernel
theorem dL_law_440 : decode cL_law 440 = .ok (.iconst 1, 1) := by decide +kernel
theorem dL_law_441 : decode cL_law 441 = .ok (.goto 4, 3) := by decide +kernel
theorem dL_law_444 : decode cL_law 444 = .ok (.iconst 0, 1) := by decide +kernel
theorem dL_law_445 : decode cL_law 445 = .ok (.istore_n 2, 1) := by decide +kernel
theorem dL_law_446 : decode cL_law 446 = .ok (.iinc 4 1, 3) := by decide +kernel
theorem dL_law_449 : decode cL_law 449 = .ok (.goto (-420), 3) := by decide +kernel
theorem dL_law_452 : decode cL_law 452 = .ok (.iload_n 2, 1) := by decide +kernel
theorem dL_law_453 : decode cL_law 453 = .ok (.ifCond .eq 14, 3) := by decide +kernel
theorem dL_law_456 : decode cL_law 456 = .ok (.aload_n 1, 1) := by decide +kernel
theorem dL_law_457 : decode cL_law 457 = .ok (.invokestatic 72, 3) := by decide +kernel
theorem dL_law_460 : decode cL_law 460 = .ok (.ifCond .eq 7, 3) := by decide +kernel
theorem dL_law_463 : decode cL_law 463 = .ok (.iconst 1, 1) := by decide +kernel
theorem dL_law_464 : decode cL_law 464 = .ok (.goto 4, 3) := by decide +kernel
theorem dL_law_467 : decode cL_law 467 = .ok (.iconst 0, 1) := by decide +kernel
theorem dL_law_468 : decode cL_law 468 = .ok (.ireturn, 1) := by decide +kernel
end
section
set_option maxRecDepth 20000 in
theorem ggL_record_X5_record : GoodIn wsL_record wsX5_record := goodIn_ca (goodIn_ca (goodIn_r _ [6, 7, 8, 9, 10, 11, 12, 13, 14, 15, 16, 17, 5, 18, 19, 20, 21, 22, 23, 24, 25, 26, 27, 28, 29, 30, 31, 32, 33, 34, 35, 36, 37, 38, 39, 40, 41, 42, 43, 44, 45, 46, 47, 48, 49, 50, 51, 52, 53, 54, 55, 56, 57, 58, 59, 60, 61, 62, 63, 64, 65, 66, 67, 68, 69, 70, 71, 72, 73, 74, 75, 76, 77, 78, 79, 80, 81, 82, 83, 84, 85, 86, 87, 88, 89, 90, 91, 92, 93, 94, 95, 96, 97, 98, 99, 100, 101, 102, 103, 104, 105, 106, 107, 108, 109, 110, 111, 112, 113, 114, 115, 116, 117, 118, 119, 120, 121, 122, 123, 124, 125, 126, 127, 128, 129, 130, 131, 132, 133, 134, 135, 136, 137, 138, 139, 140, 141, 142, 143, 144, 145, 146, 147, 148, 149, 150, 151, 152, 153, 154, 155, 156, 157, 158, 159, 160, 161, 162, 163, 164, 165, 166, 167, 168, 169, 170, 171, 172, 173, 174, 175, 176, 177, 178, 179, 180, 181, 182, 183, 184, 185, 186, 187, 188, 189, 190, 191, 192, 193, 194, 195, 196, 197, 198, 199, 200] (by decide +kernel) (by decide +kernel)) (goodIn_sub (fun _ h => List.mem_cons_of_mem _ (List.mem_append_left _ (List.mem_append_right _ h))) (by decide +kernel))) (goodIn_sub (fun _ h => List.mem_cons_of_mem _ (List.mem_append_right _ h)) (by decide +kernel))
set_option maxRecDepth 20000 in
theorem gL_record_X5_record : GoodIn wsL_record (wsV RL 9 RX5 yX5_record wsX5_record) := goodIn_app (goodIn_of _ (by decide +kernel)) ggL_record_X5_record
set_option maxRecDepth 20000 in
theorem ggL_strike_X5_strike : GoodIn wsL_strike wsX5_strike := goodIn_ca (goodIn_r _ [6, 7, 8, 9, 10, 11, 12, 5, 13, 14, 15, 16, 17, 18, 19, 20, 21, 22, 23, 24, 25, 26, 27, 28, 29, 30, 31, 32, 33, 34, 35, 36, 37, 38, 39, 40, 41, 42, 43, 44, 45, 46, 47, 48, 49, 50, 51, 52, 53, 54, 55, 56, 57, 58, 59, 60, 61, 62, 63, 64, 65, 66, 67, 68, 69, 70, 71, 72, 73, 74, 75, 76, 77, 78, 79, 80, 81, 82, 83, 84, 85, 86, 87, 88, 89, 90, 91, 92, 93, 94, 95, 96, 97, 98, 99, 100, 101, 102, 103, 104, 105, 106, 107, 108, 109, 110, 111, 112, 113, 114, 115, 116, 117, 118, 119, 120, 121, 122, 123, 124, 125, 126, 127, 128, 129, 130, 131, 132, 133, 134, 135, 136, 137, 138, 139, 140, 141, 142, 143, 144, 145, 146, 147, 148, 149, 150, 151, 152, 153, 154, 155, 156, 157, 158, 159, 160, 161, 162, 163, 164, 165, 166, 167, 168, 169, 170, 171, 172, 173, 174, 175, 176, 177, 178] (by decide +kernel) (by decide +kernel)) (goodIn_sub (fun _ h => List.mem_cons_of_mem _ (List.mem_append_right _ h)) (by decide +kernel))
set_option maxRecDepth 20000 in
theorem gL_strike_X5_strike : GoodIn wsL_strike (wsV RL 17 RX5 yX5_strike wsX5_strike) := goodIn_app (goodIn_of _ (by decide +kernel)) ggL_strike_X5_strike
set_option maxRecDepth 20000 in
theorem ggL_findings_L_low : GoodIn wsL_findings wsL_low := goodIn_r _ [4, 5] (by decide +kernel) (by decide +kernel)
set_option maxRecDepth 20000 in
theorem gL_findings_L_low : GoodIn wsL_findings (va_wsS RL 21 yL_low wsL_low) := goodIn_app (goodIn_of _ (by decide +kernel)) ggL_findings_L_low
set_option maxRecDepth 20000 in
theorem ggL_holds_X5_count : GoodIn wsL_holds wsX5_count := goodIn_ca (goodIn_r _ [5, 6, 7, 8, 9, 10, 11, 4, 12, 63, 64, 65, 66, 67, 68, 69, 70, 71, 72, 73, 74] (by decide +kernel) (by decide +kernel)) (goodIn_sub (fun _ h => List.mem_cons_of_mem _ (List.mem_append_left _ (List.mem_append_left _ (List.mem_append_right _ h)))) (by decide +kernel))
set_option maxRecDepth 20000 in
theorem gL_holds_X5_count : GoodIn wsL_holds (wsV RL 27 RX5 yX5_count wsX5_count) := goodIn_app (goodIn_of _ (by decide +kernel)) ggL_holds_X5_count
set_option maxRecDepth 20000 in
theorem ggL_holds_X5_lots : GoodIn wsL_holds wsX5_lots := goodIn_r _ [16, 17, 63, 64, 65, 66, 67] (by decide +kernel) (by decide +kernel)
set_option maxRecDepth 20000 in
theorem gL_holds_X5_lots : GoodIn wsL_holds (wsV RL 30 RX5 yX5_lots wsX5_lots) := goodIn_app (goodIn_of _ (by decide +kernel)) ggL_holds_X5_lots
set_option maxRecDepth 20000 in
theorem ggL_holds_X5_orderAt : GoodIn wsL_holds wsX5_orderAt := goodIn_ca (goodIn_r _ [21, 22, 23, 8, 63, 64, 65, 66, 67] (by decide +kernel) (by decide +kernel)) (goodIn_sub (fun _ h => List.mem_cons_of_mem _ (List.mem_append_left _ (List.mem_append_right _ h))) (by decide +kernel))
set_option maxRecDepth 20000 in
theorem gL_holds_X5_orderAt : GoodIn wsL_holds (wsV RL 34 RX5 yX5_orderAt wsX5_orderAt) := goodIn_app (goodIn_of _ (by decide +kernel)) ggL_holds_X5_orderAt
set_option maxRecDepth 20000 in
theorem ggL_holds_X5_verdict : GoodIn wsL_holds wsX5_verdict := goodIn_ca (goodIn_r _ [27, 28, 29, 9, 30, 31, 32, 4, 33, 8, 34, 35, 36, 68, 69, 70, 71, 72, 73, 74, 63, 64, 65, 66, 67] (by decide +kernel) (by decide +kernel)) (goodIn_sub (fun _ h => List.mem_cons_of_mem _ (List.mem_append_right _ h)) (by decide +kernel))
set_option maxRecDepth 20000 in
theorem gL_holds_X5_verdict : GoodIn wsL_holds (wsV RL 37 RX5 yX5_verdict wsX5_verdict) := goodIn_app (goodIn_of _ (by decide +kernel)) ggL_holds_X5_verdict
set_option maxRecDepth 20000 in
theorem ggL_holds_X5_stateAt : GoodIn wsL_holds wsX5_stateAt := goodIn_ca (goodIn_r _ [40, 28, 29, 41, 30, 31, 32, 4, 33, 8, 34, 35, 36, 68, 69, 70, 71, 72, 73, 74, 63, 64, 65, 66, 67] (by decide +kernel) (by decide +kernel)) (goodIn_sub (fun _ h => List.mem_cons_of_mem _ (List.mem_append_right _ h)) (by decide +kernel))
set_option maxRecDepth 20000 in
theorem gL_holds_X5_stateAt : GoodIn wsL_holds (wsV RL 40 RX5 yX5_stateAt wsX5_stateAt) := goodIn_app (goodIn_of _ (by decide +kernel)) ggL_holds_X5_stateAt
set_option maxRecDepth 20000 in
theorem ggL_holds_X5_inspected : GoodIn wsL_holds wsX5_inspected := goodIn_ca (goodIn_r _ [45, 28, 29, 46, 30, 31, 32, 4, 33, 8, 34, 35, 36, 68, 69, 70, 71, 72, 73, 74, 63, 64, 65, 66, 67] (by decide +kernel) (by decide +kernel)) (goodIn_sub (fun _ h => List.mem_cons_of_mem _ (List.mem_append_right _ h)) (by decide +kernel))
set_option maxRecDepth 20000 in
theorem gL_holds_X5_inspected : GoodIn wsL_holds (wsV RL 43 RX5 yX5_inspected wsX5_inspected) := goodIn_app (goodIn_of _ (by decide +kernel)) ggL_holds_X5_inspected
set_option maxRecDepth 20000 in
theorem ggL_holds_X5_badIn : GoodIn wsL_holds wsX5_badIn := goodIn_ca (goodIn_r _ [50, 28, 29, 51, 30, 31, 32, 4, 33, 8, 34, 35, 36, 68, 69, 70, 71, 72, 73, 74, 63, 64, 65, 66, 67] (by decide +kernel) (by decide +kernel)) (goodIn_sub (fun _ h => List.mem_cons_of_mem _ (List.mem_append_right _ h)) (by decide +kernel))
set_option maxRecDepth 20000 in
theorem gL_holds_X5_badIn : GoodIn wsL_holds (wsV RL 46 RX5 yX5_badIn wsX5_badIn) := goodIn_app (goodIn_of _ (by decide +kernel)) ggL_holds_X5_badIn
set_option maxRecDepth 20000 in
theorem ggL_holds_X5_state : GoodIn wsL_holds wsX5_state := goodIn_r _ [55, 56, 57, 63, 64, 65, 66, 67, 75, 76, 77, 78, 79, 80, 81, 82] (by decide +kernel) (by decide +kernel)
set_option maxRecDepth 20000 in
theorem gL_holds_X5_state : GoodIn wsL_holds (wsV RL 49 RX5 yX5_state wsX5_state) := goodIn_app (goodIn_of _ (by decide +kernel)) ggL_holds_X5_state
set_option maxRecDepth 20000 in
theorem ggL_holds_X5_isSkipping : GoodIn wsL_holds wsX5_isSkipping := goodIn_r _ [61, 56, 62, 63, 64, 65, 66, 67, 75, 76, 77, 78, 79, 80, 81, 82] (by decide +kernel) (by decide +kernel)
set_option maxRecDepth 20000 in
theorem gL_holds_X5_isSkipping : GoodIn wsL_holds (wsV RL 52 RX5 yX5_isSkipping wsX5_isSkipping) := goodIn_app (goodIn_of _ (by decide +kernel)) ggL_holds_X5_isSkipping
set_option maxRecDepth 20000 in
theorem ggL_again_X5_verdict : GoodIn wsL_again wsX5_verdict := goodIn_ca (goodIn_r _ [5, 6, 7, 8, 9, 10, 11, 4, 12, 13, 14, 15, 16, 201, 202, 203, 204, 205, 206, 207, 208, 209, 210, 211, 212] (by decide +kernel) (by decide +kernel)) (goodIn_sub (fun _ h => List.mem_cons_of_mem _ (List.mem_append_left _ (List.mem_append_right _ h))) (by decide +kernel))
set_option maxRecDepth 20000 in
theorem gL_again_X5_verdict : GoodIn wsL_again (wsV RL 37 RX5 yX5_verdict wsX5_verdict) := goodIn_app (goodIn_of _ (by decide +kernel)) ggL_again_X5_verdict
set_option maxRecDepth 20000 in
theorem ggL_again_X5_state : GoodIn wsL_again wsX5_state := goodIn_r _ [20, 21, 22, 208, 209, 210, 211, 212, 213, 214, 215, 216, 217, 218, 219, 220] (by decide +kernel) (by decide +kernel)
set_option maxRecDepth 20000 in
theorem gL_again_X5_state : GoodIn wsL_again (wsV RL 49 RX5 yX5_state wsX5_state) := goodIn_app (goodIn_of _ (by decide +kernel)) ggL_again_X5_state
set_option maxRecDepth 20000 in
theorem ggL_again_X5_lots : GoodIn wsL_again wsX5_lots := goodIn_r _ [26, 27, 208, 209, 210, 211, 212] (by decide +kernel) (by decide +kernel)
set_option maxRecDepth 20000 in
theorem gL_again_X5_lots : GoodIn wsL_again (wsV RL 30 RX5 yX5_lots wsX5_lots) := goodIn_app (goodIn_of _ (by decide +kernel)) ggL_again_X5_lots
set_option maxRecDepth 20000 in
theorem ggL_again_X5_correct : GoodIn wsL_again wsX5_correct := goodIn_ca (goodIn_ca (goodIn_r _ [31, 32, 33, 6, 7, 34, 35, 36, 4, 37, 38, 9, 10, 11, 12, 13, 14, 15, 16, 39, 40, 41, 42, 21, 43, 44, 45, 46, 47, 48, 49, 50, 51, 52, 53, 54, 55, 56, 57, 58, 59, 60, 61, 62, 63, 64, 65, 66, 67, 68, 69, 70, 71, 72, 73, 74, 75, 76, 77, 78, 79, 80, 81, 82, 83, 84, 85, 86, 87, 88, 89, 90, 91, 92, 93, 94, 95, 96, 97, 98, 99, 100, 101, 102, 103, 104, 105, 106, 107, 108, 109, 110, 111, 112, 113, 114, 115, 116, 117, 118, 119, 120, 121, 122, 123, 124, 125, 126, 127, 128, 129, 130, 131, 132, 133, 134, 135, 136, 137, 138, 139, 140, 141, 142, 143, 144, 145, 146, 147, 148, 149, 150, 151, 152, 153, 154, 155, 156, 157, 158, 159, 160, 161, 162, 163, 164, 165, 166, 167, 168, 169, 170, 171, 172, 173, 174, 175, 176, 201, 202, 203, 204, 205, 206, 207, 208, 209, 210, 211, 212, 213, 214, 215, 216, 217, 218, 219, 220, 221, 222, 223, 224, 225, 226] (by decide +kernel) (by decide +kernel)) (goodIn_sub (fun _ h => List.mem_cons_of_mem _ (List.mem_append_right _ h)) (by decide +kernel))) (goodIn_sub (fun _ h => List.mem_cons_of_mem _ (List.mem_append_left _ (List.mem_append_right _ h))) (by decide +kernel))
set_option maxRecDepth 20000 in
theorem gL_again_X5_correct : GoodIn wsL_again (wsV RL 56 RX5 yX5_correct wsX5_correct) := goodIn_app (goodIn_of _ (by decide +kernel)) ggL_again_X5_correct
set_option maxRecDepth 20000 in
theorem ggL_again_X5_strike : GoodIn wsL_again wsX5_strike := goodIn_ca (goodIn_r _ [180, 6, 7, 13, 27, 14, 15, 4, 16, 39, 40, 41, 42, 21, 43, 44, 45, 46, 47, 48, 49, 50, 51, 52, 53, 54, 55, 56, 57, 58, 59, 60, 61, 62, 63, 64, 65, 66, 67, 68, 69, 70, 71, 72, 73, 74, 75, 76, 77, 78, 79, 80, 81, 82, 83, 84, 85, 86, 87, 88, 89, 90, 91, 92, 93, 94, 95, 96, 97, 98, 99, 100, 101, 102, 103, 104, 105, 106, 107, 108, 109, 110, 111, 112, 113, 114, 115, 116, 117, 118, 119, 120, 121, 122, 123, 124, 125, 126, 127, 128, 129, 130, 131, 132, 133, 134, 135, 136, 137, 138, 139, 140, 141, 142, 143, 144, 145, 146, 147, 148, 149, 150, 151, 152, 153, 154, 155, 156, 157, 158, 159, 160, 161, 162, 163, 164, 165, 166, 167, 168, 169, 170, 171, 172, 173, 174, 175, 176, 208, 209, 210, 211, 212, 213, 214, 215, 216, 217, 218, 219, 220, 221, 222, 223, 201, 202, 203, 204, 205, 206, 207, 224, 225, 226] (by decide +kernel) (by decide +kernel)) (goodIn_sub (fun _ h => List.mem_cons_of_mem _ (List.mem_append_left _ (List.mem_append_right _ h))) (by decide +kernel))
set_option maxRecDepth 20000 in
theorem gL_again_X5_strike : GoodIn wsL_again (wsV RL 17 RX5 yX5_strike wsX5_strike) := goodIn_app (goodIn_of _ (by decide +kernel)) ggL_again_X5_strike
set_option maxRecDepth 20000 in
theorem ggL_again_X5_record : GoodIn wsL_again wsX5_record := goodIn_ca (goodIn_ca (goodIn_r _ [184, 32, 33, 6, 7, 13, 27, 185, 186, 74, 14, 15, 4, 16, 187, 188, 189, 190, 191, 192, 35, 36, 37, 38, 193, 194, 195, 196, 197, 198, 199, 200, 123, 39, 40, 41, 42, 21, 43, 44, 45, 46, 47, 48, 49, 50, 51, 52, 53, 54, 55, 56, 57, 58, 59, 60, 61, 62, 63, 64, 65, 66, 67, 68, 69, 70, 71, 72, 73, 75, 76, 77, 78, 79, 80, 81, 82, 83, 84, 85, 86, 87, 88, 89, 90, 91, 92, 93, 94, 95, 96, 97, 98, 99, 100, 101, 102, 103, 104, 105, 106, 107, 108, 109, 110, 111, 112, 113, 114, 115, 116, 117, 118, 119, 120, 121, 122, 124, 125, 126, 127, 128, 129, 130, 131, 132, 133, 134, 135, 136, 137, 138, 139, 140, 141, 142, 143, 144, 145, 146, 147, 148, 149, 150, 151, 152, 153, 154, 155, 156, 157, 158, 159, 160, 161, 162, 163, 164, 165, 166, 167, 168, 169, 170, 171, 172, 173, 174, 175, 176, 208, 209, 210, 211, 212, 201, 202, 203, 204, 205, 206, 207, 213, 214, 215, 216, 217, 218, 219, 220, 221, 222, 223, 224, 225, 226] (by decide +kernel) (by decide +kernel)) (goodIn_sub (fun _ h => List.mem_cons_of_mem _ (List.mem_append_right _ h)) (by decide +kernel))) (goodIn_sub (fun _ h => List.mem_cons_of_mem _ (List.mem_append_left _ (List.mem_append_right _ h))) (by decide +kernel))
set_option maxRecDepth 20000 in
theorem gL_again_X5_record : GoodIn wsL_again (wsV RL 9 RX5 yX5_record wsX5_record) := goodIn_app (goodIn_of _ (by decide +kernel)) ggL_again_X5_record
set_option maxRecDepth 20000 in
theorem ggL_curves_L_low : GoodIn wsL_curves wsL_low := goodIn_r _ [4, 5] (by decide +kernel) (by decide +kernel)
set_option maxRecDepth 20000 in
theorem gL_curves_L_low : GoodIn wsL_curves (va_wsS RL 21 yL_low wsL_low) := goodIn_app (goodIn_of _ (by decide +kernel)) ggL_curves_L_low
set_option maxRecDepth 20000 in
theorem ggL_curves_X5_accepted : GoodIn wsL_curves wsX5_accepted := goodIn_ca (goodIn_r _ [10, 11, 12, 13, 14, 9, 15, 16, 17, 18, 19, 20, 21, 22, 23, 24, 25] (by decide +kernel) (by decide +kernel)) (goodIn_sub (fun _ h => List.mem_cons_of_mem _ (List.mem_append_right _ h)) (by decide +kernel))
set_option maxRecDepth 20000 in
theorem gL_curves_X5_accepted : GoodIn wsL_curves (wsV RL 60 RX5 yX5_accepted wsX5_accepted) := goodIn_app (goodIn_of _ (by decide +kernel)) ggL_curves_X5_accepted
set_option maxRecDepth 20000 in
theorem ggL_curves_X5_acceptedByListing : GoodIn wsL_curves wsX5_acceptedByListing := goodIn_ca (goodIn_r _ [29, 11, 12, 13, 14, 9, 15, 30, 31, 18, 32, 33, 34, 35, 36, 37, 38, 39, 40, 41, 42, 43] (by decide +kernel) (by decide +kernel)) (goodIn_sub (fun _ h => List.mem_cons_of_mem _ (List.mem_append_right _ h)) (by decide +kernel))
set_option maxRecDepth 20000 in
theorem gL_curves_X5_acceptedByListing : GoodIn wsL_curves (wsV RL 64 RX5 yX5_acceptedByListing wsX5_acceptedByListing) := goodIn_app (goodIn_of _ (by decide +kernel)) ggL_curves_X5_acceptedByListing
set_option maxRecDepth 20000 in
theorem ggL_curves_X5_samples : GoodIn wsL_curves wsX5_samples := goodIn_ca (goodIn_r _ [47, 11, 12, 13, 14, 9, 15, 48, 24, 18, 25] (by decide +kernel) (by decide +kernel)) (goodIn_sub (fun _ h => List.mem_cons_of_mem _ (List.mem_append_right _ h)) (by decide +kernel))
set_option maxRecDepth 20000 in
theorem gL_curves_X5_samples : GoodIn wsL_curves (wsV RL 67 RX5 yX5_samples wsX5_samples) := goodIn_app (goodIn_of _ (by decide +kernel)) ggL_curves_X5_samples
set_option maxRecDepth 20000 in
theorem ggL_law_X5_init : GoodIn wsL_law wsX5_init := goodIn_r _ [5, 6, 7, 8, 9, 10, 11, 12, 13, 14, 15, 16, 17, 18, 19, 20, 21, 22, 23, 24, 25, 26, 27, 28, 29, 30, 31, 32, 33, 34, 35, 36, 37, 38, 335, 336, 337, 338, 339, 340, 341, 342, 343, 344, 345, 346, 347, 348, 349, 350, 351, 352, 353] (by decide +kernel) (by decide +kernel)
set_option maxRecDepth 20000 in
theorem gL_law_X5_init : GoodIn wsL_law (wsX5_init) := ggL_law_X5_init
set_option maxRecDepth 20000 in
theorem ggL_law_L_holds : GoodIn wsL_law wsL_holds := goodIn_ca (goodIn_ca (goodIn_ca (goodIn_r _ [42, 43, 44, 45, 2, 46, 47, 48, 10, 49, 50, 51, 52, 53, 54, 55, 56, 57, 58, 59, 60, 61, 62, 63, 64, 65, 66, 67, 68, 69, 70, 71, 72, 73, 74, 75, 76, 77, 78, 79, 80, 81, 82, 83, 84, 85, 86, 87, 88, 89, 90, 91, 92, 93, 94, 95, 20, 96, 97, 98, 99, 100, 101, 335, 336, 337, 338, 339, 354, 355, 356, 357, 358, 359, 360, 343, 344, 345, 346, 347, 348, 349, 350] (by decide +kernel) (by decide +kernel)) (goodIn_sub (fun _ h => List.mem_append_left _ (List.mem_append_left _ (List.mem_append_right _ h))) (by decide +kernel))) (goodIn_sub (fun _ h => List.mem_append_left _ (List.mem_append_right _ h)) (by decide +kernel))) (goodIn_sub (fun _ h => List.mem_append_right _ h) (by decide +kernel))
set_option maxRecDepth 20000 in
theorem gL_law_L_holds : GoodIn wsL_law (va_wsS RL 72 yL_holds wsL_holds) := goodIn_app (goodIn_of _ (by decide +kernel)) ggL_law_L_holds
set_option maxRecDepth 20000 in
theorem ggL_law_L_cell : GoodIn wsL_law wsL_cell := goodIn_r _ [104, 105] (by decide +kernel) (by decide +kernel)
set_option maxRecDepth 20000 in
theorem gL_law_L_cell : GoodIn wsL_law (va_wsS RL 76 yL_cell wsL_cell) := goodIn_app (goodIn_of _ (by decide +kernel)) ggL_law_L_cell
set_option maxRecDepth 20000 in
theorem ggL_law_L_low : GoodIn wsL_law wsL_low := goodIn_r _ [108, 109] (by decide +kernel) (by decide +kernel)
set_option maxRecDepth 20000 in
theorem gL_law_L_low : GoodIn wsL_law (va_wsS RL 21 yL_low wsL_low) := goodIn_app (goodIn_of _ (by decide +kernel)) ggL_law_L_low
set_option maxRecDepth 20000 in
theorem ggL_law_L_findings : GoodIn wsL_law wsL_findings := goodIn_r _ [112, 106, 107, 41, 108, 109] (by decide +kernel) (by decide +kernel)
set_option maxRecDepth 20000 in
theorem gL_law_L_findings : GoodIn wsL_law (va_wsS RL 80 yL_findings wsL_findings) := goodIn_app (goodIn_of _ (by decide +kernel)) ggL_law_L_findings
set_option maxRecDepth 20000 in
theorem ggL_law_X5_lots : GoodIn wsL_law wsX5_lots := goodIn_r _ [56, 57, 335, 336, 337, 338, 339] (by decide +kernel) (by decide +kernel)
set_option maxRecDepth 20000 in
theorem gL_law_X5_lots : GoodIn wsL_law (wsV RL 30 RX5 yX5_lots wsX5_lots) := goodIn_app (goodIn_of _ (by decide +kernel)) ggL_law_X5_lots
set_option maxRecDepth 20000 in
theorem ggL_law_L_record : GoodIn wsL_law wsL_record := goodIn_ca (goodIn_ca (goodIn_r _ [115, 116, 117, 118, 119, 2, 120, 47, 48, 68, 69, 10, 57, 9, 121, 122, 74, 75, 76, 123, 124, 125, 50, 51, 52, 126, 127, 128, 129, 130, 131, 132, 133, 7, 8, 134, 135, 136, 137, 138, 139, 140, 20, 12, 16, 141, 142, 143, 19, 144, 145, 146, 147, 148, 149, 150, 151, 32, 152, 153, 154, 31, 155, 156, 157, 158, 159, 160, 161, 162, 163, 164, 165, 166, 167, 168, 169, 170, 171, 172, 173, 174, 175, 176, 177, 178, 179, 15, 180, 181, 182, 183, 184, 185, 186, 187, 188, 189, 190, 191, 24, 192, 193, 194, 195, 196, 197, 198, 199, 200, 25, 201, 202, 203, 204, 205, 206, 207, 208, 209, 210, 211, 212, 213, 214, 215, 216, 217, 218, 219, 220, 221, 222, 223, 224, 225, 226, 36, 227, 38, 228, 229, 230, 231, 232, 233, 234, 235, 236, 237, 238, 239, 240, 241, 242, 243, 244, 245, 246, 247, 248, 249, 250, 251, 252, 253, 254, 255, 256, 257, 258, 259, 260, 261, 262, 335, 336, 337, 338, 339, 354, 355, 356, 357, 358, 359, 360, 343, 344, 345, 346, 347, 348, 349, 350, 351, 352, 353, 340, 341, 342] (by decide +kernel) (by decide +kernel)) (goodIn_sub (fun _ h => List.mem_append_left _ (List.mem_append_left _ (List.mem_append_right _ h))) (by decide +kernel))) (goodIn_sub (fun _ h => List.mem_append_right _ h) (by decide +kernel))
set_option maxRecDepth 20000 in
theorem gL_law_L_record : GoodIn wsL_law (va_wsS RL 83 yL_record wsL_record) := goodIn_app (goodIn_of _ (by decide +kernel)) ggL_law_L_record
set_option maxRecDepth 20000 in
theorem ggL_law_L_again : GoodIn wsL_law wsL_again := goodIn_ca (goodIn_ca (goodIn_r _ [265, 64, 65, 66, 2, 67, 68, 69, 49, 70, 71, 72, 73, 10, 74, 75, 76, 92, 93, 94, 95, 20, 96, 53, 54, 55, 56, 57, 266, 267, 268, 269, 47, 48, 270, 126, 127, 128, 129, 137, 138, 139, 140, 12, 16, 141, 142, 143, 19, 144, 145, 146, 147, 148, 149, 150, 151, 32, 152, 153, 154, 31, 155, 156, 157, 158, 159, 160, 161, 162, 163, 164, 165, 166, 122, 167, 168, 169, 170, 171, 172, 173, 174, 175, 176, 177, 178, 179, 15, 180, 181, 182, 183, 184, 185, 186, 187, 188, 189, 190, 191, 24, 192, 193, 194, 195, 196, 197, 198, 199, 200, 25, 201, 202, 203, 204, 205, 206, 207, 208, 209, 210, 211, 136, 212, 213, 214, 215, 216, 217, 218, 219, 220, 221, 222, 223, 224, 225, 226, 36, 227, 38, 228, 229, 230, 231, 232, 233, 234, 235, 236, 237, 238, 239, 240, 241, 242, 243, 244, 245, 246, 247, 248, 249, 250, 251, 252, 253, 254, 255, 256, 257, 258, 259, 260, 261, 262, 271, 272, 273, 274, 117, 118, 119, 120, 9, 121, 123, 124, 125, 50, 51, 52, 130, 131, 132, 133, 7, 8, 134, 135, 354, 355, 356, 357, 358, 359, 360, 335, 336, 337, 338, 339, 343, 344, 345, 346, 347, 348, 349, 350, 351, 352, 353, 340, 341, 342] (by decide +kernel) (by decide +kernel)) (goodIn_sub (fun _ h => List.mem_append_right _ h) (by decide +kernel))) (goodIn_sub (fun _ h => List.mem_append_left _ (List.mem_append_left _ (List.mem_append_right _ h))) (by decide +kernel))
set_option maxRecDepth 20000 in
theorem gL_law_L_again : GoodIn wsL_law (va_wsS RL 86 yL_again wsL_again) := goodIn_app (goodIn_of _ (by decide +kernel)) ggL_law_L_again
set_option maxRecDepth 20000 in
theorem ggL_law_L_strike : GoodIn wsL_law wsL_strike := goodIn_ca (goodIn_r _ [277, 116, 271, 272, 273, 2, 274, 68, 69, 10, 57, 74, 75, 76, 137, 138, 139, 140, 20, 12, 16, 141, 142, 143, 19, 144, 145, 146, 147, 148, 149, 150, 151, 32, 152, 153, 154, 31, 155, 156, 157, 158, 159, 160, 161, 162, 163, 164, 165, 166, 122, 167, 168, 169, 170, 171, 172, 173, 174, 175, 176, 177, 178, 179, 15, 180, 181, 182, 183, 184, 185, 186, 187, 188, 189, 190, 191, 24, 192, 193, 194, 195, 196, 197, 198, 199, 200, 25, 201, 202, 203, 204, 205, 206, 207, 208, 209, 210, 211, 136, 212, 213, 214, 215, 216, 217, 218, 219, 220, 221, 222, 223, 224, 225, 226, 36, 227, 38, 228, 229, 230, 231, 232, 233, 234, 235, 236, 237, 238, 239, 240, 241, 242, 243, 244, 245, 246, 247, 248, 249, 250, 251, 252, 253, 254, 255, 256, 257, 258, 259, 260, 261, 262, 335, 336, 337, 338, 339, 343, 344, 345, 346, 347, 348, 349, 350, 351, 352, 353, 354, 355, 356, 357, 358, 359, 360, 340, 341, 342] (by decide +kernel) (by decide +kernel)) (goodIn_sub (fun _ h => List.mem_append_right _ h) (by decide +kernel))
set_option maxRecDepth 20000 in
theorem gL_law_L_strike : GoodIn wsL_law (va_wsS RL 90 yL_strike wsL_strike) := goodIn_app (goodIn_of _ (by decide +kernel)) ggL_law_L_strike
set_option maxRecDepth 20000 in
theorem ggL_law_X5_setPlan : GoodIn wsL_law wsX5_setPlan := goodIn_ca (goodIn_r _ [281, 47, 48, 16, 282, 283, 50, 51, 2, 52, 137, 138, 139, 140, 20, 12, 10, 141, 142, 143, 19, 144, 145, 146, 147, 148, 149, 150, 151, 32, 152, 153, 154, 31, 155, 156, 157, 158, 159, 160, 161, 162, 163, 164, 165, 166, 122, 167, 168, 169, 170, 171, 172, 173, 174, 175, 176, 177, 178, 179, 15, 180, 181, 182, 183, 184, 185, 186, 187, 188, 189, 190, 191, 24, 192, 193, 194, 195, 196, 197, 198, 199, 200, 25, 201, 202, 203, 204, 205, 206, 207, 208, 209, 210, 211, 136, 212, 213, 214, 215, 216, 217, 218, 219, 220, 221, 222, 223, 224, 225, 226, 36, 227, 38, 228, 229, 230, 231, 232, 233, 234, 235, 236, 237, 238, 239, 240, 241, 242, 243, 244, 245, 246, 247, 248, 249, 250, 251, 252, 253, 254, 255, 256, 257, 258, 259, 260, 261, 262, 335, 336, 337, 338, 339, 340, 341, 342, 343, 344, 345, 346, 347, 348, 349, 350, 351, 352, 353, 354, 355, 356, 357, 358, 359, 360] (by decide +kernel) (by decide +kernel)) (goodIn_sub (fun _ h => List.mem_append_left _ (List.mem_append_left _ (List.mem_append_right _ h))) (by decide +kernel))
set_option maxRecDepth 20000 in
theorem gL_law_X5_setPlan : GoodIn wsL_law (wsV RL 93 RX5 yX5_setPlan wsX5_setPlan) := goodIn_app (goodIn_of _ (by decide +kernel)) ggL_law_X5_setPlan
set_option maxRecDepth 20000 in
theorem ggL_law_X5_setWays : GoodIn wsL_law wsX5_setWays := goodIn_ca (goodIn_r _ [287, 47, 48, 16, 288, 20, 289, 290, 50, 51, 2, 52, 137, 138, 139, 140, 12, 10, 141, 142, 143, 19, 144, 145, 146, 147, 148, 149, 150, 151, 32, 152, 153, 154, 31, 155, 156, 157, 158, 159, 160, 161, 162, 163, 164, 165, 166, 122, 167, 168, 169, 170, 171, 172, 173, 174, 175, 176, 177, 178, 179, 15, 180, 181, 182, 183, 184, 185, 186, 187, 188, 189, 190, 191, 24, 192, 193, 194, 195, 196, 197, 198, 199, 200, 25, 201, 202, 203, 204, 205, 206, 207, 208, 209, 210, 211, 136, 212, 213, 214, 215, 216, 217, 218, 219, 220, 221, 222, 223, 224, 225, 226, 36, 227, 38, 228, 229, 230, 231, 232, 233, 234, 235, 236, 237, 238, 239, 240, 241, 242, 243, 244, 245, 246, 247, 248, 249, 250, 251, 252, 253, 254, 255, 256, 257, 258, 259, 260, 261, 262, 335, 336, 337, 338, 339, 340, 341, 342, 343, 344, 345, 346, 347, 348, 349, 350, 351, 352, 353, 354, 355, 356, 357, 358, 359, 360] (by decide +kernel) (by decide +kernel)) (goodIn_sub (fun _ h => List.mem_append_left _ (List.mem_append_left _ (List.mem_append_right _ h))) (by decide +kernel))
set_option maxRecDepth 20000 in
theorem gL_law_X5_setWays : GoodIn wsL_law (wsV RL 97 RX5 yX5_setWays wsX5_setWays) := goodIn_app (goodIn_of _ (by decide +kernel)) ggL_law_X5_setWays
set_option maxRecDepth 20000 in
theorem ggL_law_X5_toggleMark : GoodIn wsL_law wsX5_toggleMark := goodIn_ca (goodIn_r _ [294, 47, 48, 12, 74, 75, 2, 76, 137, 138, 139, 140, 20, 10, 16, 141, 142, 143, 19, 144, 145, 146, 147, 148, 149, 150, 151, 32, 152, 153, 154, 31, 155, 156, 157, 158, 159, 160, 161, 162, 163, 164, 165, 166, 122, 167, 168, 169, 170, 171, 172, 173, 174, 175, 176, 177, 178, 179, 15, 180, 181, 182, 183, 184, 185, 186, 187, 188, 189, 190, 191, 24, 192, 193, 194, 195, 196, 197, 198, 199, 200, 25, 201, 202, 203, 204, 205, 206, 207, 208, 209, 210, 211, 136, 212, 213, 214, 215, 216, 217, 218, 219, 220, 221, 222, 223, 224, 225, 226, 36, 227, 38, 228, 229, 230, 231, 232, 233, 234, 235, 236, 237, 238, 239, 240, 241, 242, 243, 244, 245, 246, 247, 248, 249, 250, 251, 252, 253, 254, 255, 256, 257, 258, 259, 260, 261, 262, 335, 336, 337, 338, 339, 343, 344, 345, 346, 347, 348, 349, 350, 351, 352, 353, 354, 355, 356, 357, 358, 359, 360, 340, 341, 342] (by decide +kernel) (by decide +kernel)) (goodIn_sub (fun _ h => List.mem_append_left _ (List.mem_append_left _ (List.mem_append_right _ h))) (by decide +kernel))
set_option maxRecDepth 20000 in
theorem gL_law_X5_toggleMark : GoodIn wsL_law (wsV RL 101 RX5 yX5_toggleMark wsX5_toggleMark) := goodIn_app (goodIn_of _ (by decide +kernel)) ggL_law_X5_toggleMark
set_option maxRecDepth 20000 in
theorem ggL_law_L_curves : GoodIn wsL_law wsL_curves := goodIn_ca (goodIn_r _ [297, 106, 107, 41, 108, 109, 298, 299, 300, 2, 301, 47, 48, 50, 51, 52, 302, 303, 304, 305, 306, 307, 308, 309, 310, 311, 312, 313, 314, 315, 316, 317, 318, 319, 320, 321, 322, 323, 324, 325, 326, 327, 328, 329, 330, 331, 332, 333, 334] (by decide +kernel) (by decide +kernel)) (goodIn_sub (fun _ h => List.mem_append_left _ (List.mem_append_left _ (List.mem_append_right _ h))) (by decide +kernel))
set_option maxRecDepth 20000 in
theorem gL_law_L_curves : GoodIn wsL_law (va_wsS RL 105 yL_curves wsL_curves) := goodIn_app (goodIn_of _ (by decide +kernel)) ggL_law_L_curves
end
