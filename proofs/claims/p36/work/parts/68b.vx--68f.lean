section
/-! ===== BEGIN words of one list among another's, by their places ===== -/
/-! ===== END ===== -/

/-! ===== BEGIN exceptions that leave a method, and their catching by the caller (launches without stack traces) ===== -/
section VXA
/-! The laws vx_back, vx_callV, vx_callS, vx_callSW, vx_throw0, vx_throwS follow proofs of the library, with one case more: JvmDerived/Free/Laws.lean (Back.of_free), Shelf42/LK1.lean (callV, callS), Shelf/KitTraced.lean (throwNew0V, throwNewS). -/
/-- where a method has thrown q: the kind by its name, the cell, what was written, the world -/
noncomputable def vx_T (XC : String → State → State → Prop) (st : State) (q : Addr) (t : State) (mc ms : Nat) (free : Addr → Prop) : Prop :=
  ∃ (E : String) (ce : Cell) (L : List Loc), XC E st t ∧ t.heap[q]? = some ce ∧ ce.vm = .none ∧ st.vm.findClass E = some ce.cls ∧ st.WarmedH t.vm ∧ st.sameButNew ({ t with vm := st.vm } : State) L mc ms ∧ ∀ z ∈ L, free z.base
noncomputable def vx_Q (Qc : Array Value → State → Outcome → State → Prop) (XC : String → State → State → Prop) (mc ms : Nat) (free : Addr → Prop) : Array Value → State → Outcome → State → Prop := fun a st o t =>
  (Qc a st o t ∧ ∃ L, FrameEnd st o t L mc ms ∧ ∀ q ∈ L, free q.base) ∨ ∃ q, o = .threw q ∧ vx_T XC st q t mc ms free
/-- a callee that returns or throws -/
noncomputable def vx_Met (l : Launch) (y : MethodName) (ws : List Cond) (rm : Room) (Pc : Array Value → State → Prop) (Qc : Array Value → State → Outcome → State → Prop) (XC : String → State → State → Prop) (mc ms : Nat) (free : Addr → Prop) : Prop :=
  MetFree l y (headSpec ws rm) Pc (fun _ _ _ _ _ => True) (vx_Q Qc XC mc ms free)
noncomputable def vx_Post (XC : String → State → State → Prop) (mc ms : Nat) (free : Addr → Prop) : Pt → Array Value → Addr → Pt → Prop := fun A a q B =>
  ∃ (g : JFrame) (mk : MethodId) (t : State) (L : List Loc) (E : String) (ce : Cell), B.U.heap = t.heap ∧ B.U.vm = t.vm ∧ XC E (A.U.calling g mk a) t ∧ t.heap[q]? = some ce ∧ ce.vm = .none ∧ A.U.vm.findClass E = some ce.cls ∧ B.locs = A.locs ++ L ∧ (∀ z ∈ L, free z.base) ∧ B.cells = A.cells + mc ∧ B.slots = A.slots + ms
noncomputable def vx_Back (l : Launch) (R : Room) (p : Program) (e : Env) (below : List Frame) (s : State) (sargs : Array Value) (y : MethodName) (len W9 : Nat)
    (Pre : Pt → Array Value → Prop) (Post : Pt → Array Value → Option Value → Pt → Prop) (PostX : Pt → Array Value → Addr → Pt → Prop) : Prop :=
  ∀ (m : MethodId) (meth : Method) (c : Code) (A : Pt) (g : JFrame) (ig : Instr) (mk : MethodId) (a : Array Value),
    Stand p l e R s m sargs below meth c A.U A.locs A.cells A.slots → g.method = m → g.locals.size = c.maxLocals → decode c.code g.pc = .ok (ig, len) →
    2 * g.monitorRoom + (g.stack.map fun v => v.category).sum ≤ W9 → A.U.methodNamed? y = some mk → Pre A a →
    (∃ (v : Option Value) (B : Pt), Stand p l e R s m sargs below meth c B.U B.locs B.cells B.slots ∧ Post A a v B ∧
      Steps p.tables e below (doInvoke e (A.U.setTop g) [] mk a).1 (B.U.setTop { g with pc := g.pc + len, stack := v.toList ++ g.stack })) ∨
    (∃ (q : Addr) (B : Pt), Stand p l e R s m sargs below meth c B.U B.locs B.cells B.slots ∧ PostX A a q B ∧
      Steps p.tables e below (doInvoke e (A.U.setTop g) [] mk a).1 ((B.U.setTop g).pushFrame (.throwing q)))
section Payer
variable {l : Launch} {R : Room} {p : Program} {e : Env} {below : List Frame} {s : State} {sargs : Array Value} {y : MethodName} {len W9 : Nat}
theorem vx_back {ws : List Cond} {rm : Room} {Pc : Array Value → State → Prop} {Qc : Array Value → State → Outcome → State → Prop} {XC : String → State → State → Prop} {mc ms : Nat} {free : Addr → Prop} {bytes : ByteArray} {maxL : Nat} {ret : Option FieldType}
    (hM : vx_Met l y ws rm Pc Qc XC mc ms free) (hblind : FrameBlind Pc) (hrc : rm.cells = mc) (hrs : rm.slots = ms)
    (hframes : rm.frames + 1 ≤ R.frames) (hlocals : W9 + (maxL + 11) + rm.locals ≤ R.locals)
    (hws : ∀ w ∈ ws, ∀ a' U, s.WarmedH U.vm → w.before a' U = true) (hcode : Cond.code y bytes maxL ret ∈ ws) (hinit : ∀ a' U, s.WarmedH U.vm → (Cond.initialized y.cls).before a' U = true) :
    vx_Back l R p e below s sargs y len W9 (PreOf R mc ms Pc) (PostOf Qc mc ms free) (vx_Post XC mc ms free) := by
  intro m meth c A g ig mk a X hg hsize hdg hW hn hp
  have h1 : (headSpec ws rm).pre.before a A.U = true := atoms_intro fun w hw => hws w hw _ _ X.warmed
  have h2 : (Cond.code y bytes maxL ret).before a A.U = true := hws _ hcode _ _ X.warmed
  have h3 : (Cond.initialized y.cls).before a A.U = true := hinit _ _ X.warmed
  have h4 : A.cells + (headSpec ws rm).room.cells ≤ R.cells := by rw [show (headSpec ws rm).room.cells = mc from hrc]; exact hp.1
  have h5 : A.slots + (headSpec ws rm).room.slots ≤ R.slots := by rw [show (headSpec ws rm).room.slots = ms from hrs]; exact hp.2.1
  have hPc : Pc a (A.U.calling g mk a) := hblind _ _ _ _ hp.2.2
  obtain ⟨U, Ls, c0, s0⟩ := A
  dsimp only [Pt.U, Pt.locs, Pt.cells, Pt.slots] at h1 h2 h3 h4 h5 X hn hPc ⊢
  obtain ⟨methY, cY, hmY, hcY, -, hlY, -, -, -, -⟩ := Cond.code_spec hn h2
  obtain ⟨kY, hkY, -⟩ := className_of_methodNamed hn
  have hinitY : kY.init = .initialized := Cond.initialized_spec (findClass_of_methodNamed hn) hkY h3
  have h : At U g.method c below := by rw [hg]; exact X.here
  have hlocals9 : W9 + (maxL + 11) + (headSpec ws rm).room.locals ≤ R.locals := hlocals
  have happ : (headSpec ws rm).appliesLoose y e.platform (U.calling g mk a) = true :=
    Spec.appliesLoose_calling (g := g) h hdg hn hkY hinitY
      (X.room_calling (g := g) (R' := (headSpec ws rm).room) hsize hmY hcY hframes (by rw [hlY]; omega) h4 h5) h1
  obtain ⟨mid, hmid⟩ := h.above
  have hfr : (U.setTop g).frames = (.java g :: mid) ++ below := by rw [State.frames_setTop' g h.top, hmid]; rfl
  obtain ⟨o, s₂, hsteps, -, hend, hq⟩ := Steps.callFree hM p X.admits X.cas X.clock (acts := []) hfr happ hPc trivial
  have hq' : vx_Q Qc XC mc ms free a (U.calling g mk a) o s₂ := hq
  rw [State.frames_setTop' g h.top] at hend
  obtain ⟨g₀, hg0⟩ := Option.isSome_iff_exists.mp h.top
  obtain ⟨r, hr⟩ := State.topJava?_eq_some.mp hg0
  have hr' : (({ U with heap := s₂.heap, slotsUsed := s₂.slotsUsed } : State).setVm s₂.vm).frames = .java g₀ :: r := hr
  rcases hq' with ⟨hqc, L, hfe, hL⟩ | ⟨q, rfl, E, ce, L, hx, hce, hcv, hcl, hW₂, hsm, hL⟩
  · obtain ⟨⟨v, rfl⟩, hW₂, e2, q2, q3, q4, q5, q6⟩ := id hfe
    have e3 : s₂ = ({ (U.calling g mk a).setFrames s₂.frames with heap := s₂.heap, slotsUsed := s₂.slotsUsed } : State).setVm s₂.vm := by
      have : s₂ = ({ s₂ with vm := (U.calling g mk a).vm } : State).setVm s₂.vm := rfl
      rw [e2] at this
      exact this
    obtain ⟨c₂, i₂, len₂, hc₂, hd₂, hf₂⟩ := hend
    have hW' : U.WarmedH s₂.vm := hW₂
    have hcc : c₂ = c := by
      have h1 : s₂.code? g.method = U.code? g.method := by
        rw [State.code?_eq, State.code?_eq, hW'.alike.method?]
      exact Option.some.inj (hc₂.symm.trans (h1.trans h.code))
    subst hcc
    have hlen : len₂ = len := by rw [hdg] at hd₂; cases hd₂; rfl
    subst hlen
    have hs₂ : s₂ = (({ U with heap := s₂.heap, slotsUsed := s₂.slotsUsed } : State).setVm s₂.vm).setTop { g with pc := g.pc + len₂, stack := v.toList ++ g.stack } := by
      refine e3.trans ?_
      rw [hf₂, State.calling_eq h.top, State.setFrames_setFrames, State.setTop_of_frames _ hr', hr]
      rfl
    have hsame : U.sameButNew ({ U with heap := s₂.heap, slotsUsed := s₂.slotsUsed } : State) L mc ms := by
      refine ⟨?_, q2, q3, q4, q5, q6⟩
      obtain ⟨t, ht, -⟩ := State.frames_cons hr
      show ({ U with heap := s₂.heap, slotsUsed := s₂.slotsUsed } : State) = { U.setFrames U.frames with heap := s₂.heap, slotsUsed := s₂.slotsUsed }
      rw [State.setFrames_self ht]
    subst hg
    refine Or.inl ⟨v, ⟨(({ U with heap := s₂.heap, slotsUsed := s₂.slotsUsed } : State).setVm s₂.vm), Ls ++ L, c0 + mc, s0 + ms⟩,
      ⟨X.admits, X.cas, X.clock, X.frames, X.room, X.hears, X.method, X.code, (X.here.setHeapUsed s₂.heap s₂.slotsUsed).setVm hW'.alike, X.tail, State.WarmedH.trans X.warmed hW', X.limits, X.bytes, X.same.trans (hsame.setVm s.vm)⟩,
      ⟨g, mk, s₂, L, rfl, rfl, hqc, rfl, hL, rfl, rfl⟩, ?_⟩
    show Steps p.tables e below _ ((({ U with heap := s₂.heap, slotsUsed := s₂.slotsUsed } : State).setVm s₂.vm).setTop { g with pc := g.pc + len₂, stack := v.toList ++ g.stack })
    rw [← hs₂]
    exact hsteps
  · obtain ⟨e2, q2, q3, q4, q5, q6⟩ := id hsm
    have e3 : s₂ = ({ (U.calling g mk a).setFrames s₂.frames with heap := s₂.heap, slotsUsed := s₂.slotsUsed } : State).setVm s₂.vm := by
      have : s₂ = ({ s₂ with vm := (U.calling g mk a).vm } : State).setVm s₂.vm := rfl
      rw [e2] at this
      exact this
    have hf₂ : s₂.frames = .throwing q :: .java g :: U.frames.tail := hend
    have hW' : U.WarmedH s₂.vm := hW₂
    have hs₂ : s₂ = ((({ U with heap := s₂.heap, slotsUsed := s₂.slotsUsed } : State).setVm s₂.vm).setTop g).pushFrame (.throwing q) := by
      refine e3.trans ?_
      rw [hf₂, State.calling_eq h.top, State.setFrames_setFrames, State.pushFrame, State.frames_setTop _ hr', State.setTop_of_frames _ hr', State.setFrames_setFrames, hr]
      rfl
    have hsame : U.sameButNew ({ U with heap := s₂.heap, slotsUsed := s₂.slotsUsed } : State) L mc ms := by
      refine ⟨?_, q2, q3, q4, q5, q6⟩
      obtain ⟨t, ht, -⟩ := State.frames_cons hr
      show ({ U with heap := s₂.heap, slotsUsed := s₂.slotsUsed } : State) = { U.setFrames U.frames with heap := s₂.heap, slotsUsed := s₂.slotsUsed }
      rw [State.setFrames_self ht]
    subst hg
    refine Or.inr ⟨q, ⟨(({ U with heap := s₂.heap, slotsUsed := s₂.slotsUsed } : State).setVm s₂.vm), Ls ++ L, c0 + mc, s0 + ms⟩,
      ⟨X.admits, X.cas, X.clock, X.frames, X.room, X.hears, X.method, X.code, (X.here.setHeapUsed s₂.heap s₂.slotsUsed).setVm hW'.alike, X.tail, State.WarmedH.trans X.warmed hW', X.limits, X.bytes, X.same.trans (hsame.setVm s.vm)⟩,
      ⟨g, mk, s₂, L, E, ce, rfl, rfl, hx, hce, hcv, hcl, rfl, hL, rfl, rfl⟩, ?_⟩
    show Steps p.tables e below _ (((({ U with heap := s₂.heap, slotsUsed := s₂.slotsUsed } : State).setVm s₂.vm).setTop g).pushFrame (.throwing q))
    rw [← hs₂]
    exact hsteps
end Payer
section Calls
variable {p : Program} {l : Launch} {e : Env} {R : Room} {s : State} {m : MethodId} {args : Array Value} {below : List Frame} {meth : Method} {c : Code} {T : State} {locs : List Loc} {cells slots : Nat}
theorem vx_callV (X : Stand p l e R s m args below meth c T locs cells slots) (hexec : p.tables.exec = Jvm.exec) {own C : String} {index : Nat} {y : MethodName} {bytes : ByteArray} {maxL : Nat} {ret : Option FieldType}
    (hown : s.vm.findClass own = some m.cls) (hlink : (Cond.methodLink own index y).before args s = true) (hinst : (Cond.instanceMethod y).before args s = true) (hsel : (Cond.selects C y y).before args s = true)
    (hcode : (Cond.code y bytes maxL ret).before args s = true) (hy : y.cls ≠ "java/lang/invoke/MethodHandle" ∧ y.cls ≠ "java/lang/invoke/VarHandle")
    {W9 : Nat} {Pre : Pt → Array Value → Prop} {Post : Pt → Array Value → Option Value → Pt → Prop} {PostX : Pt → Array Value → Addr → Pt → Prop} (hK : vx_Back l R p e below s args y 3 W9 Pre Post PostX)
    {b : Addr} {cellB : Cell} (hcell : T.heap[b]? = some cellB) (hobj : cellB.vm.isStatics = false) (hcls : s.vm.findClass C = some cellB.cls)
    {g : JFrame} (hg : g.method = m) (hsize : g.locals.size = c.maxLocals) {argsL rest : List Value} (hlen : ∀ sig, parseMethodDescriptor y.desc = some sig → argsL.length = sig.parameters.length)
    (hstack : g.stack = argsL.reverse ++ .ref b :: rest) (hW : 2 * g.monitorRoom + (rest.map fun v => v.category).sum ≤ W9) (hdg : decode c.code g.pc = .ok (.invokevirtual index, 3))
    (hpre : ∀ vm₁, s.WarmedH vm₁ → Pre ⟨T.setVm vm₁, locs, cells, slots⟩ (Value.ref b :: argsL).toArray) :
    (∃ (v : Option Value) (vm₁ : Vm) (B : Pt), s.WarmedH vm₁ ∧ Stand p l e R s m args below meth c B.U B.locs B.cells B.slots ∧ Post ⟨T.setVm vm₁, locs, cells, slots⟩ (Value.ref b :: argsL).toArray v B ∧
      ∀ target, Steps p.tables e below (B.U.setTop { g with pc := g.pc + 3, stack := v.toList ++ rest }) target → Steps p.tables e below (T.setTop g) target) ∨
    (∃ (q : Addr) (vm₁ : Vm) (B : Pt), s.WarmedH vm₁ ∧ Stand p l e R s m args below meth c B.U B.locs B.cells B.slots ∧ PostX ⟨T.setVm vm₁, locs, cells, slots⟩ (Value.ref b :: argsL).toArray q B ∧
      Steps p.tables e below (T.setTop g) ((B.U.setTop { g with stack := rest }).pushFrame (.throwing q))) := by
  obtain ⟨mk, methM, hnamed, hmethM, hstM, habM⟩ := Cond.instanceMethod_spec hinst
  obtain ⟨methM', cM, hmethM', -, -, -, -, -, -, hsigM⟩ := Cond.code_spec hnamed hcode
  cases hmethM.symm.trans hmethM'
  obtain ⟨c2, r2, m2, q1, q2, q3, q4, kP, hkP, hkPi⟩ := Cond.selects_spec hsel
  cases hcls.symm.trans q1
  cases (State.methodFound?_of_named hnamed hy).symm.trans q2
  cases hnamed.symm.trans q3
  have hselP : selectMethod e.platform s.vm cellB.cls mk = .method mk := by rw [Launch.admits_selectMethod X.admits]; exact q4
  obtain ⟨vm₁, X₁, hstep₁⟩ := X.invokevirtual hexec hown hlink hnamed hmethM hstM hkP hkPi hy (a := b) (cell := cellB) hcell
    (fun z h => by rw [h] at hobj; cases hobj) hselP hmethM habM hkP hkPi (g := g) hg (argsL := argsL) (rest := rest) (hlen _ hsigM) hstack hdg
  rcases hK m meth c ⟨T.setVm vm₁, locs, cells, slots⟩ { g with stack := rest } (.invokevirtual index) mk (Value.ref b :: argsL).toArray X₁ hg hsize hdg hW (X₁.named hnamed) (hpre vm₁ X₁.warmed) with ⟨v, B, X', hpost, hsteps⟩ | ⟨q, B, X', hpost, hsteps⟩
  · exact Or.inl ⟨v, vm₁, B, X₁.warmed, X', hpost, fun target h => hstep₁ _ fun acts => by rw [doInvoke_state]; exact hsteps.trans h⟩
  · exact Or.inr ⟨q, vm₁, B, X₁.warmed, X', hpost, hstep₁ _ fun acts => by rw [doInvoke_state]; exact hsteps⟩
theorem vx_callS (X : Stand p l e R s m args below meth c T locs cells slots) (hexec : p.tables.exec = Jvm.exec) {own : String} {index : Nat} {y : MethodName} {bytes : ByteArray} {maxL : Nat} {ret : Option FieldType}
    (hown : s.vm.findClass own = some m.cls) (hlink : (Cond.methodLink own index y).before args s = true) (hstat : (Cond.static y).before args s = true) (hinit : (Cond.initialized y.cls).before args s = true)
    (hcode : (Cond.code y bytes maxL ret).before args s = true) (hy : y.cls ≠ "java/lang/invoke/MethodHandle" ∧ y.cls ≠ "java/lang/invoke/VarHandle")
    {W9 : Nat} {Pre : Pt → Array Value → Prop} {Post : Pt → Array Value → Option Value → Pt → Prop} {PostX : Pt → Array Value → Addr → Pt → Prop} (hK : vx_Back l R p e below s args y 3 W9 Pre Post PostX)
    {g : JFrame} (hg : g.method = m) (hsize : g.locals.size = c.maxLocals) {argsL rest : List Value} (hlen : ∀ sig, parseMethodDescriptor y.desc = some sig → argsL.length = sig.parameters.length)
    (hstack : g.stack = argsL.reverse ++ rest) (hW : 2 * g.monitorRoom + (rest.map fun v => v.category).sum ≤ W9) (hdg : decode c.code g.pc = .ok (.invokestatic index, 3))
    (hpre : ∀ vm₁, s.WarmedH vm₁ → Pre ⟨T.setVm vm₁, locs, cells, slots⟩ argsL.toArray) :
    (∃ (v : Option Value) (vm₁ : Vm) (B : Pt), s.WarmedH vm₁ ∧ Stand p l e R s m args below meth c B.U B.locs B.cells B.slots ∧ Post ⟨T.setVm vm₁, locs, cells, slots⟩ argsL.toArray v B ∧
      ∀ target, Steps p.tables e below (B.U.setTop { g with pc := g.pc + 3, stack := v.toList ++ rest }) target → Steps p.tables e below (T.setTop g) target) ∨
    (∃ (q : Addr) (vm₁ : Vm) (B : Pt), s.WarmedH vm₁ ∧ Stand p l e R s m args below meth c B.U B.locs B.cells B.slots ∧ PostX ⟨T.setVm vm₁, locs, cells, slots⟩ argsL.toArray q B ∧
      Steps p.tables e below (T.setTop g) ((B.U.setTop { g with stack := rest }).pushFrame (.throwing q))) := by
  obtain ⟨mk, hnamed⟩ := Cond.code_named hcode
  obtain ⟨methM, cM, hmethM, -, -, -, -, -, -, hsigM⟩ := Cond.code_spec hnamed hcode
  have hstatic : methM.isStatic = true := Cond.static_spec hnamed hmethM hstat
  obtain ⟨kP, hkP, -⟩ := className_of_methodNamed hnamed
  have hinitP : kP.init = .initialized := Cond.initialized_spec (findClass_of_methodNamed hnamed) hkP hinit
  obtain ⟨vm₁, X₁, hstep₁⟩ := X.invokestatic hexec hown hlink hnamed hmethM hstatic hkP hinitP hy (g := g) hg (argsL := argsL) (rest := rest) (hlen _ hsigM) hstack hdg
  rcases hK m meth c ⟨T.setVm vm₁, locs, cells, slots⟩ { g with stack := rest } (.invokestatic index) mk argsL.toArray X₁ hg hsize hdg hW (X₁.named hnamed) (hpre vm₁ X₁.warmed) with ⟨v, B, X', hpost, hsteps⟩ | ⟨q, B, X', hpost, hsteps⟩
  · exact Or.inl ⟨v, vm₁, B, X₁.warmed, X', hpost, fun target h => hstep₁ _ fun acts => by rw [doInvoke_state]; exact hsteps.trans h⟩
  · exact Or.inr ⟨q, vm₁, B, X₁.warmed, X', hpost, hstep₁ _ fun acts => by rw [doInvoke_state]; exact hsteps⟩
end Calls
theorem vx_cls {s : State} {T : State} {vm₁ : Vm} {E : String} {k : ClassId} (hW : s.WarmedH vm₁) (h : (T.setVm vm₁).vm.findClass E = some k) : s.vm.findClass E = some k := by
  have h1 : vm₁.findClass E = some k := h
  rw [hW.alike.findClass] at h1
  exact h1
/-- the method's frame g, with q thrown over it -/
noncomputable def vx_W (p : Program) (l : Launch) (e : Env) (R : Room) (s : State) (m : MethodId) (args : Array Value) (below : List Frame) (meth : Method) (c : Code) (H : Heap) (locs : List Loc) (cells slots : Nat) (Q : State → Prop) (g : JFrame) (q : Addr) : Prop :=
  ∀ T : State, T.heap = H → Stand p l e R s m args below meth c T locs cells slots → ∃ t, Steps p.tables e below ((T.setTop g).pushFrame (.throwing q)) t ∧ Q t
noncomputable def vx_Run (p : Program) (l : Launch) (e : Env) (R : Room) (s : State) (m : MethodId) (args : Array Value) (below : List Frame) (meth : Method) (c : Code) (H : Heap) (locs : List Loc) (cells slots mc ms : Nat) (g : JFrame) (rest : List Value) (Qa : State → Outcome → State → Prop) (XC : String → State → State → Prop) (free : Addr → Prop) : Prop :=
  ∀ T : State, T.heap = H → Stand p l e R s m args below meth c T locs cells slots →
    (∃ (v : Option Value) (st₀ t T' : State) (L : List Loc), st₀.heap = H ∧ Stand p l e R s m args below meth c T' (locs ++ L) (cells + mc) (slots + ms) ∧ (∀ q ∈ L, free q.base) ∧ T'.heap = t.heap ∧ T'.vm = t.vm ∧ Qa st₀ (.returned v) t ∧
      Goes p e below T g T' { g with pc := g.pc + 3, stack := v.toList ++ rest }) ∨
    (∃ (q : Addr) (st₀ t T' : State) (L : List Loc) (E : String) (ce : Cell), st₀.heap = H ∧ Stand p l e R s m args below meth c T' (locs ++ L) (cells + mc) (slots + ms) ∧ (∀ z ∈ L, free z.base) ∧ T'.heap = t.heap ∧ T'.vm = t.vm ∧ XC E st₀ t ∧ t.heap[q]? = some ce ∧ ce.vm = .none ∧ s.vm.findClass E = some ce.cls ∧
      Steps p.tables e below (T.setTop g) ((T'.setTop { g with stack := rest }).pushFrame (.throwing q)))
section Runs
variable {p : Program} {l : Launch} {e : Env} {R : Room} {s : State} {m : MethodId} {args : Array Value} {below : List Frame} {meth : Method} {c : Code} {H : Heap} {locs : List Loc} {cells slots : Nat}
variable {y : MethodName} {bytes cc : ByteArray} {maxL nL mc ms n index : Nat} {ret : Option FieldType} {ws : List Cond} {rm : Room} {Pc : Array Value → State → Prop} {Qc : Array Value → State → Outcome → State → Prop} {XC : String → State → State → Prop} {free : Addr → Prop} {Ts : List Cond} {own C : String} {b : Addr} {As rest : List Value} {g : JFrame}
theorem vx_callBack (cb : CallB R s args own index y bytes maxL ret ws rm mc ms n) (hM : vx_Met l y ws rm Pc Qc XC mc ms free) (hbl : FrameBlind Pc) : vx_Back l R p e below s args y 3 8 (PreOf R mc ms Pc) (PostOf Qc mc ms free) (vx_Post XC mc ms free) := by
  obtain ⟨hrc, hrs, hfr, hlo, hws, hcw, -, hini, -⟩ := cb
  exact vx_back (bytes := bytes) (maxL := maxL) (ret := ret) hM hbl hrc hrs hfr hlo hws hcw (fun a' U hW => word_at hW (Or.inl (by first | rfl | simp [Cond.onTables, Cond.keeps, Cond.steady])) hini)
theorem vx_runV (S : CallFix p m c cc nL s args Ts own) (hM : vx_Met l y ws rm Pc Qc XC mc ms free) (cw : CallW R s args own C index y bytes maxL ret ws rm mc ms n) (hp : PreV s H C b Pc As)
    (hg : g.method = m) (hn : As.length = n) (hsize : g.locals.size = nL) (hstack : g.stack = As.reverse ++ .ref b :: rest) (hW : 2 * g.monitorRoom + (rest.map fun v => v.category).sum ≤ 8) (hdg : decode cc g.pc = .ok (.invokevirtual index, 3)) (hf : cells + mc ≤ R.cells ∧ slots + ms ≤ R.slots) :
    vx_Run p l e R s m args below meth c H locs cells slots mc ms g rest (Qc (Value.ref b :: As).toArray) XC free := by
  have hK : vx_Back l R p e below s args y 3 8 (PreOf R mc ms Pc) (PostOf Qc mc ms free) (vx_Post XC mc ms free) := vx_callBack cw.1 hM hp.1
  obtain ⟨⟨-, -, -, -, -, -, hcode, -, hy, hlen, hl⟩, hin, hse⟩ := cw
  obtain ⟨hx, hb, hml, ho, -⟩ := S
  obtain ⟨-, ⟨cellB, hcB, hoB, hclB⟩, hPc⟩ := hp
  intro T hT X
  rcases vx_callV X hx (C := C) (bytes := bytes) (maxL := maxL) (ret := ret) ho hl hin hse hcode hy hK (by rw [hT]; exact hcB) hoB hclB hg (hsize.trans hml.symm) (argsL := As) (rest := rest) (fun sig h => hn.trans (hlen sig h)) hstack hW (by rw [hb]; exact hdg)
    (fun vm₁ hW₁ => ⟨hf.1, hf.2, hPc (T.setVm vm₁) hT hW₁⟩) with ⟨v, vm₁, ⟨U', l2, c2, s2⟩, hW₁, X', ⟨g', mk, t, L, e1, e2, hq, h1, hL, h2, h3⟩, st⟩ | ⟨q, vm₁, ⟨U', l2, c2, s2⟩, hW₁, X', ⟨g', mk, t, L, E, ce, e1, e2, hq, hce, hcv, hcl, h1, hL, h2, h3⟩, st⟩
  · dsimp only [Pt.U, Pt.locs, Pt.cells, Pt.slots] at X' e1 e2 h1 h2 h3 st
    subst h1; subst h2; subst h3
    exact Or.inl ⟨v, (T.setVm vm₁).calling g' mk (Value.ref b :: As).toArray, t, U', L, hT, X', hL, e1, e2, hq, st⟩
  · dsimp only [Pt.U, Pt.locs, Pt.cells, Pt.slots] at X' e1 e2 h1 h2 h3 st hcl
    subst h1; subst h2; subst h3
    exact Or.inr ⟨q, (T.setVm vm₁).calling g' mk (Value.ref b :: As).toArray, t, U', L, E, ce, hT, X', hL, e1, e2, hq, hce, hcv, vx_cls hW₁ hcl, st⟩
end Runs
section Rows
variable {p : Program} {l : Launch} {e : Env} {R : Room} {s : State} {m : MethodId} {args : Array Value} {below : List Frame} {meth : Method} {c : Code} {H : Heap} {locs : List Loc} {cells slots : Nat} {Q : State → Prop}
variable {mc ms : Nat} {free : Addr → Prop} {A0 A1 : Nat → Prop} {H0 : Heap} {a : Array Value} {pc : Nat} {ls : Array Slot} {st0 rest : List Value}
/-- caught by the row x of this method's table; the rows ahead don't take it -/
theorem vx_catch {own name : String} {E : String} {ce : Cell} {q : Addr} (hown : s.vm.findClass own = some m.cls) (pre : List ExceptionTableEntry) (x : ExceptionTableEntry) (suf : List ExceptionTableEntry) (hsplit : c.exceptionTable.toList = pre ++ x :: suf)
    (hpass : ∀ z ∈ pre, covers z pc = false ∨ (z.catchType ≠ 0 ∧ ∃ nm : String, (Cond.classLink own z.catchType nm).before args s = true ∧ va_Nc E nm s)) (hx : covers x pc = true) (h0 : x.catchType ≠ 0)
    (hlink : (Cond.classLink own x.catchType name).before args s = true) (hcast : (Cond.castable E name).before args s = true) (hcell : H[q]? = some ce) (hv : ce.vm = .none) (hcl : s.vm.findClass E = some ce.cls)
    (kk : W p l e R s m args below meth c H locs cells slots Q (F0 m x.handlerPc ls [.ref q])) : vx_W p l e R s m args below meth c H locs cells slots Q (F0 m pc ls rest) q := by
  intro T hT X
  have hpl : e.platform.magicAccessors = ({} : Platform).magicAccessors := by rw [X.admits.platform]
  obtain ⟨c3, c4, hc3, hc4, hasg⟩ := Cond.castable_spec hcast
  cases Option.some.inj (hc3.symm.trans hcl)
  obtain ⟨c5, hc5, hcl5⟩ := Cond.classLink_spec hown hlink e.platform hpl
  cases Option.some.inj (hc4.symm.trans hc5)
  obtain ⟨vm', X', st⟩ := Jvm.Stand.thenCaughtThrough X q (g := F0 m pc ls rest) rfl (Steps.refl _) (by rw [hT]; exact hcell) (by rw [hv]; rfl) (by obtain ⟨k9, h9, -⟩ := Vm.findClass_spec hcl; exact ⟨k9, h9⟩) pre x suf hsplit
    (fun z hz => by
      rcases hpass z hz with h | ⟨hz0, nm, hl1, hn1⟩
      · exact Or.inl h
      · obtain ⟨c6, hc6, hcl6⟩ := Cond.classLink_spec hown hl1 e.platform hpl
        obtain ⟨a8, b8, h1, h2, h3⟩ := hn1
        cases Option.some.inj (h1.symm.trans hcl)
        cases Option.some.inj (h2.symm.trans hc6)
        exact Or.inr ⟨hz0, _, hcl6, h3⟩) hx (Or.inr ⟨h0, c4, hcl5, hasg⟩)
  obtain ⟨t, a1, b1⟩ := kk (T.setVm vm') hT X'
  exact ⟨t, st.trans a1, b1⟩
end Rows
section Ends
variable {p : Program} {l : Launch} {e : Env} {R : Room} {s : State} {m : MethodId} {args : Array Value} {below : List Frame} {meth : Method} {c : Code} {H : Heap} {locs : List Loc} {cells slots : Nat} {Q : State → Prop}
variable {mc ms : Nat} {free : Addr → Prop} {A0 A1 : Nat → Prop} {H0 : Heap} {a : Array Value} {ls : Array Slot} {st0 rest : List Value}
variable {Qc : Array Value → State → Outcome → State → Prop} {XC : String → State → State → Prop}
/-- what a body that may throw owes at its end -/
noncomputable def vx_MQ (below : List Frame) (Qc : Array Value → State → Outcome → State → Prop) (XC : String → State → State → Prop) (a : Array Value) (s : State) (mc ms : Nat) (free : Addr → Prop) : State → Prop := fun t =>
  ∃ o, t.status = .running ∧ Ended t below o ∧ vx_Q Qc XC mc ms free a s o t
theorem vx_ret {g : JFrame} {mc ms : Nat} (k : W p l e R s m args below meth c H locs cells slots (MQ below Qc args s mc ms free) g) : W p l e R s m args below meth c H locs cells slots (vx_MQ below Qc XC args s mc ms free) g := by
  intro T hT X
  obtain ⟨t, a1, o, b1, b2, b3, b4⟩ := k T hT X
  exact ⟨t, a1, o, b1, b2, Or.inl ⟨b3, b4⟩⟩
theorem vx_frame {U : State} {k n : Nat} (h : s.sameButNew ({ U with vm := s.vm } : State) locs k n) : s.heap.size ≤ U.heap.size ∧ ∀ q : Nat, q < s.heap.size → (∀ z ∈ locs, z.base ≠ q) → U.heap[q]? = s.heap[q]? := by
  obtain ⟨-, h2, -, -, -, h6⟩ := h
  refine ⟨h2, fun q hq hz => ?_⟩
  obtain ⟨c9, e1, e2, e3, e4⟩ := h6 q _ (Array.getElem?_eq_getElem hq)
  have hs : c9.slots = (s.heap[q]).slots := Array.ext_getElem? fun i => e4 i fun hm => hz _ hm rfl
  have h9 : c9 = s.heap[q] := by
    rw [hs] at e2
    exact e2
  have e5 : U.heap[q]? = some c9 := e1
  rw [e5, h9, Array.getElem?_eq_getElem hq]
/-- the words of a throw but the four that speak of the heap -/
noncomputable def vx_no (w : Cond) : Bool := decide (w ≠ .isRef (.static Bundle.tN "UNASSIGNED_STACK" Bundle.steD)) && decide (w ≠ .isRef (.static Bundle.tN "SUPPRESSED_SENTINEL" Bundle.listD)) && decide (w ≠ .laysStatic Bundle.tN "UNASSIGNED_STACK" Bundle.steD) && decide (w ≠ .laysStatic Bundle.tN "SUPPRESSED_SENTINEL" Bundle.listD)
noncomputable def vx_at0 (own : String) (ic : Nat) (X : String) (names : List String) : List Cond := (Bundle.ownAtoms0 own ic X names).filter vx_no
noncomputable def vx_atS (own : String) (ic : Nat) (X : String) (names : List String) : List Cond := (Bundle.ownAtoms own ic X names).filter vx_no
/-- a word that the tables alone decide, or a good one -/
noncomputable def vx_ot (w : Cond) : Bool := w.onTables || goodWord w
theorem vx_ot_at {args a' : Array Value} {s U : State} {w : Cond} (hW : s.WarmedH U.vm) (hvm : s.vm = U.vm) (hg : vx_ot w = true) (h : w.before args s = true) : w.before a' U = true := by
  simp only [vx_ot, Bool.or_eq_true] at hg
  rcases hg with hg | hg
  · exact va_tabs hg hvm h
  · exact word_at hW (good_of_word hg) h
theorem vx_own {args : Array Value} {s : State} {L : List Cond} (h1 : ∀ w ∈ L.filter vx_no, w.before args s = true)
    (hU : (Cond.isRef (.static Bundle.tN "UNASSIGNED_STACK" Bundle.steD)).before args s = true) (hN : (Cond.isRef (.static Bundle.tN "SUPPRESSED_SENTINEL" Bundle.listD)).before args s = true)
    (lU : (Cond.laysStatic Bundle.tN "UNASSIGNED_STACK" Bundle.steD).before args s = true) (lN : (Cond.laysStatic Bundle.tN "SUPPRESSED_SENTINEL" Bundle.listD).before args s = true) : ∀ w ∈ L, w.before args s = true := by
  intro w hw
  by_cases e1 : w = .isRef (.static Bundle.tN "UNASSIGNED_STACK" Bundle.steD)
  · rw [e1]; exact hU
  · by_cases e2 : w = .isRef (.static Bundle.tN "SUPPRESSED_SENTINEL" Bundle.listD)
    · rw [e2]; exact hN
    · by_cases e3 : w = .laysStatic Bundle.tN "UNASSIGNED_STACK" Bundle.steD
      · rw [e3]; exact lU
      · by_cases e4 : w = .laysStatic Bundle.tN "SUPPRESSED_SENTINEL" Bundle.listD
        · rw [e4]; exact lN
        · exact h1 w (List.mem_filter.mpr ⟨hw, by unfold vx_no; rw [decide_eq_true e1, decide_eq_true e2, decide_eq_true e3, decide_eq_true e4]; rfl⟩)
/-- where a static field lies, its kind's statics cell in H -/
noncomputable def vx_L (C n d : String) (A : Nat → Prop) (U : State) (H : Heap) : Prop := ∃ (c : ClassId) (k : Class) (i : Nat) (f : Field) (a : Nat) (cell : Cell), U.vm.findClass C = some c ∧ U.fieldFound? C n d = some (c, k, i, f) ∧ f.isStatic = true ∧ k.statics = some a ∧ H[a]? = some cell ∧ cell.vm.isStatics = true ∧ cell.cls = c ∧ f.slot < cell.slots.size ∧ k.staticTypes[f.slot]? = some f.type ∧ ¬ A a
theorem vx_L.moved {C n d : String} {A : Nat → Prop} {u U : State} {H : Heap} (hvm : u.vm.Alike U.vm) (h : vx_L C n d A u H) : vx_L C n d A U H := by
  obtain ⟨c, k, i, f, a, cell, h1, h2, h3, h4, h5, h6, h7, h8, h9, h10⟩ := h
  obtain ⟨k', hi', he⟩ := State.fieldFound?_setVm hvm h2
  exact ⟨c, k', i, f, a, cell, by rw [hvm.findClass]; exact h1, hi', h3, by rw [he]; exact h4, h5, h6, h7, h8, by rw [he]; exact h9, h10⟩
theorem vx_L.kept {C n d : String} {A : Nat → Prop} {U : State} {H H1 : Heap} (h : vx_L C n d A U H) (hq : ∀ a : Nat, a < H.size → ¬ A a → H1[a]? = H[a]?) : vx_L C n d A U H1 := by
  obtain ⟨c, k, i, f, a, cell, h1, h2, h3, h4, h5, h6, h7, h8, h9, h10⟩ := h
  exact ⟨c, k, i, f, a, cell, h1, h2, h3, h4, by rw [hq a (Array.getElem?_eq_some_iff.mp h5).1 h10]; exact h5, h6, h7, h8, h9, h10⟩
theorem vx_L.narrow {C n d : String} {A B : Nat → Prop} {U : State} {H : Heap} (h : vx_L C n d A U H) (hAB : ∀ q, B q → A q) : vx_L C n d B U H := by
  obtain ⟨c, k, i, f, a, cell, h1, h2, h3, h4, h5, h6, h7, h8, h9, h10⟩ := h
  exact ⟨c, k, i, f, a, cell, h1, h2, h3, h4, h5, h6, h7, h8, h9, fun z => h10 (hAB _ z)⟩
theorem vx_L.word {C n d : String} {A : Nat → Prop} {s : State} {args : Array Value} (h : vx_L C n d A s s.heap) : (Cond.laysStatic C n d).before args s = true := by
  obtain ⟨c, k, i, f, a, cell, h1, h2, h3, h4, h5, h6, h7, h8, h9, -⟩ := h
  show (Cond.laysStatic C n d).holds args s none s [] = true
  exact Cond.laysStatic_of h1 h2 h3 h4 h5 h6 h7 h8 h9
/-- .. and what it holds: null or some reference -/
noncomputable def vx_Zq (C n d : String) (A : Nat → Prop) (U : State) (H : Heap) : Prop := va_Zq C n d A U H ∧ vx_L C n d A U H
theorem vx_Zq.moved {C n d : String} {A : Nat → Prop} {u U : State} {H : Heap} (hvm : u.vm.Alike U.vm) (h : vx_Zq C n d A u H) : vx_Zq C n d A U H := ⟨va_Zq.moved hvm h.1, vx_L.moved hvm h.2⟩
theorem vx_Zq.kept {C n d : String} {A : Nat → Prop} {U : State} {H H1 : Heap} (h : vx_Zq C n d A U H) (hq : ∀ a : Nat, a < H.size → ¬ A a → H1[a]? = H[a]?) : vx_Zq C n d A U H1 := ⟨va_Zq.kept h.1 hq, vx_L.kept h.2 hq⟩
theorem vx_Zq.narrow {C n d : String} {A B : Nat → Prop} {U : State} {H : Heap} (h : vx_Zq C n d A U H) (hAB : ∀ q, B q → A q) : vx_Zq C n d B U H := ⟨va_Zq.narrow h.1 hAB, vx_L.narrow h.2 hAB⟩
theorem vx_Zqof {args : Array Value} {s : State} {C n d : String} {A : Nat → Prop} (hl : (Cond.laysStatic C n d).before args s = true) (hini : (Cond.initialized C).before args s = true) (h : (Cond.isRef (.static C n d)).before args s = true) (hA : ∀ a : Nat, a < s.heap.size → ¬ A a) : vx_Zq C n d A s s.heap := by
  refine ⟨va_Zqof hl hini h hA, ?_⟩
  obtain ⟨c, k, i, f, a, cell, h1, h2, h3, h4, h5, h6, h7, h8, h9⟩ := Cond.laysStatic_spec hl
  exact ⟨c, k, i, f, a, cell, h1, h2, h3, h4, h5, h6, h7, h8, h9, hA a (Array.getElem?_eq_some_iff.mp h5).1⟩
theorem vx_isRef {C n d : String} {v : Value} {A : Nat → Prop} {s : State} {args : Array Value} (h : va_Z C n d v A s s.heap) (hv : v.isRef = true) : (Cond.isRef (.static C n d)).before args s = true := by
  obtain ⟨cf, kf, fi, f, a, cell, h1, h2, h3, h4, h5, h6, h7, -⟩ := h
  have he : (Term.static C n d).eval args s none [] s = some v := by
    simp [Term.eval, State.fieldNamed?, h1, h2, h4, h5, h6, h7]
  simp only [Cond.before, Cond.holds, Cond.value, he]
  cases v <;> simp_all [Value.isRef]
theorem vx_isRefq {C n d : String} {A : Nat → Prop} {s : State} {args : Array Value} (h : va_Zq C n d A s s.heap) : (Cond.isRef (.static C n d)).before args s = true := by
  rcases h with h | ⟨t, h⟩
  · exact vx_isRef h rfl
  · exact vx_isRef h rfl
/-- the same frame, seen from here: as if the method were called anew in this heap -/
theorem vx_rebase {T : State} (X : Stand p l e R s m args below meth c T locs cells slots) {R' : Room} (hf : R'.frames ≤ R.frames) (hl : R'.locals ≤ R.locals) (hc : cells + R'.cells ≤ R.cells) (hs : slots + R'.slots ≤ R.slots) :
    Stand p l e R' ((T.setVm s.vm).setFrames (.invoking m args :: below)) m args below meth c T [] 0 0 := by
  have htop : (T.setVm s.vm).topJava?.isSome := X.here.top
  have hF : ((T.setVm s.vm).setFrames (.invoking m args :: below)).frames = .invoking m args :: below := State.frames_setFrames _ (State.cur_lt_of_top htop)
  obtain ⟨g₀, hg0⟩ := Option.isSome_iff_exists.mp htop
  obtain ⟨r, hr⟩ := State.topJava?_eq_some.mp hg0
  have hl9 : e.platform.stackLimits (T.setVm s.vm).me = e.platform.stackLimits s.me := X.limits
  have hb9 : (T.setVm s.vm).me.stackBytes = s.me.stackBytes := X.bytes
  refine ⟨X.admits, X.cas, X.clock, hF, ?_, X.hears, X.method, X.code, X.here, X.tail, X.warmed, ?_, ?_, ?_⟩
  · have h := X.room
    have hU : ((T.setVm s.vm).setFrames (.invoking m args :: below)).localsInUse = s.localsInUse := by
      rw [State.localsInUse_invoking hF (meth := meth) (c := c) X.method X.code, State.localsInUse_invoking X.frames X.method X.code]
    simp only [State.hasRoom, Bool.and_eq_true, decide_eq_true_eq] at h ⊢
    obtain ⟨⟨⟨⟨h1, h2, h3, h4, h5, h6⟩, h7⟩, h8⟩, h9⟩ := h
    rw [X.frames, List.length_cons] at h2 h3
    have q1 := X.heapSize
    have q2 := X.used
    simp only [hF, hU, List.length_cons, State.stackLimits_setFrames, State.stackBytes_setFrames, hl9, hb9]
    refine ⟨⟨⟨⟨by omega, by omega, by omega, by omega, by omega, h6⟩, ?_⟩, ?_⟩, X.book⟩
    · show T.heap.size + R'.cells ≤ e.platform.maxCells
      omega
    · show T.slotsUsed + R'.slots ≤ e.platform.maxSlots
      omega
  · rw [State.stackLimits_setFrames]; rfl
  · rw [State.stackBytes_setFrames]; rfl
  · refine ⟨?_, Nat.le_refl _, Nat.le_refl _, ?_, ?_, fun a c9 h9 => ⟨c9, h9, rfl, rfl, fun _ _ => rfl⟩⟩
    · obtain ⟨t, ht, -⟩ := State.frames_cons hr
      show T.setVm s.vm = { ((T.setVm s.vm).setFrames (.invoking m args :: below)).setFrames (T.setVm s.vm).frames with heap := T.heap, slotsUsed := T.slotsUsed }
      rw [State.setFrames_setFrames, State.setFrames_self ht]
      rfl
    · show T.slotsUsed = T.slotsUsed + ((T.heap.toList.drop T.heap.size).map (·.slots.size)).sum
      rw [List.drop_eq_nil_of_le (Nat.le_of_eq Array.length_toList)]
      rfl
    · show ((T.heap.toList.drop T.heap.size).map (·.slots.size)).sum ≤ 0
      rw [List.drop_eq_nil_of_le (Nat.le_of_eq Array.length_toList)]
      exact Nat.le_refl _
/-- 'throw new E()': new; dup; invokespecial; athrow -/
theorem vx_throw0 {cc : ByteArray} {pc : Nat} (hexec : p.tables.exec = Jvm.exec) (hb : c.code = cc) (hl : l.stackTraces = false) {own cls : String} {names : List String} {ik ic mc ms : Nat} {A : Nat → Prop}
    (hown : s.vm.findClass own = some m.cls) (hcls : Bundle.fit cls = true) (hnames : ∀ n ∈ names, Bundle.fit n = true)
    (hk : (Cond.classLink own ik cls).before args s = true) (hini : (Cond.initialized cls).before args s = true) (hat : ∀ w ∈ vx_at0 own ic cls names, w.before args s = true)
    (hgood : ∀ w ∈ Cond.classLink own ik cls :: Cond.initialized cls :: vx_at0 own ic cls names, vx_ot w = true)
    (hU : vx_Zq Bundle.tN "UNASSIGNED_STACK" Bundle.steD A s s.heap) (hN : vx_Zq Bundle.tN "SUPPRESSED_SENTINEL" Bundle.listD A s s.heap) (hS : va_S A s.heap H locs) (hsize : ls.size = c.maxLocals)
    (d0 : decode cc pc = .ok (.new ik, 3)) (d3 : decode cc (pc + 3) = .ok (.dup, 1)) (d4 : decode cc (pc + 4) = .ok (.invokespecial ic, 3)) (d7 : decode cc (pc + 7) = .ok (.athrow, 1))
    (hout : ∀ x ∈ c.exceptionTable.toList, covers x (pc + 7) = false)
    (hRframes : names.length + 3 < R.frames) (hRlocals : (rest.map fun v => v.category).sum + (13 * (names.length + 1) + 42) ≤ R.locals) (hRcells : cells + 1 ≤ R.cells) (hRslots : slots + 6 ≤ R.slots) (hlocks : meth.locks = false)
    (hx : ∀ t : State, s.vm.Alike t.vm → H.size ≤ t.heap.size → (∀ q : Nat, q < H.size → t.heap[q]? = H[q]?) → XC cls s t)
    (hf : ∀ z ∈ locs, free z.base) (hc : cells + 1 ≤ mc) (hs : slots + 6 ≤ ms) :
    W p l e R s m args below meth c H locs cells slots (vx_MQ below Qc XC args s mc ms free) (F0 m pc ls rest) := by
  intro T hT X
  have htr : e.platform.stackTraces = false := (show e.platform.stackTraces = l.stackTraces by rw [X.admits.platform]).trans hl
  have Y := vx_rebase X (R' := { frames := R.frames, locals := R.locals, cells := 1, slots := 6 }) (Nat.le_refl _) (Nat.le_refl _) hRcells hRslots
  obtain ⟨s', hA⟩ : ∃ z, z = (T.setVm s.vm).setFrames (.invoking m args :: below) := ⟨_, rfl⟩
  rw [← hA] at Y
  have hvm : s'.vm = s.vm := by rw [hA]; rfl
  have hhp : s'.heap = H := by rw [hA]; exact hT
  have hW0 : s.WarmedH s'.vm := by rw [hvm]; exact State.WarmedH.refl s
  have hat' : ∀ w ∈ vx_at0 own ic cls names, w.before args s' = true := fun w hw => vx_ot_at hW0 hvm.symm (hgood w (List.mem_cons_of_mem _ (List.mem_cons_of_mem _ hw))) (hat w hw)
  have hk' : (Cond.classLink own ik cls).before args s' = true := vx_ot_at hW0 hvm.symm (hgood _ List.mem_cons_self) hk
  have hini' : (Cond.initialized cls).before args s' = true := vx_ot_at hW0 hvm.symm (hgood _ (List.mem_cons_of_mem _ List.mem_cons_self)) hini
  have hU' : vx_Zq Bundle.tN "UNASSIGNED_STACK" Bundle.steD A s' s'.heap := by rw [hhp]; exact vx_Zq.moved hW0.alike (hU.kept hS.2.1)
  have hN' : vx_Zq Bundle.tN "SUPPRESSED_SENTINEL" Bundle.listD A s' s'.heap := by rw [hhp]; exact vx_Zq.moved hW0.alike (hN.kept hS.2.1)
  have h : ∀ w ∈ Bundle.ownAtoms0 own ic cls names, w.before args s' = true := vx_own hat' (vx_isRefq hU'.1) (vx_isRefq hN'.1) hU'.2.word hN'.2.word
  have hown' : s'.vm.findClass own = some m.cls := by rw [hvm]; exact hown
  have hins : (Cond.instantiable cls 6).before args s' = true := h _ (by simp [Bundle.ownAtoms0])
  obtain ⟨vm₁, cX, kX, hfX, hkX, -, -, X₁, st1⟩ := Y.newCold hexec (own := own) (C := cls) (index := ik) (n := 6) hown' hk' hins hini'
    (g := F0 m pc ls rest) rfl (by rw [hb]; exact d0) (Nat.le_refl _) (Nat.le_refl _)
  generalize hT1 : (T.setVm vm₁).pushCell { cls := cX, slots := kX.instanceTypes.map defaultValue, vm := .none } = T1 at X₁ st1
  have hcat : (Value.ref T.heap.size).category = 1 := rfl
  have hcellA : T1.heap[T.heap.size]? = some (freshCell cX kX) := by rw [← hT1]; exact State.heap_pushCell_size _ _
  have d3' : decode c.code (pc + 3) = .ok (.dup, 1) := by rw [hb]; exact d3
  obtain ⟨U, hsteps, hrun, hend, hW, hsame, ce, hce, hO⟩ := X₁.ctorThrow0 hexec htr (own := own) (cls := cls) (names := names) (ic := ic) hown' hcls hnames h (fun x hx => nomatch hx) hfX hkX hcellA (by rw [hhp, hT]; exact Nat.le_refl _)
    (g := { method := m, pc := pc + 4, locals := ls, stack := .ref T.heap.size :: .ref T.heap.size :: rest, locked := none }) rfl hsize rfl rfl (rest := rest) rfl
    (by rw [hb]; exact d4) (by rw [hb]; exact d7) hout hRframes (by simp only [List.map_cons, List.sum_cons, hcat]; omega) hlocks
  obtain ⟨f1, f2⟩ := vx_frame hsame
  rw [hhp] at f1 f2
  have hWs : s.WarmedH U.vm := State.WarmedH.trans hW0 hW
  have hcl : s.vm.findClass cls = some ce.cls := by
    have h9 := hO.cls
    rw [hvm] at h9
    exact h9
  have hall : s.sameButNew ({ U with vm := s.vm } : State) locs mc ms := by
    subst hA
    obtain ⟨e1, e2⟩ := hsame
    rw [State.setFrames_setFrames] at e1
    have h2 : (T.setVm s.vm).sameButNew ({ U with vm := s.vm } : State) [] (0 + 1) (0 + 6) := ⟨e1, e2⟩
    have h3 := X.same.trans h2
    rw [List.append_nil] at h3
    exact h3.mono hc hs
  refine ⟨U, ?_, .threw T.heap.size, hrun, hend, Or.inr ⟨T.heap.size, rfl, cls, ce, locs, hx U hWs.alike f1 (fun q hq => f2 q hq (fun z hz => nomatch hz)), hce, hO.vm, hcl, hWs, hall, hf⟩⟩
  refine st1 _ ?_
  show Steps p.tables e below (T1.setTop { method := m, pc := pc + 3, locals := ls, stack := .ref T.heap.size :: rest, locked := none }) _
  jvm_step X₁.here [X₁.here.top, hexec, d3', Value.category]
  exact hsteps
/-- 'throw new E("text")': new; dup; ldc; invokespecial; athrow -/
theorem vx_throwS {cc : ByteArray} {pc : Nat} (hexec : p.tables.exec = Jvm.exec) (hb : c.code = cc) (hl : l.stackTraces = false) {own cls text : String} {names : List String} {ik is ic mc ms sa : Nat} {A : Nat → Prop}
    (hown : s.vm.findClass own = some m.cls) (hcls : Bundle.fit cls = true) (hnames : ∀ n ∈ names, Bundle.fit n = true)
    (hk : (Cond.classLink own ik cls).before args s = true) (hini : (Cond.initialized cls).before args s = true) (hstr : vk_R own is text sa s) (hat : ∀ w ∈ vx_atS own ic cls names, w.before args s = true)
    (hgood : ∀ w ∈ Cond.classLink own ik cls :: Cond.initialized cls :: vx_atS own ic cls names, vx_ot w = true)
    (hU : vx_Zq Bundle.tN "UNASSIGNED_STACK" Bundle.steD A s s.heap) (hN : vx_Zq Bundle.tN "SUPPRESSED_SENTINEL" Bundle.listD A s s.heap) (hS : va_S A s.heap H locs) (hsize : ls.size = c.maxLocals)
    (d0 : decode cc pc = .ok (.new ik, 3)) (d3 : decode cc (pc + 3) = .ok (.dup, 1)) (d4 : decode cc (pc + 4) = .ok (.ldc is, 2)) (d6 : decode cc (pc + 6) = .ok (.invokespecial ic, 3)) (d9 : decode cc (pc + 9) = .ok (.athrow, 1))
    (hout : ∀ x ∈ c.exceptionTable.toList, covers x (pc + 9) = false)
    (hRframes : names.length + 3 < R.frames) (hRlocals : (rest.map fun v => v.category).sum + (13 * (names.length + 1) + 43) ≤ R.locals) (hRcells : cells + 1 ≤ R.cells) (hRslots : slots + 6 ≤ R.slots) (hlocks : meth.locks = false)
    (hx : ∀ t : State, s.vm.Alike t.vm → H.size ≤ t.heap.size → (∀ q : Nat, q < H.size → t.heap[q]? = H[q]?) → XC cls s t)
    (hf : ∀ z ∈ locs, free z.base) (hc : cells + 1 ≤ mc) (hs : slots + 6 ≤ ms) :
    W p l e R s m args below meth c H locs cells slots (vx_MQ below Qc XC args s mc ms free) (F0 m pc ls rest) := by
  intro T hT X
  have htr : e.platform.stackTraces = false := (show e.platform.stackTraces = l.stackTraces by rw [X.admits.platform]).trans hl
  have Y := vx_rebase X (R' := { frames := R.frames, locals := R.locals, cells := 1, slots := 6 }) (Nat.le_refl _) (Nat.le_refl _) hRcells hRslots
  obtain ⟨s', hA⟩ : ∃ z, z = (T.setVm s.vm).setFrames (.invoking m args :: below) := ⟨_, rfl⟩
  rw [← hA] at Y
  have hvm : s'.vm = s.vm := by rw [hA]; rfl
  have hhp : s'.heap = H := by rw [hA]; exact hT
  have hW0 : s.WarmedH s'.vm := by rw [hvm]; exact State.WarmedH.refl s
  have hat' : ∀ w ∈ vx_atS own ic cls names, w.before args s' = true := fun w hw => vx_ot_at hW0 hvm.symm (hgood w (List.mem_cons_of_mem _ (List.mem_cons_of_mem _ hw))) (hat w hw)
  have hk' : (Cond.classLink own ik cls).before args s' = true := vx_ot_at hW0 hvm.symm (hgood _ List.mem_cons_self) hk
  have hini' : (Cond.initialized cls).before args s' = true := vx_ot_at hW0 hvm.symm (hgood _ (List.mem_cons_of_mem _ List.mem_cons_self)) hini
  have hU' : vx_Zq Bundle.tN "UNASSIGNED_STACK" Bundle.steD A s' s'.heap := by rw [hhp]; exact vx_Zq.moved hW0.alike (hU.kept hS.2.1)
  have hN' : vx_Zq Bundle.tN "SUPPRESSED_SENTINEL" Bundle.listD A s' s'.heap := by rw [hhp]; exact vx_Zq.moved hW0.alike (hN.kept hS.2.1)
  have h : ∀ w ∈ Bundle.ownAtoms own ic cls names, w.before args s' = true := vx_own hat' (vx_isRefq hU'.1) (vx_isRefq hN'.1) hU'.2.word hN'.2.word
  have hown' : s'.vm.findClass own = some m.cls := by rw [hvm]; exact hown
  have hins : (Cond.instantiable cls 6).before args s' = true := h _ (by simp [Bundle.ownAtoms])
  obtain ⟨vm₁, cX, kX, hfX, hkX, -, -, X₁, st1⟩ := Y.newCold hexec (own := own) (C := cls) (index := ik) (n := 6) hown' hk' hins hini'
    (g := F0 m pc ls rest) rfl (by rw [hb]; exact d0) (Nat.le_refl _) (Nat.le_refl _)
  generalize hT1 : (T.setVm vm₁).pushCell { cls := cX, slots := kX.instanceTypes.map defaultValue, vm := .none } = T1 at X₁ st1
  have hcat : (Value.ref T.heap.size).category = 1 := rfl
  have hcellA : T1.heap[T.heap.size]? = some (freshCell cX kX) := by rw [← hT1]; exact State.heap_pushCell_size _ _
  have d3' : decode c.code (pc + 3) = .ok (.dup, 1) := by rw [hb]; exact d3
  have d4' : decode c.code (pc + 4) = .ok (.ldc is, 2) := by rw [hb]; exact d4
  have hstr' : vk_R own is text sa s' := vk_R.warm hW0 hstr
  obtain ⟨U, hsteps, hrun, hend, hW, hsame, ce, hce, hO⟩ := X₁.ctorThrowS hexec htr (own := own) (cls := cls) (names := names) (ic := ic) hown' hcls hnames h (fun x hx => nomatch hx) hfX hkX hcellA (by rw [hhp, hT]; exact Nat.le_refl _) (msg := .ref sa) rfl
    (g := { method := m, pc := pc + 6, locals := ls, stack := .ref sa :: .ref T.heap.size :: .ref T.heap.size :: rest, locked := none }) rfl hsize rfl rfl (rest := rest) rfl
    (by rw [hb]; exact d6) (by rw [hb]; exact d9) hout hRframes (by simp only [List.map_cons, List.sum_cons, hcat]; omega) hlocks
  obtain ⟨f1, f2⟩ := vx_frame hsame
  rw [hhp] at f1 f2
  have hWs : s.WarmedH U.vm := State.WarmedH.trans hW0 hW
  have hcl : s.vm.findClass cls = some ce.cls := by
    have h9 := hO.cls
    rw [hvm] at h9
    exact h9
  have hall : s.sameButNew ({ U with vm := s.vm } : State) locs mc ms := by
    subst hA
    obtain ⟨e1, e2⟩ := hsame
    rw [State.setFrames_setFrames] at e1
    have h2 : (T.setVm s.vm).sameButNew ({ U with vm := s.vm } : State) [] (0 + 1) (0 + 6) := ⟨e1, e2⟩
    have h3 := X.same.trans h2
    rw [List.append_nil] at h3
    exact h3.mono hc hs
  refine ⟨U, ?_, .threw T.heap.size, hrun, hend, Or.inr ⟨T.heap.size, rfl, cls, ce, locs, hx U hWs.alike f1 (fun q hq => f2 q hq (fun z hz => nomatch hz)), hce, hO.vm, hcl, hWs, hall, hf⟩⟩
  refine st1 _ ?_
  show Steps p.tables e below (T1.setTop { method := m, pc := pc + 3, locals := ls, stack := .ref T.heap.size :: rest, locked := none }) _
  jvm_step X₁.here [X₁.here.top, hexec, d3', Value.category]
  exact X₁.ldcString hexec (own := own) (text := text) (index := is) (a := sa) hown' hstr'.1 hstr'.2
    (g := { method := m, pc := pc + 4, locals := ls, stack := .ref T.heap.size :: .ref T.heap.size :: rest, locked := none }) rfl d4' _ hsteps
end Ends
section Bodies
variable {l : Launch}
theorem vx_ofW {y : MethodName} {ws ws' : List Cond} {rm : Room} {Pc : Array Value → State → Prop} {Qc : Array Value → State → Outcome → State → Prop} {XC : String → State → State → Prop} {mc ms : Nat} {free : Addr → Prop} {cc : ByteArray} {maxL : Nat} {ret : Option FieldType}
    (hy : plainName y.cls = true) (hw : ws = Cond.code y cc maxL ret :: ws')
    (body : ∀ p e s m args below meth c s₁, BodyLoose p l y (headSpec ws rm) cc maxL ret e s m args below meth c s₁ → c.maxLocals = maxL → (∀ x ∈ c.exceptionTable.toList, False) → Pc args s →
      W p l e (headSpec ws rm).room s m args below meth c s.heap [] 0 0 (vx_MQ below Qc XC args s mc ms free) (entryFrame m args maxL)) : vx_Met l y ws rm Pc Qc XC mc ms free := by
  refine MetFree.of_bodyS (code := cc) (maxLocals := maxL) (ret := ret) hy ?_ ?_
  · intro args s m h hn
    obtain ⟨meth, c, h1, h2, h3, h4, h5, h6, -, -⟩ := Cond.code_spec hn (atoms_spec (ws := ws) h _ (by rw [hw]; exact List.mem_cons_self))
    exact ⟨meth, c, h1, h2, h3, h4, h5, h6⟩
  · intro p e s m args below meth c s₁ B hml hP _
    have hh0 : s₁.heap = s.heap := by rw [B.state]; rfl
    have ht : ∀ x ∈ c.exceptionTable.toList, False := by
      obtain ⟨meth9, c9, h1, h2, -, -, -, -, h7, -⟩ := Cond.code_spec B.named (atoms_spec (ws := ws) B.pre _ (by rw [hw]; exact List.mem_cons_self))
      cases Option.some.inj (h1.symm.trans B.method)
      cases Option.some.inj (h2.symm.trans (Stand.of_body B).code)
      intro x hx
      rw [Array.isEmpty_iff.mp h7] at hx
      cases hx
    obtain ⟨t, a1, o, b1, b2, b3⟩ := body p e s m args below meth c s₁ B hml ht hP s₁ hh0 (Stand.of_body B)
    exact ⟨t, o, a1, b1, b2, b3⟩
/-- the table of a body with handlers -/
theorem vx_table {p : Program} {x y : MethodName} {S : Spec} {cc bytes : ByteArray} {maxL maxL' : Nat} {ret ret' : Option FieldType} {e : Env} {s s₁ : State} {m : MethodId} {args : Array Value} {below : List Frame} {meth : Method} {c : Code} {hh : List (Nat × Nat × Nat × Nat)}
    (B : BodyLoose p l y S cc maxL ret e s m args below meth c s₁) (h : (Cond.codeWith y bytes maxL' ret' hh).before args s = true) : c.exceptionTable.toList = tableOf hh := by
  obtain ⟨m9, meth9, c9, hn9, h1, h2, -, -, h6, -⟩ := Cond.codeWith_spec h
  cases Option.some.inj (hn9.symm.trans B.named)
  cases Option.some.inj (h1.symm.trans B.method)
  cases Option.some.inj (h2.symm.trans (Stand.of_body B).code)
  rw [← h6, table_eq]
end Bodies
end VXA
/-! ===== END ===== -/
/-! ===== BEGIN a static call of a method with an exception table ===== -/
section VXS
variable {p : Program} {l : Launch} {e : Env} {R : Room} {s : State} {m : MethodId} {args : Array Value} {below : List Frame} {meth : Method} {c : Code} {T : State} {H : Heap} {locs : List Loc} {cells slots : Nat}
noncomputable abbrev vx_CSW (R : Room) (s : State) (args : Array Value) (own : String) (index : Nat) (y : MethodName) (bytes : ByteArray) (maxL : Nat) (ret : Option FieldType) (hh : List (Nat × Nat × Nat × Nat)) (ws : List Cond) (rm : Room) (mc ms n : Nat) : Prop :=
  (rm.cells = mc ∧ rm.slots = ms ∧ rm.frames + 1 ≤ R.frames ∧ 8 + (maxL + 11) + rm.locals ≤ R.locals ∧ (∀ w ∈ ws, ∀ (a' : Array Value) (U : State), s.WarmedH U.vm → w.before a' U = true) ∧ Cond.codeWith y bytes maxL ret hh ∈ ws) ∧
  (Cond.codeWith y bytes maxL ret hh).before args s = true ∧ (Cond.initialized y.cls).before args s = true ∧ (y.cls ≠ "java/lang/invoke/MethodHandle" ∧ y.cls ≠ "java/lang/invoke/VarHandle") ∧
  (∀ sig, parseMethodDescriptor y.desc = some sig → n = sig.parameters.length) ∧ (Cond.methodLink own index y).before args s = true ∧ (Cond.static y).before args s = true
theorem vx_callSW (X : Stand p l e R s m args below meth c T locs cells slots) (hexec : p.tables.exec = Jvm.exec) {own : String} {index : Nat} {y : MethodName} {bytes : ByteArray} {maxL : Nat} {ret : Option FieldType} {hh : List (Nat × Nat × Nat × Nat)}
    (hown : s.vm.findClass own = some m.cls) (hlink : (Cond.methodLink own index y).before args s = true) (hstat : (Cond.static y).before args s = true) (hinit : (Cond.initialized y.cls).before args s = true)
    (hcode : (Cond.codeWith y bytes maxL ret hh).before args s = true) (hy : y.cls ≠ "java/lang/invoke/MethodHandle" ∧ y.cls ≠ "java/lang/invoke/VarHandle")
    {W9 : Nat} {Pre : Pt → Array Value → Prop} {Post : Pt → Array Value → Option Value → Pt → Prop} (hK : Back l R p e below s args y 3 W9 Pre Post)
    {g : JFrame} (hg : g.method = m) (hsize : g.locals.size = c.maxLocals) {argsL rest : List Value} (hlen : ∀ sig, parseMethodDescriptor y.desc = some sig → argsL.length = sig.parameters.length)
    (hstack : g.stack = argsL.reverse ++ rest) (hW : 2 * g.monitorRoom + (rest.map fun v => v.category).sum ≤ W9) (hdg : decode c.code g.pc = .ok (.invokestatic index, 3))
    (hpre : ∀ vm₁, s.WarmedH vm₁ → Pre ⟨T.setVm vm₁, locs, cells, slots⟩ argsL.toArray) :
    ∃ (v : Option Value) (vm₁ : Vm) (B : Pt), s.WarmedH vm₁ ∧ Stand p l e R s m args below meth c B.U B.locs B.cells B.slots ∧ Post ⟨T.setVm vm₁, locs, cells, slots⟩ argsL.toArray v B ∧
      ∀ target, Steps p.tables e below (B.U.setTop { g with pc := g.pc + 3, stack := v.toList ++ rest }) target → Steps p.tables e below (T.setTop g) target := by
  obtain ⟨mk, methM, cM, hnamed, hmethM, -, -, -, -, -, -, hsigM⟩ := Cond.codeWith_spec hcode
  have hstatic : methM.isStatic = true := Cond.static_spec hnamed hmethM hstat
  obtain ⟨kP, hkP, -⟩ := className_of_methodNamed hnamed
  have hinitP : kP.init = .initialized := Cond.initialized_spec (findClass_of_methodNamed hnamed) hkP hinit
  obtain ⟨vm₁, X₁, hstep₁⟩ := X.invokestatic hexec hown hlink hnamed hmethM hstatic hkP hinitP hy (g := g) hg (argsL := argsL) (rest := rest) (hlen _ hsigM) hstack hdg
  obtain ⟨v, B, X', hpost, hsteps⟩ := hK m meth c ⟨T.setVm vm₁, locs, cells, slots⟩ { g with stack := rest } (.invokestatic index) mk argsL.toArray X₁ hg hsize hdg hW (X₁.named hnamed) (hpre vm₁ X₁.warmed)
  exact ⟨v, vm₁, B, X₁.warmed, X', hpost, fun target h => hstep₁ _ fun acts => by rw [doInvoke_state]; exact hsteps.trans h⟩
theorem vx_runSW {y : MethodName} {bytes cc : ByteArray} {maxL nL mc ms n index : Nat} {ret : Option FieldType} {hh : List (Nat × Nat × Nat × Nat)} {ws : List Cond} {rm : Room} {Pc : Array Value → State → Prop} {Qc : Array Value → State → Outcome → State → Prop} {free : Addr → Prop} {Ts : List Cond} {own : String} {As rest : List Value} {g : JFrame}
    (S : CallFix p m c cc nL s args Ts own) (hM : Met l y ws rm Pc Qc mc ms free) (cw : vx_CSW R s args own index y bytes maxL ret hh ws rm mc ms n) (hp : PreS s H Pc As)
    (hg : g.method = m) (hn : As.length = n) (hsize : g.locals.size = nL) (hstack : g.stack = As.reverse ++ rest) (hW : 2 * g.monitorRoom + (rest.map fun v => v.category).sum ≤ 8) (hdg : decode cc g.pc = .ok (.invokestatic index, 3)) (hf : cells + mc ≤ R.cells ∧ slots + ms ≤ R.slots) :
    va_Run p l e R s m args below meth c H locs cells slots mc ms g rest (Qc As.toArray) (free) := by
  obtain ⟨⟨hrc, hrs, hfr, hlo, hws, hcw⟩, hcode, hini, hy, hlen, hl, hstt⟩ := cw
  have hK : Back l R p e below s args y 3 8 (PreOf R mc ms Pc) (PostOf Qc mc ms free) := va_backW (hh := hh) (bytes := bytes) (maxL := maxL) (ret := ret) hM hp.1 hrc hrs hfr hlo hws hcw (fun a' U hW => word_at hW (Or.inl (by first | rfl | simp [Cond.onTables, Cond.keeps, Cond.steady])) hini)
  obtain ⟨hx, hb, hml, ho, -⟩ := S
  intro T hT X
  obtain ⟨v, vm₁, ⟨U', l2, c2, s2⟩, hW₁, X', ⟨g', mk, t, L, e1, e2, hq, h1, hL, h2, h3⟩, st⟩ := vx_callSW X hx (hh := hh) (bytes := bytes) (maxL := maxL) (ret := ret) ho hl hstt hini hcode hy hK hg (hsize.trans hml.symm) (argsL := As) (rest := rest) (fun sig h => hn.trans (hlen sig h)) hstack hW (by rw [hb]; exact hdg)
    (fun vm₁ hW₁ => ⟨hf.1, hf.2, hp.2 (T.setVm vm₁) hT hW₁⟩)
  dsimp only [Pt.U, Pt.locs, Pt.cells, Pt.slots] at X' e1 e2 h1 h2 h3 st
  subst h1; subst h2; subst h3
  exact ⟨v, (T.setVm vm₁).calling g' mk As.toArray, t, U', L, hT, X', hL, e1, e2, hq, st⟩
/-- not caught here, past rows that name other classes: it goes on to the caller -/
theorem vx_outP {p : Program} {l : Launch} {e : Env} {R : Room} {s : State} {m : MethodId} {args : Array Value} {below : List Frame} {meth : Method} {c : Code} {H : Heap} {locs : List Loc} {cells slots : Nat} {free : Addr → Prop} {ls : Array Slot} {rest : List Value} {Qc : Array Value → State → Outcome → State → Prop} {XC : String → State → State → Prop}
    {pc : Nat} {own E : String} {ce : Cell} {q : Addr} {mc ms : Nat} (hown : s.vm.findClass own = some m.cls) (hlocks : meth.locks = false)
    (hpass : ∀ z ∈ c.exceptionTable.toList, covers z pc = false ∨ (z.catchType ≠ 0 ∧ ∃ nm : String, (Cond.classLink own z.catchType nm).before args s = true ∧ va_Nc E nm s)) (hcell : H[q]? = some ce) (hv : ce.vm = .none) (hcl : s.vm.findClass E = some ce.cls)
    (hx : ∀ t : State, t.heap = H → s.vm.Alike t.vm → XC E s t) (hf : ∀ z ∈ locs, free z.base) (hc : cells ≤ mc) (hs : slots ≤ ms) :
    vx_W p l e R s m args below meth c H locs cells slots (vx_MQ below Qc XC args s mc ms free) (F0 m pc ls rest) q := by
  intro T hT X
  have hpl : e.platform.magicAccessors = ({} : Platform).magicAccessors := by rw [X.admits.platform]
  obtain ⟨vm', hW', X', st⟩ := Jvm.Stand.outThrough X hlocks q (g := F0 m pc ls rest) rfl rfl rfl (cell := ce) (by rw [hT]; exact hcell) (by rw [hv]; rfl)
    (by obtain ⟨k9, h9, -⟩ := Vm.findClass_spec hcl; exact ⟨k9, h9⟩) (fun z hz => by
      rcases hpass z hz with h | ⟨hz0, nm, hl1, hn1⟩
      · exact Or.inl h
      · obtain ⟨c6, hc6, hcl6⟩ := Cond.classLink_spec hown hl1 e.platform hpl
        obtain ⟨a8, b8, h1, h2, h3⟩ := hn1
        cases Option.some.inj (h1.symm.trans hcl)
        cases Option.some.inj (h2.symm.trans hc6)
        exact Or.inr ⟨hz0, _, hcl6, h3⟩)
  obtain ⟨g₀, hfr⟩ := X'.frames_eq
  have hcell9 : ((T.setVm vm').setFrames (.throwing q :: below)).heap[q]? = some ce := by
    show T.heap[q]? = some ce
    rw [hT]; exact hcell
  have hend : Ended ((T.setVm vm').setFrames (.throwing q :: below)) below (.threw q) := State.frames_setFrames _ (State.cur_lt_of_frames hfr)
  refine ⟨(T.setVm vm').setFrames (.throwing q :: below), ?_, .threw q, X'.here.running, hend, Or.inr ⟨q, rfl, E, ce, locs, hx _ hT (X'.ends _).1.alike, hcell9, hv, hcl, (X'.ends _).1, (X'.ends _).2.mono hc hs, hf⟩⟩
  rw [X.pushThrowing_eq]
  exact st
end VXS
/-! ===== END ===== -/
/-! ===== BEGIN methods with a table of their own: called by a name, returning or throwing ===== -/
section VXH
/-! vx_backW, vx_callVX, vx_callSX, vx_callVW, vx_runVW, vx_runVX, vx_runSX, vx_ofWH follow the same proofs as their sisters above (Free/Laws.lean, Shelf42/LK1.lean); vx_outP calls Shelf42/NT130.lean (outThrough). -/
section
variable {l : Launch} {R : Room} {p : Program} {e : Env} {below : List Frame} {s : State} {sargs : Array Value} {y : MethodName} {len W9 : Nat}
theorem vx_backW {ws : List Cond} {rm : Room} {Pc : Array Value → State → Prop} {Qc : Array Value → State → Outcome → State → Prop} {XC : String → State → State → Prop} {mc ms : Nat} {free : Addr → Prop} {bytes : ByteArray} {maxL : Nat} {ret : Option FieldType} {hh : List (Nat × Nat × Nat × Nat)}
    (hM : vx_Met l y ws rm Pc Qc XC mc ms free) (hblind : FrameBlind Pc) (hrc : rm.cells = mc) (hrs : rm.slots = ms)
    (hframes : rm.frames + 1 ≤ R.frames) (hlocals : W9 + (maxL + 11) + rm.locals ≤ R.locals)
    (hws : ∀ w ∈ ws, ∀ a' U, s.WarmedH U.vm → w.before a' U = true) (hcode : Cond.codeWith y bytes maxL ret hh ∈ ws) (hinit : ∀ a' U, s.WarmedH U.vm → (Cond.initialized y.cls).before a' U = true) :
    vx_Back l R p e below s sargs y len W9 (PreOf R mc ms Pc) (PostOf Qc mc ms free) (vx_Post XC mc ms free) := by
  intro m meth c A g ig mk a X hg hsize hdg hW hn hp
  have h1 : (headSpec ws rm).pre.before a A.U = true := atoms_intro fun w hw => hws w hw _ _ X.warmed
  have h2 : (Cond.codeWith y bytes maxL ret hh).before a A.U = true := hws _ hcode _ _ X.warmed
  have h3 : (Cond.initialized y.cls).before a A.U = true := hinit _ _ X.warmed
  have h4 : A.cells + (headSpec ws rm).room.cells ≤ R.cells := by rw [show (headSpec ws rm).room.cells = mc from hrc]; exact hp.1
  have h5 : A.slots + (headSpec ws rm).room.slots ≤ R.slots := by rw [show (headSpec ws rm).room.slots = ms from hrs]; exact hp.2.1
  have hPc : Pc a (A.U.calling g mk a) := hblind _ _ _ _ hp.2.2
  obtain ⟨U, Ls, c0, s0⟩ := A
  dsimp only [Pt.U, Pt.locs, Pt.cells, Pt.slots] at h1 h2 h3 h4 h5 X hn hPc ⊢
  obtain ⟨m9, methY, cY, hn9, hmY, hcY, -, hlY, -⟩ := Cond.codeWith_spec h2
  cases Option.some.inj (hn9.symm.trans hn)
  obtain ⟨kY, hkY, -⟩ := className_of_methodNamed hn
  have hinitY : kY.init = .initialized := Cond.initialized_spec (findClass_of_methodNamed hn) hkY h3
  have h : At U g.method c below := by rw [hg]; exact X.here
  have hlocals9 : W9 + (maxL + 11) + (headSpec ws rm).room.locals ≤ R.locals := hlocals
  have happ : (headSpec ws rm).appliesLoose y e.platform (U.calling g mk a) = true :=
    Spec.appliesLoose_calling (g := g) h hdg hn hkY hinitY
      (X.room_calling (g := g) (R' := (headSpec ws rm).room) hsize hmY hcY hframes (by rw [hlY]; omega) h4 h5) h1
  obtain ⟨mid, hmid⟩ := h.above
  have hfr : (U.setTop g).frames = (.java g :: mid) ++ below := by rw [State.frames_setTop' g h.top, hmid]; rfl
  obtain ⟨o, s₂, hsteps, -, hend, hq⟩ := Steps.callFree hM p X.admits X.cas X.clock (acts := []) hfr happ hPc trivial
  have hq' : vx_Q Qc XC mc ms free a (U.calling g mk a) o s₂ := hq
  rw [State.frames_setTop' g h.top] at hend
  obtain ⟨g₀, hg0⟩ := Option.isSome_iff_exists.mp h.top
  obtain ⟨r, hr⟩ := State.topJava?_eq_some.mp hg0
  have hr' : (({ U with heap := s₂.heap, slotsUsed := s₂.slotsUsed } : State).setVm s₂.vm).frames = .java g₀ :: r := hr
  rcases hq' with ⟨hqc, L, hfe, hL⟩ | ⟨q, rfl, E, ce, L, hx, hce, hcv, hcl, hW₂, hsm, hL⟩
  · obtain ⟨⟨v, rfl⟩, hW₂, e2, q2, q3, q4, q5, q6⟩ := id hfe
    have e3 : s₂ = ({ (U.calling g mk a).setFrames s₂.frames with heap := s₂.heap, slotsUsed := s₂.slotsUsed } : State).setVm s₂.vm := by
      have : s₂ = ({ s₂ with vm := (U.calling g mk a).vm } : State).setVm s₂.vm := rfl
      rw [e2] at this
      exact this
    obtain ⟨c₂, i₂, len₂, hc₂, hd₂, hf₂⟩ := hend
    have hW' : U.WarmedH s₂.vm := hW₂
    have hcc : c₂ = c := by
      have h1 : s₂.code? g.method = U.code? g.method := by
        rw [State.code?_eq, State.code?_eq, hW'.alike.method?]
      exact Option.some.inj (hc₂.symm.trans (h1.trans h.code))
    subst hcc
    have hlen : len₂ = len := by rw [hdg] at hd₂; cases hd₂; rfl
    subst hlen
    have hs₂ : s₂ = (({ U with heap := s₂.heap, slotsUsed := s₂.slotsUsed } : State).setVm s₂.vm).setTop { g with pc := g.pc + len₂, stack := v.toList ++ g.stack } := by
      refine e3.trans ?_
      rw [hf₂, State.calling_eq h.top, State.setFrames_setFrames, State.setTop_of_frames _ hr', hr]
      rfl
    have hsame : U.sameButNew ({ U with heap := s₂.heap, slotsUsed := s₂.slotsUsed } : State) L mc ms := by
      refine ⟨?_, q2, q3, q4, q5, q6⟩
      obtain ⟨t, ht, -⟩ := State.frames_cons hr
      show ({ U with heap := s₂.heap, slotsUsed := s₂.slotsUsed } : State) = { U.setFrames U.frames with heap := s₂.heap, slotsUsed := s₂.slotsUsed }
      rw [State.setFrames_self ht]
    subst hg
    refine Or.inl ⟨v, ⟨(({ U with heap := s₂.heap, slotsUsed := s₂.slotsUsed } : State).setVm s₂.vm), Ls ++ L, c0 + mc, s0 + ms⟩,
      ⟨X.admits, X.cas, X.clock, X.frames, X.room, X.hears, X.method, X.code, (X.here.setHeapUsed s₂.heap s₂.slotsUsed).setVm hW'.alike, X.tail, State.WarmedH.trans X.warmed hW', X.limits, X.bytes, X.same.trans (hsame.setVm s.vm)⟩,
      ⟨g, mk, s₂, L, rfl, rfl, hqc, rfl, hL, rfl, rfl⟩, ?_⟩
    show Steps p.tables e below _ ((({ U with heap := s₂.heap, slotsUsed := s₂.slotsUsed } : State).setVm s₂.vm).setTop { g with pc := g.pc + len₂, stack := v.toList ++ g.stack })
    rw [← hs₂]
    exact hsteps
  · obtain ⟨e2, q2, q3, q4, q5, q6⟩ := id hsm
    have e3 : s₂ = ({ (U.calling g mk a).setFrames s₂.frames with heap := s₂.heap, slotsUsed := s₂.slotsUsed } : State).setVm s₂.vm := by
      have : s₂ = ({ s₂ with vm := (U.calling g mk a).vm } : State).setVm s₂.vm := rfl
      rw [e2] at this
      exact this
    have hf₂ : s₂.frames = .throwing q :: .java g :: U.frames.tail := hend
    have hW' : U.WarmedH s₂.vm := hW₂
    have hs₂ : s₂ = ((({ U with heap := s₂.heap, slotsUsed := s₂.slotsUsed } : State).setVm s₂.vm).setTop g).pushFrame (.throwing q) := by
      refine e3.trans ?_
      rw [hf₂, State.calling_eq h.top, State.setFrames_setFrames, State.pushFrame, State.frames_setTop _ hr', State.setTop_of_frames _ hr', State.setFrames_setFrames, hr]
      rfl
    have hsame : U.sameButNew ({ U with heap := s₂.heap, slotsUsed := s₂.slotsUsed } : State) L mc ms := by
      refine ⟨?_, q2, q3, q4, q5, q6⟩
      obtain ⟨t, ht, -⟩ := State.frames_cons hr
      show ({ U with heap := s₂.heap, slotsUsed := s₂.slotsUsed } : State) = { U.setFrames U.frames with heap := s₂.heap, slotsUsed := s₂.slotsUsed }
      rw [State.setFrames_self ht]
    subst hg
    refine Or.inr ⟨q, ⟨(({ U with heap := s₂.heap, slotsUsed := s₂.slotsUsed } : State).setVm s₂.vm), Ls ++ L, c0 + mc, s0 + ms⟩,
      ⟨X.admits, X.cas, X.clock, X.frames, X.room, X.hears, X.method, X.code, (X.here.setHeapUsed s₂.heap s₂.slotsUsed).setVm hW'.alike, X.tail, State.WarmedH.trans X.warmed hW', X.limits, X.bytes, X.same.trans (hsame.setVm s.vm)⟩,
      ⟨g, mk, s₂, L, E, ce, rfl, rfl, hx, hce, hcv, hcl, rfl, hL, rfl, rfl⟩, ?_⟩
    show Steps p.tables e below _ (((({ U with heap := s₂.heap, slotsUsed := s₂.slotsUsed } : State).setVm s₂.vm).setTop g).pushFrame (.throwing q))
    rw [← hs₂]
    exact hsteps
end
variable {p : Program} {l : Launch} {e : Env} {R : Room} {s : State} {m : MethodId} {args : Array Value} {below : List Frame} {meth : Method} {c : Code} {T : State} {H : Heap} {locs : List Loc} {cells slots : Nat}
theorem vx_callVX (X : Stand p l e R s m args below meth c T locs cells slots) (hexec : p.tables.exec = Jvm.exec) {own C : String} {index : Nat} {y : MethodName} {bytes : ByteArray} {maxL : Nat} {ret : Option FieldType} {hh : List (Nat × Nat × Nat × Nat)}
    (hown : s.vm.findClass own = some m.cls) (hlink : (Cond.methodLink own index y).before args s = true) (hinst : (Cond.instanceMethod y).before args s = true) (hsel : (Cond.selects C y y).before args s = true)
    (hcode : (Cond.codeWith y bytes maxL ret hh).before args s = true) (hy : y.cls ≠ "java/lang/invoke/MethodHandle" ∧ y.cls ≠ "java/lang/invoke/VarHandle")
    {W9 : Nat} {Pre : Pt → Array Value → Prop} {Post : Pt → Array Value → Option Value → Pt → Prop} {PostX : Pt → Array Value → Addr → Pt → Prop} (hK : vx_Back l R p e below s args y 3 W9 Pre Post PostX)
    {b : Addr} {cellB : Cell} (hcell : T.heap[b]? = some cellB) (hobj : cellB.vm.isStatics = false) (hcls : s.vm.findClass C = some cellB.cls)
    {g : JFrame} (hg : g.method = m) (hsize : g.locals.size = c.maxLocals) {argsL rest : List Value} (hlen : ∀ sig, parseMethodDescriptor y.desc = some sig → argsL.length = sig.parameters.length)
    (hstack : g.stack = argsL.reverse ++ .ref b :: rest) (hW : 2 * g.monitorRoom + (rest.map fun v => v.category).sum ≤ W9) (hdg : decode c.code g.pc = .ok (.invokevirtual index, 3))
    (hpre : ∀ vm₁, s.WarmedH vm₁ → Pre ⟨T.setVm vm₁, locs, cells, slots⟩ (Value.ref b :: argsL).toArray) :
    (∃ (v : Option Value) (vm₁ : Vm) (B : Pt), s.WarmedH vm₁ ∧ Stand p l e R s m args below meth c B.U B.locs B.cells B.slots ∧ Post ⟨T.setVm vm₁, locs, cells, slots⟩ (Value.ref b :: argsL).toArray v B ∧
      ∀ target, Steps p.tables e below (B.U.setTop { g with pc := g.pc + 3, stack := v.toList ++ rest }) target → Steps p.tables e below (T.setTop g) target) ∨
    (∃ (q : Addr) (vm₁ : Vm) (B : Pt), s.WarmedH vm₁ ∧ Stand p l e R s m args below meth c B.U B.locs B.cells B.slots ∧ PostX ⟨T.setVm vm₁, locs, cells, slots⟩ (Value.ref b :: argsL).toArray q B ∧
      Steps p.tables e below (T.setTop g) ((B.U.setTop { g with stack := rest }).pushFrame (.throwing q))) := by
  obtain ⟨mk, methM, hnamed, hmethM, hstM, habM⟩ := Cond.instanceMethod_spec hinst
  obtain ⟨m8, methM', cM, hn8, hmethM', -, -, -, -, -, -, hsigM⟩ := Cond.codeWith_spec hcode
  cases Option.some.inj (hn8.symm.trans hnamed)
  cases hmethM.symm.trans hmethM'
  obtain ⟨c2, r2, m2, q1, q2, q3, q4, kP, hkP, hkPi⟩ := Cond.selects_spec hsel
  cases hcls.symm.trans q1
  cases (State.methodFound?_of_named hnamed hy).symm.trans q2
  cases hnamed.symm.trans q3
  have hselP : selectMethod e.platform s.vm cellB.cls mk = .method mk := by rw [Launch.admits_selectMethod X.admits]; exact q4
  obtain ⟨vm₁, X₁, hstep₁⟩ := X.invokevirtual hexec hown hlink hnamed hmethM hstM hkP hkPi hy (a := b) (cell := cellB) hcell
    (fun z h => by rw [h] at hobj; cases hobj) hselP hmethM habM hkP hkPi (g := g) hg (argsL := argsL) (rest := rest) (hlen _ hsigM) hstack hdg
  rcases hK m meth c ⟨T.setVm vm₁, locs, cells, slots⟩ { g with stack := rest } (.invokevirtual index) mk (Value.ref b :: argsL).toArray X₁ hg hsize hdg hW (X₁.named hnamed) (hpre vm₁ X₁.warmed) with ⟨v, B, X', hpost, hsteps⟩ | ⟨q, B, X', hpost, hsteps⟩
  · exact Or.inl ⟨v, vm₁, B, X₁.warmed, X', hpost, fun target h => hstep₁ _ fun acts => by rw [doInvoke_state]; exact hsteps.trans h⟩
  · exact Or.inr ⟨q, vm₁, B, X₁.warmed, X', hpost, hstep₁ _ fun acts => by rw [doInvoke_state]; exact hsteps⟩
theorem vx_callSX (X : Stand p l e R s m args below meth c T locs cells slots) (hexec : p.tables.exec = Jvm.exec) {own : String} {index : Nat} {y : MethodName} {bytes : ByteArray} {maxL : Nat} {ret : Option FieldType} {hh : List (Nat × Nat × Nat × Nat)}
    (hown : s.vm.findClass own = some m.cls) (hlink : (Cond.methodLink own index y).before args s = true) (hstat : (Cond.static y).before args s = true) (hinit : (Cond.initialized y.cls).before args s = true)
    (hcode : (Cond.codeWith y bytes maxL ret hh).before args s = true) (hy : y.cls ≠ "java/lang/invoke/MethodHandle" ∧ y.cls ≠ "java/lang/invoke/VarHandle")
    {W9 : Nat} {Pre : Pt → Array Value → Prop} {Post : Pt → Array Value → Option Value → Pt → Prop} {PostX : Pt → Array Value → Addr → Pt → Prop} (hK : vx_Back l R p e below s args y 3 W9 Pre Post PostX)
    {g : JFrame} (hg : g.method = m) (hsize : g.locals.size = c.maxLocals) {argsL rest : List Value} (hlen : ∀ sig, parseMethodDescriptor y.desc = some sig → argsL.length = sig.parameters.length)
    (hstack : g.stack = argsL.reverse ++ rest) (hW : 2 * g.monitorRoom + (rest.map fun v => v.category).sum ≤ W9) (hdg : decode c.code g.pc = .ok (.invokestatic index, 3))
    (hpre : ∀ vm₁, s.WarmedH vm₁ → Pre ⟨T.setVm vm₁, locs, cells, slots⟩ argsL.toArray) :
    (∃ (v : Option Value) (vm₁ : Vm) (B : Pt), s.WarmedH vm₁ ∧ Stand p l e R s m args below meth c B.U B.locs B.cells B.slots ∧ Post ⟨T.setVm vm₁, locs, cells, slots⟩ argsL.toArray v B ∧
      ∀ target, Steps p.tables e below (B.U.setTop { g with pc := g.pc + 3, stack := v.toList ++ rest }) target → Steps p.tables e below (T.setTop g) target) ∨
    (∃ (q : Addr) (vm₁ : Vm) (B : Pt), s.WarmedH vm₁ ∧ Stand p l e R s m args below meth c B.U B.locs B.cells B.slots ∧ PostX ⟨T.setVm vm₁, locs, cells, slots⟩ argsL.toArray q B ∧
      Steps p.tables e below (T.setTop g) ((B.U.setTop { g with stack := rest }).pushFrame (.throwing q))) := by
  obtain ⟨mk, methM, cM, hnamed, hmethM, -, -, -, -, -, -, hsigM⟩ := Cond.codeWith_spec hcode
  have hstatic : methM.isStatic = true := Cond.static_spec hnamed hmethM hstat
  obtain ⟨kP, hkP, -⟩ := className_of_methodNamed hnamed
  have hinitP : kP.init = .initialized := Cond.initialized_spec (findClass_of_methodNamed hnamed) hkP hinit
  obtain ⟨vm₁, X₁, hstep₁⟩ := X.invokestatic hexec hown hlink hnamed hmethM hstatic hkP hinitP hy (g := g) hg (argsL := argsL) (rest := rest) (hlen _ hsigM) hstack hdg
  rcases hK m meth c ⟨T.setVm vm₁, locs, cells, slots⟩ { g with stack := rest } (.invokestatic index) mk argsL.toArray X₁ hg hsize hdg hW (X₁.named hnamed) (hpre vm₁ X₁.warmed) with ⟨v, B, X', hpost, hsteps⟩ | ⟨q, B, X', hpost, hsteps⟩
  · exact Or.inl ⟨v, vm₁, B, X₁.warmed, X', hpost, fun target h => hstep₁ _ fun acts => by rw [doInvoke_state]; exact hsteps.trans h⟩
  · exact Or.inr ⟨q, vm₁, B, X₁.warmed, X', hpost, hstep₁ _ fun acts => by rw [doInvoke_state]; exact hsteps⟩
theorem vx_callVW (X : Stand p l e R s m args below meth c T locs cells slots) (hexec : p.tables.exec = Jvm.exec) {own C : String} {index : Nat} {y : MethodName} {bytes : ByteArray} {maxL : Nat} {ret : Option FieldType} {hh : List (Nat × Nat × Nat × Nat)}
    (hown : s.vm.findClass own = some m.cls) (hlink : (Cond.methodLink own index y).before args s = true) (hinst : (Cond.instanceMethod y).before args s = true) (hsel : (Cond.selects C y y).before args s = true)
    (hcode : (Cond.codeWith y bytes maxL ret hh).before args s = true) (hy : y.cls ≠ "java/lang/invoke/MethodHandle" ∧ y.cls ≠ "java/lang/invoke/VarHandle")
    {W9 : Nat} {Pre : Pt → Array Value → Prop} {Post : Pt → Array Value → Option Value → Pt → Prop} (hK : Back l R p e below s args y 3 W9 Pre Post)
    {b : Addr} {cellB : Cell} (hcell : T.heap[b]? = some cellB) (hobj : cellB.vm.isStatics = false) (hcls : s.vm.findClass C = some cellB.cls)
    {g : JFrame} (hg : g.method = m) (hsize : g.locals.size = c.maxLocals) {argsL rest : List Value} (hlen : ∀ sig, parseMethodDescriptor y.desc = some sig → argsL.length = sig.parameters.length)
    (hstack : g.stack = argsL.reverse ++ .ref b :: rest) (hW : 2 * g.monitorRoom + (rest.map fun v => v.category).sum ≤ W9) (hdg : decode c.code g.pc = .ok (.invokevirtual index, 3))
    (hpre : ∀ vm₁, s.WarmedH vm₁ → Pre ⟨T.setVm vm₁, locs, cells, slots⟩ (Value.ref b :: argsL).toArray) :
    ∃ (v : Option Value) (vm₁ : Vm) (B : Pt), s.WarmedH vm₁ ∧ Stand p l e R s m args below meth c B.U B.locs B.cells B.slots ∧ Post ⟨T.setVm vm₁, locs, cells, slots⟩ (Value.ref b :: argsL).toArray v B ∧
      ∀ target, Steps p.tables e below (B.U.setTop { g with pc := g.pc + 3, stack := v.toList ++ rest }) target → Steps p.tables e below (T.setTop g) target := by
  obtain ⟨mk, methM, hnamed, hmethM, hstM, habM⟩ := Cond.instanceMethod_spec hinst
  obtain ⟨m8, methM', cM, hn8, hmethM', -, -, -, -, -, -, hsigM⟩ := Cond.codeWith_spec hcode
  cases Option.some.inj (hn8.symm.trans hnamed)
  cases hmethM.symm.trans hmethM'
  obtain ⟨c2, r2, m2, q1, q2, q3, q4, kP, hkP, hkPi⟩ := Cond.selects_spec hsel
  cases hcls.symm.trans q1
  cases (State.methodFound?_of_named hnamed hy).symm.trans q2
  cases hnamed.symm.trans q3
  have hselP : selectMethod e.platform s.vm cellB.cls mk = .method mk := by rw [Launch.admits_selectMethod X.admits]; exact q4
  obtain ⟨vm₁, X₁, hstep₁⟩ := X.invokevirtual hexec hown hlink hnamed hmethM hstM hkP hkPi hy (a := b) (cell := cellB) hcell
    (fun z h => by rw [h] at hobj; cases hobj) hselP hmethM habM hkP hkPi (g := g) hg (argsL := argsL) (rest := rest) (hlen _ hsigM) hstack hdg
  obtain ⟨v, B, X', hpost, hsteps⟩ := hK m meth c ⟨T.setVm vm₁, locs, cells, slots⟩ { g with stack := rest } (.invokevirtual index) mk (Value.ref b :: argsL).toArray X₁ hg hsize hdg hW (X₁.named hnamed) (hpre vm₁ X₁.warmed)
  exact ⟨v, vm₁, B, X₁.warmed, X', hpost, fun target h => hstep₁ _ fun acts => by rw [doInvoke_state]; exact hsteps.trans h⟩
noncomputable abbrev vx_CVW (R : Room) (s : State) (args : Array Value) (own C : String) (index : Nat) (y : MethodName) (bytes : ByteArray) (maxL : Nat) (ret : Option FieldType) (hh : List (Nat × Nat × Nat × Nat)) (ws : List Cond) (rm : Room) (mc ms n : Nat) : Prop :=
  (rm.cells = mc ∧ rm.slots = ms ∧ rm.frames + 1 ≤ R.frames ∧ 8 + (maxL + 11) + rm.locals ≤ R.locals ∧ (∀ w ∈ ws, ∀ (a' : Array Value) (U : State), s.WarmedH U.vm → w.before a' U = true) ∧ Cond.codeWith y bytes maxL ret hh ∈ ws) ∧
  (Cond.codeWith y bytes maxL ret hh).before args s = true ∧ (Cond.initialized y.cls).before args s = true ∧ (y.cls ≠ "java/lang/invoke/MethodHandle" ∧ y.cls ≠ "java/lang/invoke/VarHandle") ∧
  (∀ sig, parseMethodDescriptor y.desc = some sig → n = sig.parameters.length) ∧ (Cond.methodLink own index y).before args s = true ∧ (Cond.instanceMethod y).before args s = true ∧ (Cond.selects C y y).before args s = true
theorem vx_runVW {y : MethodName} {bytes cc : ByteArray} {maxL nL mc ms n index : Nat} {ret : Option FieldType} {hh : List (Nat × Nat × Nat × Nat)} {ws : List Cond} {rm : Room} {Pc : Array Value → State → Prop} {Qc : Array Value → State → Outcome → State → Prop} {free : Addr → Prop} {Ts : List Cond} {own C : String} {b : Addr} {As rest : List Value} {g : JFrame}
    (S : CallFix p m c cc nL s args Ts own) (hM : Met l y ws rm Pc Qc mc ms free) (cw : vx_CVW R s args own C index y bytes maxL ret hh ws rm mc ms n) (hp : PreV s H C b Pc As)
    (hg : g.method = m) (hn : As.length = n) (hsize : g.locals.size = nL) (hstack : g.stack = As.reverse ++ .ref b :: rest) (hW : 2 * g.monitorRoom + (rest.map fun v => v.category).sum ≤ 8) (hdg : decode cc g.pc = .ok (.invokevirtual index, 3)) (hf : cells + mc ≤ R.cells ∧ slots + ms ≤ R.slots) :
    va_Run p l e R s m args below meth c H locs cells slots mc ms g rest (Qc (Value.ref b :: As).toArray) free := by
  obtain ⟨⟨hrc, hrs, hfr, hlo, hws, hcw⟩, hcode, hini, hy, hlen, hl, hin, hse⟩ := cw
  have hK : Back l R p e below s args y 3 8 (PreOf R mc ms Pc) (PostOf Qc mc ms free) := va_backW (hh := hh) (bytes := bytes) (maxL := maxL) (ret := ret) hM hp.1 hrc hrs hfr hlo hws hcw (fun a' U hW => word_at hW (Or.inl (by first | rfl | simp [Cond.onTables, Cond.keeps, Cond.steady])) hini)
  obtain ⟨hx, hb, hml, ho, -⟩ := S
  obtain ⟨-, ⟨cellB, hcB, hoB, hclB⟩, hPc⟩ := hp
  intro T hT X
  obtain ⟨v, vm₁, ⟨U', l2, c2, s2⟩, hW₁, X', ⟨g', mk, t, L, e1, e2, hq, h1, hL, h2, h3⟩, st⟩ := vx_callVW X hx (C := C) (hh := hh) (bytes := bytes) (maxL := maxL) (ret := ret) ho hl hin hse hcode hy hK (by rw [hT]; exact hcB) hoB hclB hg (hsize.trans hml.symm) (argsL := As) (rest := rest) (fun sig h => hn.trans (hlen sig h)) hstack hW (by rw [hb]; exact hdg)
    (fun vm₁ hW₁ => ⟨hf.1, hf.2, hPc (T.setVm vm₁) hT hW₁⟩)
  dsimp only [Pt.U, Pt.locs, Pt.cells, Pt.slots] at X' e1 e2 h1 h2 h3 st
  subst h1; subst h2; subst h3
  exact ⟨v, (T.setVm vm₁).calling g' mk (Value.ref b :: As).toArray, t, U', L, hT, X', hL, e1, e2, hq, st⟩
section
variable {y : MethodName} {bytes cc : ByteArray} {maxL nL mc ms n index : Nat} {ret : Option FieldType} {ws : List Cond} {rm : Room} {Pc : Array Value → State → Prop} {Qc : Array Value → State → Outcome → State → Prop} {XC : String → State → State → Prop} {free : Addr → Prop} {Ts : List Cond} {own C : String} {b : Addr} {As rest : List Value} {g : JFrame}
theorem vx_runVX {hh : List (Nat × Nat × Nat × Nat)} (S : CallFix p m c cc nL s args Ts own) (hM : vx_Met l y ws rm Pc Qc XC mc ms free) (cw : vx_CVW R s args own C index y bytes maxL ret hh ws rm mc ms n) (hp : PreV s H C b Pc As)
    (hg : g.method = m) (hn : As.length = n) (hsize : g.locals.size = nL) (hstack : g.stack = As.reverse ++ .ref b :: rest) (hW : 2 * g.monitorRoom + (rest.map fun v => v.category).sum ≤ 8) (hdg : decode cc g.pc = .ok (.invokevirtual index, 3)) (hf : cells + mc ≤ R.cells ∧ slots + ms ≤ R.slots) :
    vx_Run p l e R s m args below meth c H locs cells slots mc ms g rest (Qc (Value.ref b :: As).toArray) XC free := by
  obtain ⟨⟨hrc, hrs, hfr, hlo, hws, hcw⟩, hcode, hini, hy, hlen, hl, hin, hse⟩ := cw
  have hK : vx_Back l R p e below s args y 3 8 (PreOf R mc ms Pc) (PostOf Qc mc ms free) (vx_Post XC mc ms free) := vx_backW (hh := hh) (bytes := bytes) (maxL := maxL) (ret := ret) hM hp.1 hrc hrs hfr hlo hws hcw (fun a' U hW => word_at hW (Or.inl (by first | rfl | simp [Cond.onTables, Cond.keeps, Cond.steady])) hini)
  obtain ⟨hx, hb, hml, ho, -⟩ := S
  obtain ⟨-, ⟨cellB, hcB, hoB, hclB⟩, hPc⟩ := hp
  intro T hT X
  rcases vx_callVX X hx (C := C) (hh := hh) (bytes := bytes) (maxL := maxL) (ret := ret) ho hl hin hse hcode hy hK (by rw [hT]; exact hcB) hoB hclB hg (hsize.trans hml.symm) (argsL := As) (rest := rest) (fun sig h => hn.trans (hlen sig h)) hstack hW (by rw [hb]; exact hdg)
    (fun vm₁ hW₁ => ⟨hf.1, hf.2, hPc (T.setVm vm₁) hT hW₁⟩) with ⟨v, vm₁, ⟨U', l2, c2, s2⟩, hW₁, X', ⟨g', mk, t, L, e1, e2, hq, h1, hL, h2, h3⟩, st⟩ | ⟨q, vm₁, ⟨U', l2, c2, s2⟩, hW₁, X', ⟨g', mk, t, L, E, ce, e1, e2, hq, hce, hcv, hcl, h1, hL, h2, h3⟩, st⟩
  · dsimp only [Pt.U, Pt.locs, Pt.cells, Pt.slots] at X' e1 e2 h1 h2 h3 st
    subst h1; subst h2; subst h3
    exact Or.inl ⟨v, (T.setVm vm₁).calling g' mk (Value.ref b :: As).toArray, t, U', L, hT, X', hL, e1, e2, hq, st⟩
  · dsimp only [Pt.U, Pt.locs, Pt.cells, Pt.slots] at X' e1 e2 h1 h2 h3 st hcl
    subst h1; subst h2; subst h3
    exact Or.inr ⟨q, (T.setVm vm₁).calling g' mk (Value.ref b :: As).toArray, t, U', L, E, ce, hT, X', hL, e1, e2, hq, hce, hcv, vx_cls hW₁ hcl, st⟩
theorem vx_runSX {hh : List (Nat × Nat × Nat × Nat)} (S : CallFix p m c cc nL s args Ts own) (hM : vx_Met l y ws rm Pc Qc XC mc ms free) (cw : vx_CSW R s args own index y bytes maxL ret hh ws rm mc ms n) (hp : PreS s H Pc As)
    (hg : g.method = m) (hn : As.length = n) (hsize : g.locals.size = nL) (hstack : g.stack = As.reverse ++ rest) (hW : 2 * g.monitorRoom + (rest.map fun v => v.category).sum ≤ 8) (hdg : decode cc g.pc = .ok (.invokestatic index, 3)) (hf : cells + mc ≤ R.cells ∧ slots + ms ≤ R.slots) :
    vx_Run p l e R s m args below meth c H locs cells slots mc ms g rest (Qc As.toArray) XC free := by
  obtain ⟨⟨hrc, hrs, hfr, hlo, hws, hcw⟩, hcode, hini, hy, hlen, hl, hstt⟩ := cw
  have hK : vx_Back l R p e below s args y 3 8 (PreOf R mc ms Pc) (PostOf Qc mc ms free) (vx_Post XC mc ms free) := vx_backW (hh := hh) (bytes := bytes) (maxL := maxL) (ret := ret) hM hp.1 hrc hrs hfr hlo hws hcw (fun a' U hW => word_at hW (Or.inl (by first | rfl | simp [Cond.onTables, Cond.keeps, Cond.steady])) hini)
  obtain ⟨hx, hb, hml, ho, -⟩ := S
  intro T hT X
  rcases vx_callSX X hx (hh := hh) (bytes := bytes) (maxL := maxL) (ret := ret) ho hl hstt hini hcode hy hK hg (hsize.trans hml.symm) (argsL := As) (rest := rest) (fun sig h => hn.trans (hlen sig h)) hstack hW (by rw [hb]; exact hdg)
    (fun vm₁ hW₁ => ⟨hf.1, hf.2, hp.2 (T.setVm vm₁) hT hW₁⟩) with ⟨v, vm₁, ⟨U', l2, c2, s2⟩, hW₁, X', ⟨g', mk, t, L, e1, e2, hq, h1, hL, h2, h3⟩, st⟩ | ⟨q, vm₁, ⟨U', l2, c2, s2⟩, hW₁, X', ⟨g', mk, t, L, E, ce, e1, e2, hq, hce, hcv, hcl, h1, hL, h2, h3⟩, st⟩
  · dsimp only [Pt.U, Pt.locs, Pt.cells, Pt.slots] at X' e1 e2 h1 h2 h3 st
    subst h1; subst h2; subst h3
    exact Or.inl ⟨v, (T.setVm vm₁).calling g' mk As.toArray, t, U', L, hT, X', hL, e1, e2, hq, st⟩
  · dsimp only [Pt.U, Pt.locs, Pt.cells, Pt.slots] at X' e1 e2 h1 h2 h3 st hcl
    subst h1; subst h2; subst h3
    exact Or.inr ⟨q, (T.setVm vm₁).calling g' mk As.toArray, t, U', L, E, ce, hT, X', hL, e1, e2, hq, hce, hcv, vx_cls hW₁ hcl, st⟩
end
end VXH
theorem vx_ofWH {l : Launch} {y : MethodName} {ws ws' : List Cond} {rm : Room} {Pc : Array Value → State → Prop} {Qc : Array Value → State → Outcome → State → Prop} {XC : String → State → State → Prop} {mc ms : Nat} {free : Addr → Prop} {cc : ByteArray} {maxL : Nat} {ret : Option FieldType} {hh : List (Nat × Nat × Nat × Nat)}
    (hy : plainName y.cls = true) (hw : ws = Cond.codeWith y cc maxL ret hh :: ws')
    (body : ∀ p e s m args below meth c s₁, BodyLoose p l y (headSpec ws rm) cc maxL ret e s m args below meth c s₁ → c.maxLocals = maxL → Pc args s →
      W p l e (headSpec ws rm).room s m args below meth c s.heap [] 0 0 (vx_MQ below Qc XC args s mc ms free) (entryFrame m args maxL)) : vx_Met l y ws rm Pc Qc XC mc ms free := by
  refine MetFree.of_bodyS (code := cc) (maxLocals := maxL) (ret := ret) hy ?_ ?_
  · intro args s m h hn
    obtain ⟨m9, meth, c, hn9, h1, h2, h3, h4, -, h5, h6, -⟩ := Cond.codeWith_spec (atoms_spec (ws := ws) h _ (by rw [hw]; exact List.mem_cons_self))
    cases hn.symm.trans hn9
    exact ⟨meth, c, h1, h2, h3, h4, h5, h6⟩
  · intro p e s m args below meth c s₁ B hml hP _
    have hh0 : s₁.heap = s.heap := by rw [B.state]; rfl
    obtain ⟨t, a1, o, b1, b2, b3⟩ := body p e s m args below meth c s₁ B hml hP s₁ hh0 (Stand.of_body B)
    exact ⟨t, o, a1, b1, b2, b3⟩
/-! ===== END ===== -/
end
section
/-! the throw whose first constructor passes its text on by index 13 -/
noncomputable abbrev b13 : ByteArray := ⟨#[0x2a, 0x2b, 0xb7, 0x00, 0x0d, 0xb1]⟩
theorem b13_0 : decode b13 0 = .ok (.aload_n 0, 1) := by decide +kernel
theorem b13_1 : decode b13 1 = .ok (.aload_n 1, 1) := by decide +kernel
theorem b13_2 : decode b13 2 = .ok (.invokespecial 13, 3) := by decide +kernel
theorem b13_5 : decode b13 5 = .ok (.return_, 1) := by decide +kernel
/-- the words of the object's own kind -/
noncomputable def o13 (own : String) (ic : Nat) (E : String) : List Cond := [.methodLink own ic (Bundle.initS E), .instantiable E 6, .selects E Bundle.tFill0 Bundle.tFill0, .selects E Bundle.tFill Bundle.tFill, .castable E E,
  .lays E Bundle.tN "cause" "Ljava/lang/Throwable;", .lays E Bundle.tN "stackTrace" Bundle.steD, .lays E Bundle.tN "suppressedExceptions" Bundle.listD, .lays E Bundle.tN "detailMessage" "Ljava/lang/String;", .lays E Bundle.tN "backtrace" "Ljava/lang/Object;",
  .isRef (.static Bundle.tN "UNASSIGNED_STACK" Bundle.steD), .isRef (.static Bundle.tN "SUPPRESSED_SENTINEL" Bundle.listD), .fieldLink Bundle.tN 198 Bundle.tN "backtrace" "Ljava/lang/Object;", .lays Bundle.tN Bundle.tN "backtrace" "Ljava/lang/Object;"]
noncomputable def a13 (own : String) (ic : Nat) (E F : String) (up : List String) : List Cond := Bundle.throwableAtoms ++ (Bundle.throwableSAtoms ++ (Bundle.passSAtoms E F 13 b13 ++ (Bundle.chainSAtoms F up ++ o13 own ic E)))
theorem a13_t {own E F : String} {ic : Nat} {up : List String} {w : Cond} (h : w ∈ Bundle.throwableAtoms) : w ∈ a13 own ic E F up := List.mem_append_left _ h
theorem a13_s {own E F : String} {ic : Nat} {up : List String} {w : Cond} (h : w ∈ Bundle.throwableSAtoms) : w ∈ a13 own ic E F up := List.mem_append_right _ (List.mem_append_left _ h)
theorem a13_p {own E F : String} {ic : Nat} {up : List String} {w : Cond} (h : w ∈ Bundle.passSAtoms E F 13 b13) : w ∈ a13 own ic E F up := List.mem_append_right _ (List.mem_append_right _ (List.mem_append_left _ h))
theorem a13_c {own E F : String} {ic : Nat} {up : List String} {w : Cond} (h : w ∈ Bundle.chainSAtoms F up) : w ∈ a13 own ic E F up := List.mem_append_right _ (List.mem_append_right _ (List.mem_append_right _ (List.mem_append_left _ h)))
theorem a13_o {own E F : String} {ic : Nat} {up : List String} {w : Cond} (h : w ∈ o13 own ic E) : w ∈ a13 own ic E F up := List.mem_append_right _ (List.mem_append_right _ (List.mem_append_right _ (List.mem_append_right _ h)))
theorem ch13 {args : Array Value} {s : State} {pl : Platform} (hpl : pl.magicAccessors = ({} : Platform).magicAccessors) {top : MethodId} (htop : s.methodNamed? (Bundle.initS Bundle.tN) = some top) {own E F : String} {ic : Nat} {up : List String} (hE : Bundle.fit E = true) (hF : Bundle.fit F = true) (hup : ∀ n ∈ up, Bundle.fit n = true) (h : ∀ w ∈ a13 own ic E F up, w.before args s = true) :
    ∃ (P : PassC) (Ps : List PassC), Ps.length = up.length + 1 ∧ (∀ Q, Q ∈ P :: Ps → Q.LinksS pl s) ∧ s.methodNamed? (Bundle.initS E) = some P.m ∧ P.sup = firstOf top (Ps.map (·.toPassT)) ∧ PassesOn top (Ps.map (·.toPassT)) := by
  obtain ⟨P, k1, k2, k3⟩ := PassC.ofS_atoms (args := args) (s := s) hpl (X := E) (Y := F) (Bundle.fit_spec hE).1 (Bundle.fit_spec hF).2 b13_0 b13_1 b13_2 b13_5 (fun w hw => h w (a13_p hw))
  obtain ⟨P2, Ps, j1, j2, j3, j4, j5, j6⟩ := Bundle.chainS (args := args) hpl htop up F hF hup (fun w hw => h w (a13_c hw))
  exact ⟨P, P2 :: Ps, congrArg (· + 1) j1, List.forall_mem_cons.mpr ⟨k1, List.forall_mem_cons.mpr ⟨j2, j3⟩⟩, k2, Option.some.inj (k3.symm.trans j4), j5, j6⟩
section T13
variable {p : Program} {l : Launch} {e : Env} {R : Room} {s : State} {m : MethodId} {args : Array Value} {below : List Frame} {meth : Method} {c : Code} {T : State} {locs : List Loc} {cells slots : Nat}
set_option maxHeartbeats 1000000 in
theorem ct13 (X : Stand p l e R s m args below meth c T locs cells slots) (hexec : p.tables.exec = Jvm.exec) (htr : e.platform.stackTraces = false) {own E F : String} {up : List String} {ic : Nat} (hown : s.vm.findClass own = some m.cls) (hE : Bundle.fit E = true) (hF : Bundle.fit F = true) (hup : ∀ n ∈ up, Bundle.fit n = true) (h : ∀ w ∈ a13 own ic E F up, w.before args s = true)
    (hlocs : ∀ x ∈ locs, ∀ cell, s.heap[x.base]? = some cell → cell.vm.isStatics = false) {a : Addr} {cX : ClassId} {kX : Class} (hfX : s.vm.findClass E = some cX) (hkX : s.vm.classes[cX]? = some kX) (hcell : T.heap[a]? = some (freshCell cX kX)) (hnew : s.heap.size ≤ a) {msg : Value} (hmsg : msg.isRef = true)
    {g : JFrame} (hg : g.method = m) (hsize : g.locals.size = c.maxLocals) (hlocked : g.locked = none) (hentered : g.entered = []) {rest : List Value} (hstack : g.stack = msg :: .ref a :: .ref a :: rest)
    (d1 : decode c.code g.pc = .ok (.invokespecial ic, 3)) (d2 : decode c.code (g.pc + 3) = .ok (.athrow, 1)) (hout : ∀ x ∈ c.exceptionTable.toList, covers x (g.pc + 3) = false)
    (hRf : up.length + 1 + 3 < R.frames) (hRl : 2 * g.monitorRoom + ((Value.ref a :: rest).map fun v => v.category).sum + (13 * (up.length + 1 + 1) + 42) ≤ R.locals) (hlocks : meth.locks = false) :
    ∃ U : State, Steps p.tables e below (T.setTop g) U ∧ U.status = .running ∧ Ended U below (.threw a) ∧ s.WarmedH U.vm ∧ s.sameButNew ({ U with vm := s.vm } : State) locs cells slots ∧
      ∃ ce, U.heap[a]? = some ce ∧ ce.vm = .none ∧ s.vm.findClass E = some ce.cls := by
  have hpl : e.platform.magicAccessors = ({} : Platform).magicAccessors := by rw [X.admits.platform]
  have ho : ∀ w, w ∈ o13 own ic E → w.holds args s none s [] = true := fun w hw => h w (a13_o hw)
  obtain ⟨Th, Z0, L, -, Y⟩ := ThrowableC.of_atoms (args := args) (by rw [X.admits.platform]) (by rw [X.admits.platform]) hpl (fun w hw => h w (a13_t hw))
  obtain ⟨Z, M, LZ, LM, hnZ⟩ := Init0T.ofS_atoms (args := args) hpl L Y (fun w hw => h w (a13_s hw))
  obtain ⟨P, Ps, hlen, hLs, hPm, hlk1, hlk⟩ := ch13 (args := args) hpl hnZ hE hF hup h
  have hfound : s.vm.findClass E = some P.m.cls := findClass_of_methodNamed hPm
  cases Option.some.inj (hfX.symm.trans hfound)
  obtain ⟨c1, k9, hc1, hk, hord, -⟩ := Cond.instantiable_spec (ho (.instantiable E 6) (by simp [o13]))
  cases Option.some.inj (hc1.symm.trans hfound)
  cases Option.some.inj (hkX.symm.trans hk)
  have sel : ∀ (y : MethodName) (f : MethodId), Cond.selects E y y ∈ o13 own ic E → s.methodNamed? y = some f → s.methodFound? y.cls y.name y.desc = some f → selectMethod e.platform s.vm P.m.cls f = .method f := fun y f hm hn hfd => by
    obtain ⟨c2, r2, m2, q1, q2, q3, q4, -⟩ := Cond.selects_spec (ho _ hm)
    cases Option.some.inj (q1.symm.trans hfound)
    cases Option.some.inj (q2.symm.trans hfd)
    cases Option.some.inj (q3.symm.trans hn)
    rw [Launch.admits_selectMethod X.admits]
    exact q4
  have hs0 := sel Bundle.tFill0 Th.fill0 (by simp [o13]) Y.fill0 (State.methodFound?_of_named Y.fill0 (by decide))
  have hs1 := sel Bundle.tFill Th.fill (by simp [o13]) Y.fill (State.methodFound?_of_named Y.fill (by decide))
  obtain ⟨cS0, hcS0, hiss⟩ := Y.statics
  obtain ⟨u0, hu0⟩ := Cond.staticRefV Y.unassigned L.unassignedStatic L.statics hcS0 hiss (ho (.isRef (.static Bundle.tN "UNASSIGNED_STACK" Bundle.steD)) (by simp [o13]))
  obtain ⟨sen, hsen⟩ := Cond.staticRefV Y.sentinel L.sentinelStatic L.statics hcS0 hiss (ho (.isRef (.static Bundle.tN "SUPPRESSED_SENTINEL" Bundle.listD)) (by simp [o13]))
  obtain ⟨ci9, i9, fB, r1, r2, r3, r4, -, hnB, htB, hffB⟩ := Cond.ownField (t := .object "java/lang/Object") Y.found L.cls (by decide +kernel) (ho (.fieldLink Bundle.tN 198 Bundle.tN "backtrace" "Ljava/lang/Object;") (by simp [o13])) (ho (.lays Bundle.tN Bundle.tN "backtrace" "Ljava/lang/Object;") (by simp [o13])) e.platform hpl
  obtain ⟨cS, hcS, heS, -, hkeep⟩ := X.same.2.2.2.2.2 Th.aS cS0 hcS0
  have hno : ∀ i, (⟨Th.aS, i⟩ : Loc) ∉ locs := fun i hmem => Bool.noConfusion ((hlocs _ hmem cS0 hcS0).symm.trans hiss)
  have hkn : cS.vm ≠ .unknown := by
    rw [heS]
    intro hu
    rw [show cS0.vm = .unknown from hu] at hiss
    cases hiss
  have hne : Th.aS ≠ a := Nat.ne_of_lt (Nat.lt_of_lt_of_le (Array.getElem?_eq_some_iff.mp hcS0).1 hnew)
  obtain ⟨iM, hffM⟩ := Y.msg
  obtain ⟨tyC, dC, q1, q2⟩ := Cond.laysAt hfound hk Y.cause (ho (.lays E Bundle.tN "cause" "Ljava/lang/Throwable;") (by simp [o13]))
  obtain ⟨tyS, dS, q3, q4⟩ := Cond.laysAt hfound hk Y.stack (ho (.lays E Bundle.tN "stackTrace" Bundle.steD) (by simp [o13]))
  obtain ⟨tyP, dP, q5, q6⟩ := Cond.laysAt hfound hk Y.supp (ho (.lays E Bundle.tN "suppressedExceptions" Bundle.listD) (by simp [o13]))
  obtain ⟨tyM, dM, q7, q8⟩ := Cond.laysAt hfound hk hffM (ho (.lays E Bundle.tN "detailMessage" "Ljava/lang/String;") (by simp [o13]))
  obtain ⟨tyB, dB, q9, q0⟩ := Cond.laysAt hfound hk hffB (ho (.lays E Bundle.tN "backtrace" "Ljava/lang/Object;") (by simp [o13]))
  have z1 := Cond.laysApart q9 q1 q0 q2 (by rw [hnB, Y.causeName]; decide)
  have z2 := Cond.laysApart q9 q3 q0 q4 (by rw [hnB, Y.stackName]; decide)
  have z3 := Cond.laysApart q9 q5 q0 q6 (by rw [hnB, Y.suppName]; decide)
  have hsk : SkipFacts Th e.platform s (fun u => u) u0 ((preparedCellV Th.toThrowableT (freshCell P.m.cls kX) a u0 sen).withEntry T.cur) := by
    refine ⟨{ ci198 := ci9, i198 := i9, fBack := fB }, ⟨r1, r2, r3, r4⟩, ?_, fun _ _ => rfl⟩
    have z := fresh_default (c := P.m.cls) tyB
    rw [htB] at z
    simpa [preparedCellV, Cell.setSlot, Cell.withEntry, Array.getElem?_setIfInBounds, z1, z2, z3, z1.symm, z2.symm, z3.symm, defaultValue] using z
  obtain ⟨tm, mC, cdC, kC, vm₁, hnC, -, -, -, -, -, -, -, hW₁, st1⟩ := Steps.initColdS (tb := p.tables) (e := e) (below := below) (s := s) (U := T) X.here hexec X.warmed hpl hown (t := Bundle.initS E) rfl rfl (Bundle.fit_spec hE).2
    (ho (.methodLink own ic (Bundle.initS E)) (by simp [o13])) (h (.instanceMethod (Bundle.initS E)) (a13_p List.mem_cons_self)) (bytes := b13) (maxL := 2) (h (.code (Bundle.initS E) b13 2 none) (a13_p (List.mem_cons_of_mem _ List.mem_cons_self)))
    (f := g) hg (a := a) (msg := msg) (rest := .ref a :: rest) hstack d1
  cases Option.some.inj (hnC.symm.trans hPm)
  obtain ⟨vm₂, X₂, st2⟩ := (X.noted hW₁).ctorMessageOffV hexec (g := { g with stack := .ref a :: rest }) hg hsize Th L Z LZ M LM (P :: Ps) hLs ⟨hlk1, hlk⟩ (u0 := u0) (sen := sen) (self := a) hmsg (cell := freshCell P.m.cls kX) (cellS := cS)
    hcell (fun _ => by simp) (by simp) rfl rfl hs0 hs1 hcS hne hkn (by rw [hkeep _ (hno _)]; exact hu0) (by rw [hkeep _ (hno _)]; exact hsen)
    (Takes.of_laid hk hord tyC (by rw [Y.causeType]; rfl)) (Takes.of_laid hk hord tyS (by rw [Y.stackType]; exact fits_refV_array _ u0)) (Takes.of_laid hk hord tyP (by rw [Y.suppType]; exact fits_refV_object _ sen))
    (Takes.of_laid hk hord tyM (by rw [Y.msgType]; exact fits_refV_object _ ⟨msg, hmsg⟩)) Y.objLocals hsk htr [] d1
    (by simp only [List.length_cons, hlen]; omega) (by simp only [List.length_cons, hlen]; exact hRl)
  obtain ⟨hwalk, hrun, hend, hWU, hsame⟩ := X₂.athrowLeaves hexec (g := { g with stack := .ref a :: rest, pc := g.pc + 3 }) hg hlocked hentered hout (a := a) (rest := rest) rfl d2
  have hlt : a < ((T.setVm vm₁).setVm vm₂).heap.size := (Array.getElem?_eq_some_iff.mp hcell).1
  have hU := heapAt_setCell_self (s := (T.setVm vm₁).setVm vm₂) (plainBareV Th.toThrowableT (freshCell P.m.cls kX) a u0 sen msg) hlt
  refine ⟨_, st1 _ (fun acts => ?_), hrun, hend, hWU, hsame.weaken (fun y hy hlt' => ?_) (Nat.le_refl _) (Nat.le_refl _), _, hU, rfl, hfound⟩
  · rw [doInvoke_state]
    exact st2 _ hwalk
  · rcases List.mem_append.mp hy with z | z
    · exact z
    · have hb : y.base = a := by
        simp only [List.mem_cons, List.not_mem_nil, or_false] at z
        rcases z with rfl | rfl | rfl | rfl | rfl <;> rfl
      exact absurd (hb ▸ hlt') (Nat.not_lt.mpr hnew)
end T13
section W13
variable {p : Program} {l : Launch} {e : Env} {R : Room} {s : State} {m : MethodId} {args : Array Value} {below : List Frame} {meth : Method} {c : Code} {H : Heap} {locs : List Loc} {cells slots : Nat} {Q : State → Prop}
variable {mc ms : Nat} {free : Addr → Prop} {A0 A1 : Nat → Prop} {H0 : Heap} {a : Array Value} {ls : Array Slot} {st0 rest : List Value}
variable {Qc : Array Value → State → Outcome → State → Prop} {XC : String → State → State → Prop}
theorem tw13 {cc : ByteArray} {pc : Nat} (hexec : p.tables.exec = Jvm.exec) (hb : c.code = cc) (hl : l.stackTraces = false) {own cls F text : String} {names : List String} {ik is ic mc ms sa : Nat} {A : Nat → Prop}
    (hown : s.vm.findClass own = some m.cls) (hcls : Bundle.fit cls = true) (hF : Bundle.fit F = true) (hnames : ∀ n ∈ names, Bundle.fit n = true)
    (hk : (Cond.classLink own ik cls).before args s = true) (hini : (Cond.initialized cls).before args s = true) (hstr : vk_R own is text sa s) (hat : ∀ w ∈ (a13 own ic cls F names).filter vx_no, w.before args s = true)
    (hgood : ∀ w ∈ Cond.classLink own ik cls :: Cond.initialized cls :: (a13 own ic cls F names).filter vx_no, vx_ot w = true)
    (hU : vx_Zq Bundle.tN "UNASSIGNED_STACK" Bundle.steD A s s.heap) (hN : vx_Zq Bundle.tN "SUPPRESSED_SENTINEL" Bundle.listD A s s.heap) (hS : va_S A s.heap H locs) (hsize : ls.size = c.maxLocals)
    (d0 : decode cc pc = .ok (.new ik, 3)) (d3 : decode cc (pc + 3) = .ok (.dup, 1)) (d4 : decode cc (pc + 4) = .ok (.ldc_w is, 3)) (d7 : decode cc (pc + 7) = .ok (.invokespecial ic, 3)) (d10 : decode cc (pc + 10) = .ok (.athrow, 1))
    (hout : ∀ x ∈ c.exceptionTable.toList, covers x (pc + 10) = false)
    (hRframes : names.length + 1 + 3 < R.frames) (hRlocals : (rest.map fun v => v.category).sum + (13 * (names.length + 1 + 1) + 43) ≤ R.locals) (hRcells : cells + 1 ≤ R.cells) (hRslots : slots + 6 ≤ R.slots) (hlocks : meth.locks = false)
    (hx : ∀ t : State, s.vm.Alike t.vm → H.size ≤ t.heap.size → (∀ q : Nat, q < H.size → t.heap[q]? = H[q]?) → XC cls s t)
    (hf : ∀ z ∈ locs, free z.base) (hc : cells + 1 ≤ mc) (hs : slots + 6 ≤ ms) :
    W p l e R s m args below meth c H locs cells slots (vx_MQ below Qc XC args s mc ms free) (F0 m pc ls rest) := by
  intro T hT X
  have htr : e.platform.stackTraces = false := (show e.platform.stackTraces = l.stackTraces by rw [X.admits.platform]).trans hl
  have Y := vx_rebase X (R' := { frames := R.frames, locals := R.locals, cells := 1, slots := 6 }) (Nat.le_refl _) (Nat.le_refl _) hRcells hRslots
  obtain ⟨s', hA⟩ : ∃ z, z = (T.setVm s.vm).setFrames (.invoking m args :: below) := ⟨_, rfl⟩
  rw [← hA] at Y
  have hvm : s'.vm = s.vm := by rw [hA]; rfl
  have hhp : s'.heap = H := by rw [hA]; exact hT
  have hW0 : s.WarmedH s'.vm := by rw [hvm]; exact State.WarmedH.refl s
  have hat' : ∀ w ∈ (a13 own ic cls F names).filter vx_no, w.before args s' = true := fun w hw => vx_ot_at hW0 hvm.symm (hgood w (List.mem_cons_of_mem _ (List.mem_cons_of_mem _ hw))) (hat w hw)
  have hk' : (Cond.classLink own ik cls).before args s' = true := vx_ot_at hW0 hvm.symm (hgood _ List.mem_cons_self) hk
  have hini' : (Cond.initialized cls).before args s' = true := vx_ot_at hW0 hvm.symm (hgood _ (List.mem_cons_of_mem _ List.mem_cons_self)) hini
  have hU' : vx_Zq Bundle.tN "UNASSIGNED_STACK" Bundle.steD A s' s'.heap := by rw [hhp]; exact vx_Zq.moved hW0.alike (hU.kept hS.2.1)
  have hN' : vx_Zq Bundle.tN "SUPPRESSED_SENTINEL" Bundle.listD A s' s'.heap := by rw [hhp]; exact vx_Zq.moved hW0.alike (hN.kept hS.2.1)
  have h : ∀ w ∈ a13 own ic cls F names, w.before args s' = true := vx_own hat' (vx_isRefq hU'.1) (vx_isRefq hN'.1) hU'.2.word hN'.2.word
  have hown' : s'.vm.findClass own = some m.cls := by rw [hvm]; exact hown
  have hins : (Cond.instantiable cls 6).before args s' = true := h _ (a13_o (by simp [o13]))
  obtain ⟨vm₁, cX, kX, hfX, hkX, -, -, X₁, st1⟩ := Y.newCold hexec (own := own) (C := cls) (index := ik) (n := 6) hown' hk' hins hini'
    (g := F0 m pc ls rest) rfl (by rw [hb]; exact d0) (Nat.le_refl _) (Nat.le_refl _)
  generalize hT1 : (T.setVm vm₁).pushCell { cls := cX, slots := kX.instanceTypes.map defaultValue, vm := .none } = T1 at X₁ st1
  have hcat : (Value.ref T.heap.size).category = 1 := rfl
  have hcellA : T1.heap[T.heap.size]? = some (freshCell cX kX) := by rw [← hT1]; exact State.heap_pushCell_size _ _
  have d3' : decode c.code (pc + 3) = .ok (.dup, 1) := by rw [hb]; exact d3
  have d4' : decode c.code (pc + 4) = .ok (.ldc_w is, 3) := by rw [hb]; exact d4
  have hstr' : vk_R own is text sa s' := vk_R.warm hW0 hstr
  obtain ⟨U, hsteps, hrun, hend, hW, hsame, ce, hce, hOv, hOc⟩ := ct13 X₁ hexec htr (own := own) (E := cls) (F := F) (up := names) (ic := ic) hown' hcls hF hnames h (fun x hx => nomatch hx) hfX hkX hcellA (by rw [hhp, hT]; exact Nat.le_refl _) (msg := .ref sa) rfl
    (g := { method := m, pc := pc + 7, locals := ls, stack := .ref sa :: .ref T.heap.size :: .ref T.heap.size :: rest, locked := none }) rfl hsize rfl rfl (rest := rest) rfl
    (by rw [hb]; exact d7) (by rw [hb]; exact d10) hout hRframes (by simp only [List.map_cons, List.sum_cons, hcat]; omega) hlocks
  obtain ⟨f1, f2⟩ := vx_frame hsame
  rw [hhp] at f1 f2
  have hWs : s.WarmedH U.vm := State.WarmedH.trans hW0 hW
  have hcl : s.vm.findClass cls = some ce.cls := by
    have h9 := hOc
    rw [hvm] at h9
    exact h9
  have hall : s.sameButNew ({ U with vm := s.vm } : State) locs mc ms := by
    subst hA
    obtain ⟨e1, e2⟩ := hsame
    rw [State.setFrames_setFrames] at e1
    have h2 : (T.setVm s.vm).sameButNew ({ U with vm := s.vm } : State) [] (0 + 1) (0 + 6) := ⟨e1, e2⟩
    have h3 := X.same.trans h2
    rw [List.append_nil] at h3
    exact h3.mono hc hs
  refine ⟨U, ?_, .threw T.heap.size, hrun, hend, Or.inr ⟨T.heap.size, rfl, cls, ce, locs, hx U hWs.alike f1 (fun q hq => f2 q hq (fun z hz => nomatch hz)), hce, hOv, hcl, hWs, hall, hf⟩⟩
  refine st1 _ ?_
  show Steps p.tables e below (T1.setTop { method := m, pc := pc + 3, locals := ls, stack := .ref T.heap.size :: rest, locked := none }) _
  jvm_step X₁.here [X₁.here.top, hexec, d3', Value.category]
  exact X₁.ldcStringW hexec (own := own) (text := text) (index := is) (a := sa) hown' hstr'.1 hstr'.2
    (g := { method := m, pc := pc + 4, locals := ls, stack := .ref T.heap.size :: .ref T.heap.size :: rest, locked := none }) rfl d4' _ hsteps
end W13
end
section
/-! about: it may throw; the law catches -/
noncomputable abbrev xE : String := "java/util/NoSuchElementException"
noncomputable abbrev xF : String := "java/lang/RuntimeException"
noncomputable abbrev xN : List String := ["java/lang/Exception"]
noncomputable abbrev aE : List Cond := (a13 "CountyWatch" 310 xE xF xN).filter vx_no
noncomputable def Zx (A : Nat → Prop) (U : State) : Prop := vx_Zq Bundle.tN "UNASSIGNED_STACK" Bundle.steD A U U.heap ∧ vx_Zq Bundle.tN "SUPPRESSED_SENTINEL" Bundle.listD A U U.heap ∧ (∃ sa, vk_R "CountyWatch" 308 "no such constable" sa U) ∧ (∃ sa, vk_R "CountyWatch" 316 "no such what" sa U) ∧ ∀ w ∈ aE, w.before #[] U = true
noncomputable def ft_ (w : Cond) : Bool := w.onTables && (goodWord w || w.faceAtom)
theorem ft_all : (aE).all ft_ = true := by decide +kernel
theorem ft_ot : ∀ w ∈ aE, w.onTables = true := fun w hw => by
  have h := List.all_eq_true.mp ft_all w hw
  simp only [ft_, Bool.and_eq_true] at h
  exact h.1
theorem ft_at {w : Cond} {s U : State} {a a' : Array Value} (hW : s.WarmedH U.vm) (hg : ft_ w = true) (h : w.before a s = true) : w.before a' U = true := by
  simp only [ft_, Bool.and_eq_true, Bool.or_eq_true] at hg
  rcases hg.2 with g | g
  · exact word_at hW (good_of_word g) h
  · exact va_tabs hg.1 (rfl : (s.setVm U.vm).vm = U.vm) (Cond.faceAtom_setVm hW.alike w g h)
theorem Zx.call {A : Nat → Prop} {U : State} {g : JFrame} {mk : MethodId} {a : Array Value} (h : Zx A U) : Zx A (U.calling g mk a) :=
  ⟨vx_Zq.moved (u := U) (U := U.calling g mk a) (Vm.Alike.refl U.vm) h.1, vx_Zq.moved (u := U) (U := U.calling g mk a) (Vm.Alike.refl U.vm) h.2.1, h.2.2.1.elim (fun sa q => ⟨sa, vk_R.same rfl q⟩), h.2.2.2.1.elim (fun sa q => ⟨sa, vk_R.same rfl q⟩), fun w hw => va_tabs (u := U) (ft_ot w hw) rfl (h.2.2.2.2 w hw)⟩
theorem Zx.go {A B : Nat → Prop} {s U : State} {H : Heap} {locs : List Loc} (h : Zx A s) (hS : va_S A s.heap H locs) (hU : U.heap = H) (hW : s.WarmedH U.vm) (hAB : ∀ q, B q → A q) : Zx B U :=
  ⟨by rw [hU]; exact vx_Zq.narrow (vx_Zq.moved hW.alike (vx_Zq.kept h.1 hS.2.1)) hAB, by rw [hU]; exact vx_Zq.narrow (vx_Zq.moved hW.alike (vx_Zq.kept h.2.1 hS.2.1)) hAB, h.2.2.1.elim (fun sa q => ⟨sa, vk_R.warm hW q⟩), h.2.2.2.1.elim (fun sa q => ⟨sa, vk_R.warm hW q⟩), fun w hw => ft_at hW (List.all_eq_true.mp ft_all w hw) (h.2.2.2.2 w hw)⟩
noncomputable def cz_ (dC : Nat → ClassId) (dI : Nat → Nat → Nat) (cy : Nat → ClassId) (ad adV : Nat → Nat) (dom : List Nat) (h : Hp_) (sz : Nat) (U : State) : Prop := cp_ dC dI cy ad adV dom h sz U ∧ Zx (va_A (h_W cy ad h dom) sz) U
theorem cz_blind {dC : Nat → ClassId} {dI : Nat → Nat → Nat} {cy : Nat → ClassId} {ad adV : Nat → Nat} {dom : List Nat} {h : Hp_} {sz : Nat} {av : List Value} : FrameBlind (va_Pc av (cz_ dC dI cy ad adV dom h sz)) := by
  intro a U g mk hq
  obtain ⟨q0, q1, q2⟩ := hq
  have hb := cp_blind (dC := dC) (dI := dI) (cy := cy) (ad := ad) (adV := adV) (dom := dom) (h := h) (sz := sz) (av := av) a U g mk ⟨q0, q1⟩
  exact ⟨hb.1, hb.2, q2.call⟩
/-- cells that a larger heap leaves alone -/
theorem wd_more {dC : Nat → ClassId} {dI : Nat → Nat → Nat} {cy : Nat → ClassId} {A : Nat → Prop} {ad : Nat → Nat} {dom : List Nat} {h : Hp_} {H H1 : Heap} (hW : wd_ dC dI cy A ad dom h H) (hk : ∀ q : Nat, q < H.size → H1[q]? = H[q]?) : wd_ dC dI cy A ad dom h H1 :=
  ⟨hW.1, hW.2.1.kept (fun k x hx => hk x.1 ((hW.2.1 k x hx).lt)), hW.2.2⟩
noncomputable def xx_ (KX : Hp_ → Prop) (dC : Nat → ClassId) (dI : Nat → Nat → Nat) (cy : Nat → ClassId) (A : Nat → Prop) (ad0 : Nat → Nat) (dom0 : List Nat) : String → State → State → Prop := fun E st t => E = xE ∧ (∃ (h : Hp_) (ad : Nat → Nat) (dom : List Nat), KX h ∧ wd_ dC dI cy A ad dom h t.heap ∧ ex_ ad0 ad dom0 dom) ∧ va_F A st t
/-- as AW, of a method that may throw -/
noncomputable def AX (M : Mc_) (pc : Nat) (lv : List (Nat × Value)) (st : List Value) (h : Hp_) (K : Option Value → Hp_ → Prop) (KX : Hp_ → Prop) : Prop :=
  ∀ (l : Ln_) (p : Program) (e : Env) (s : State) (m : MethodId) (args : Array Value) (below : List Frame) (meth : Method) (c : Code) (dC : Nat → ClassId) (dI : Nat → Nat → Nat) (cy : Nat → ClassId) (A : Nat → Prop) (ad0 adV ad : Nat → Nat) (dom0 dom : List Nat) (H : Heap) (locs : List Loc) (ls : Array Slot),
    fr_ (mY M) (mC M) (mN M) (mT M) p s m args meth c dC dI cy A → mX M ad A s → st_ ad adV A s → ex_ ad0 ad dom0 dom → wd_ dC dI cy A ad dom h H → va_S A s.heap H locs → lv_has ls (mN M) (lv.map (fun q => (q.1, h_cv ad q.2))) → (∀ q ∈ lv, h_ok dom q.2) → (∀ v ∈ st, h_ok dom v) → Zx A s → (∀ x ∈ c.exceptionTable.toList, False) →
    W p l.1 e (mR M) s m args below meth c H locs 0 0 (vx_MQ below (qq_ K dC dI cy A ad0 dom0) (xx_ KX dC dI cy A ad0 dom0) args s (mR M).cells (mR M).slots A) (F0 m pc ls (st.map (h_cv ad)))
section AXR
variable {M : Mc_} {pc : Nat} {lv : List (Nat × Value)} {st : List Value} {h : Hp_} {K : Option Value → Hp_ → Prop} {KX : Hp_ → Prop}
theorem ax_ret (k : AW M 0 0 pc lv st h K) : AX M pc lv st h K KX := by
  intro l p e s m args below meth c dC dI cy A ad0 adV ad dom0 dom H locs ls hf hX hT hE hW hS hl ho hs hZ ht
  exact vx_ret (k l p e s m args below meth c dC dI cy A ad0 adV ad dom0 dom H locs ls hf hX hT hE hW hS hl ho hs)
theorem ax_iload_n {i : Nat} {x : Int32} {z : Fin 4} (hz : (z : Nat) = i) (hd : decode (mC M) pc = .ok (.iload_n z, 1)) (j : Nat) (hj : lv[j]? = some (i, .int x)) (k : AX M (pc + 1) lv (.int x :: st) h K KX) : AX M pc lv (st) h K KX := by
  intro l p e s m args below meth c dC dI cy A ad0 adV ad dom0 dom H locs ls hf hX hT hE hW hS hl ho hs hZ ht
  exact lv_iload_n hf.1 hf.2.1 hd hz (lv_fnd (List.mem_of_getElem? hj) hl) (k l p e s m args below meth c dC dI cy A ad0 adV ad dom0 dom H locs ls hf hX hT hE hW hS hl ho (ok_c ok_i hs) hZ ht)
theorem ax_aload_n {i : Nat} {x : Nat} {z : Fin 4} (hz : (z : Nat) = i) (hd : decode (mC M) pc = .ok (.aload_n z, 1)) (j : Nat) (hj : lv[j]? = some (i, .ref x)) (k : AX M (pc + 1) lv (.ref x :: st) h K KX) : AX M pc lv (st) h K KX := by
  intro l p e s m args below meth c dC dI cy A ad0 adV ad dom0 dom H locs ls hf hX hT hE hW hS hl ho hs hZ ht
  exact lv_aload_n hf.1 hf.2.1 hd hz (lv_fnd (List.mem_of_getElem? hj) hl) (k l p e s m args below meth c dC dI cy A ad0 adV ad dom0 dom H locs ls hf hX hT hE hW hS hl ho (ok_c (ho _ (List.mem_of_getElem? hj)) hs) hZ ht)
theorem ax_aload_nN {i : Nat} {z : Fin 4} (hz : (z : Nat) = i) (hd : decode (mC M) pc = .ok (.aload_n z, 1)) (j : Nat) (hj : lv[j]? = some (i, .null)) (k : AX M (pc + 1) lv (.null :: st) h K KX) : AX M pc lv (st) h K KX := by
  intro l p e s m args below meth c dC dI cy A ad0 adV ad dom0 dom H locs ls hf hX hT hE hW hS hl ho hs hZ ht
  exact lv_aload_nN hf.1 hf.2.1 hd hz (lv_fnd (List.mem_of_getElem? hj) hl) (k l p e s m args below meth c dC dI cy A ad0 adV ad dom0 dom H locs ls hf hX hT hE hW hS hl ho (ok_c ok_n hs) hZ ht)
theorem ax_ifnonnull {a : Nat} {off : Int} {tgt : Nat} (hd : decode (mC M) pc = .ok (.ifnonnull off, 3)) (ht : (pc : Int) + off = (tgt : Int)) (k : AX M tgt lv (st) h K KX) : AX M pc lv (.ref a :: st) h K KX := by
  intro l p e s m args below meth c dC dI cy A ad0 adV ad dom0 dom H locs ls hf hX hT hE hW hS hl ho hs hZ ht2
  exact lv_ifnonnull hf.1 hf.2.1 hd ht (k l p e s m args below meth c dC dI cy A ad0 adV ad dom0 dom H locs ls hf hX hT hE hW hS hl ho (ok_t hs) hZ ht2)
theorem ax_ifnonnullN {off : Int} (hd : decode (mC M) pc = .ok (.ifnonnull off, 3)) (k : AX M (pc + 3) lv (st) h K KX) : AX M pc lv (.null :: st) h K KX := by
  intro l p e s m args below meth c dC dI cy A ad0 adV ad dom0 dom H locs ls hf hX hT hE hW hS hl ho hs hZ ht
  exact lv_ifnonnullN hf.1 hf.2.1 hd (k l p e s m args below meth c dC dI cy A ad0 adV ad dom0 dom H locs ls hf hX hT hE hW hS hl ho (ok_t hs) hZ ht)
theorem ax_tableOut {dflt lo hi : Int} {offs : Array Int} {len : Nat} {x : Int32} {tgt : Nat} (hd : decode (mC M) pc = .ok (.tableswitch dflt lo hi offs, len)) (h1 : x.toInt < lo ∨ hi < x.toInt) (ht : (pc : Int) + dflt = (tgt : Int)) (k : AX M tgt lv (st) h K KX) : AX M pc lv (.int x :: st) h K KX := by
  intro l p e s m args below meth c dC dI cy A ad0 adV ad dom0 dom H locs ls hf hX hT hE hW hS hl ho hs hZ ht2
  exact lv_tableOut hf.1 hf.2.1 hd h1 ht (k l p e s m args below meth c dC dI cy A ad0 adV ad dom0 dom H locs ls hf hX hT hE hW hS hl ho (ok_t hs) hZ ht2)
theorem ax_astore_n {i : Nat} {x : Nat} {z : Fin 4} (hz : (z : Nat) = i) (lv' : List (Nat × Value)) (hd : decode (mC M) pc = .ok (.astore_n z, 1)) (hn : i < mN M) (hr : (lv_rise lv && lv_fit i lv) = true) (hp : lv_put i (.ref x) lv = lv') (k : AX M (pc + 1) lv' st h K KX) : AX M pc lv (.ref x :: st) h K KX := by
  intro l p e s m args below meth c dC dI cy A ad0 adV ad dom0 dom H locs ls hf hX hT hE hW hS hl ho hs hZ ht
  rw [Bool.and_eq_true] at hr
  subst hp
  refine lv_astore_n hf.1 hf.2.1 hd hz hl hn rfl (fun ls' hl' => ?_)
  refine k l p e s m args below meth c dC dI cy A ad0 adV ad dom0 dom H locs ls' hf hX hT hE hW hS (lv_put_has (v := .ref x) hr.1 hr.2 hl') (fun q hq => ?_) (ok_t hs) hZ ht
  rcases lv_put_mem hq with h1 | h1
  · rw [h1]; exact ok_h hs
  · exact ho q h1
theorem ax_astore_nN {i : Nat} {z : Fin 4} (hz : (z : Nat) = i) (lv' : List (Nat × Value)) (hd : decode (mC M) pc = .ok (.astore_n z, 1)) (hn : i < mN M) (hr : (lv_rise lv && lv_fit i lv) = true) (hp : lv_put i (.null) lv = lv') (k : AX M (pc + 1) lv' st h K KX) : AX M pc lv (.null :: st) h K KX := by
  intro l p e s m args below meth c dC dI cy A ad0 adV ad dom0 dom H locs ls hf hX hT hE hW hS hl ho hs hZ ht
  rw [Bool.and_eq_true] at hr
  subst hp
  refine lv_astore_nN hf.1 hf.2.1 hd hz hl hn rfl (fun ls' hl' => ?_)
  refine k l p e s m args below meth c dC dI cy A ad0 adV ad dom0 dom H locs ls' hf hX hT hE hW hS (lv_put_has (v := .null) hr.1 hr.2 hl') (fun q hq => ?_) (ok_t hs) hZ ht
  rcases lv_put_mem hq with h1 | h1
  · rw [h1]; exact ok_n
  · exact ho q h1
theorem ax_back {a : Array Value} {rest st0 : List Value} {K' : Option Value → Hp_ → Prop} (hXs : xs_ M)
    {l : Ln_} {p : Program} {e : Env} {s : State} {m : MethodId} {args : Array Value} {below : List Frame} {meth : Method} {c : Code} {dC : Nat → ClassId} {dI : Nat → Nat → Nat} {cy : Nat → ClassId} {A : Nat → Prop} {ad0 adV ad : Nat → Nat} {dom0 dom : List Nat} {H : Heap} {locs : List Loc} {ls : Array Slot}
    (hf : fr_ (mY M) (mC M) (mN M) (mT M) p s m args meth c dC dI cy A) (hX : mX M ad A s) (hT : st_ ad adV A s) (hE : ex_ ad0 ad dom0 dom) (hW : wd_ dC dI cy A ad dom h H) (hS : va_S A s.heap H locs) (hl : lv_has ls (mN M) (lv.map (fun q => (q.1, h_cv ad q.2)))) (ho : ∀ q ∈ lv, h_ok dom q.2) (hs : ∀ v ∈ rest, h_ok dom v) (hZ : Zx A s) (ht : ∀ x ∈ c.exceptionTable.toList, False)
    (hr : va_Run p l.1 e (mR M) s m args below meth c H locs 0 0 0 0 (F0 m pc ls st0) (rest.map (h_cv ad)) (qq_ K' dC dI cy (va_A (h_W cy ad h dom) H.size) ad dom a) (va_A (h_W cy ad h dom) H.size))
    (k : ∀ v h', K' v h' → AX M (pc + 3) lv (v.toList ++ rest) h' K KX) :
    W p l.1 e (mR M) s m args below meth c H locs 0 0 (vx_MQ below (qq_ K dC dI cy A ad0 dom0) (xx_ KX dC dI cy A ad0 dom0) args s (mR M).cells (mR M).slots A) (F0 m pc ls st0) := by
  intro T hT0 X
  obtain ⟨v, st₀, t, T', L, h0, X', hL, e1, e2, ⟨⟨v', h', ad', dom', hv, hK', hW', hov, hE'⟩, hz, hkp⟩, stp⟩ := hr T hT0 X
  cases hv
  rw [h0] at hz hkp
  have hAA := cp_sub hf.2.2.2.2.2.2.2.2.2 hW hS
  have hS1 : va_S A s.heap T'.heap (locs ++ L) := ⟨Nat.le_trans hS.1 (by rw [e1]; exact hz), fun q h1 h2 => by rw [e1, hkp q (Nat.lt_of_lt_of_le h1 hS.1) (fun z => h2 (hAA q z))]; exact hS.2.1 q h1 h2, fun q hq => by
      rcases List.mem_append.mp hq with z | z
      · exact hS.2.2 q z
      · exact hAA _ (hL q z)⟩
  have hW1 : wd_ dC dI cy A ad' dom' h' T'.heap := ⟨hW'.1, by rw [e1]; exact hW'.2.1, hW'.2.2.weaken (fun _ _ _ z => hAA _ z)⟩
  have hs1 : ∀ x ∈ v'.toList ++ rest, h_ok dom' x := by
    intro x hx
    rcases List.mem_append.mp hx with z | z
    · exact hov x (Option.mem_toList.mp z)
    · exact h_ok_mono hE'.2 (hs x z)
  have he : ∀ a, 1000 ≤ a → ad' a = ad a := fun a ha => hE'.1 a (Or.inr ha)
  have hl1 : lv_has ls (mN M) (lv.map (fun q => (q.1, h_cv ad' q.2))) := by
    rw [lvs_same (fun q hq z hz => hE'.1 z (ho q hq z hz))]
    exact hl
  have hz1 := k v' h' hK' l p e s m args below meth c dC dI cy A ad0 adV ad' dom0 dom' T'.heap (locs ++ L) ls hf (hXs ad ad' A s he hX) (st_same he hT) (ex_trans hE hE') hW1 hS1 hl1 (fun q hq => h_ok_mono hE'.2 (ho q hq)) hs1 hZ ht
  obtain ⟨t2, a1, b1⟩ := hz1 T' rfl X'
  refine ⟨t2, stp t2 ?_, b1⟩
  rw [List.map_append, cvs_same (ad := ad) (fun x hx z w => hE'.1 z (hs x hx z w))] at a1
  cases v' <;> exact a1
theorem ax_callV {M' : Mc_} {vs rest : List Value} {K' : Option Value → Hp_ → Prop} {n idx ci a N : Nat} {C : String} {T : u_T} (hd : decode (mC M) pc = .ok (.invokevirtual idx, 3)) (hm : cm_ M' n) (hkc : kc_ ci C T N) (hs0 : h_sh h a = some (ci + 10, N)) (hin : Cond.instanceMethod (mY M') ∈ lw_g) (hse : Cond.selects C (mY M') (mY M') ∈ lw_g) (hlk : Cond.methodLink (mY M).cls idx (mY M') ∈ lw_g) (hn : vs.length = n) (hR : (mR M').frames + 1 ≤ (mR M).frames ∧ 8 + (mN M' + 11) + (mR M').locals ≤ (mR M).locals) (hc : (rest.map (fun v => v.category)).sum ≤ 8) (hz : (mR M').cells = 0 ∧ (mR M').slots = 0) (hXs : xs_ M)
    (hC : Ct M' (.ref a :: vs) h K') (k : ∀ v h', K' v h' → AX M (pc + 3) lv (v.toList ++ rest) h' K KX) : AX M pc lv (vs.reverse ++ .ref a :: rest) h K KX := by
  intro l p e s m args below meth c dC dI cy A ad0 adV ad dom0 dom H locs ls hf hX hT hE hW hS hl ho hs hZ ht
  have hov : ∀ v ∈ Value.ref a :: vs, h_ok dom v := fun v hv => hs v (by
    rcases List.mem_cons.mp hv with z | z
    · exact List.mem_append_right _ (by rw [z]; exact List.mem_cons_self)
    · exact List.mem_append_left _ (List.mem_reverse.mpr z))
  obtain ⟨q, hq, hw⟩ := h_W_get (cy := cy) (ad := ad) (h := h) (wd_in hW hs0)
  rw [h_ce_obj hs0] at hw
  have hr : va_Run p l.1 e (mR M) s m args below meth c H locs 0 0 (mR M').cells (mR M').slots (F0 m pc ls ((vs.reverse ++ .ref a :: rest).map (h_cv ad))) (rest.map (h_cv ad)) (qq_ K' dC dI cy (va_A (h_W cy ad h dom) H.size) ad dom (Value.ref (ad a) :: vs.map (h_cv ad)).toArray) (va_A (h_W cy ad h dom) H.size) :=
    va_runV (As := vs.map (h_cv ad)) ⟨hf.1, hf.2.1, hf.2.2.1, hf.2.2.2.2.2.1, hf.2.2.2.2.2.2.2.1⟩ (hC l dC dI cy ad adV dom H.size hW.1 hov) ⟨cb_ hf.2.2.2.2.2.2.2.1 hm hlk hR, hf.2.2.2.2.2.2.2.1 _ hin, hf.2.2.2.2.2.2.2.1 _ hse⟩ ⟨cp_blind, va_recv hf.2.2.2.2.2.2.2.2.1.1 hW.2.1 hkc.1 hw, fun U hU hWm => ⟨rfl, cp_pre hf hT hW hS hU hWm⟩⟩ rfl (by rw [List.length_map]; exact hn) hl.1 (by rw [List.map_append, List.map_reverse]; rfl) (lv_room (by rw [cat_cv]; exact hc)) hd ⟨by rw [hz.1]; exact Nat.zero_le _, by rw [hz.2]; exact Nat.zero_le _⟩
  rw [hz.1, hz.2] at hr
  exact ax_back hXs hf hX hT hE hW hS hl ho (fun v hv => hs v (List.mem_append_right _ (List.mem_cons_of_mem _ hv))) hZ ht hr k
end AXR
noncomputable abbrev Ma : Mc_ := m_X11_about 12 1 6
theorem ax_thr {pc is_ : Nat} {text : String} {lv : List (Nat × Value)} {h : Hp_} {K : Option Value → Hp_ → Prop} {KX : Hp_ → Prop} (d0 : decode (mC Ma) pc = .ok (.new 306, 3)) (d3 : decode (mC Ma) (pc + 3) = .ok (.dup, 1)) (d4 : decode (mC Ma) (pc + 4) = .ok (.ldc_w is_, 3)) (d7 : decode (mC Ma) (pc + 7) = .ok (.invokespecial 310, 3)) (d10 : decode (mC Ma) (pc + 10) = .ok (.athrow, 1)) (hstr : ∀ (A : Nat → Prop) (s : State), Zx A s → ∃ sa, vk_R "CountyWatch" is_ text sa s) (kx : KX h) : AX Ma pc lv [] h K KX := by
  intro l p e s m args below meth c dC dI cy A ad0 adV ad dom0 dom H locs ls hf hX hT hE hW hS hl ho hs hZ ht
  obtain ⟨sa, hsa⟩ := hstr A s hZ
  have htg := hf.2.2.2.2.2.2.2.1
  refine tw13 (own := "CountyWatch") (cls := xE) (F := xF) (text := text) (names := xN) (ik := 306) (is := is_) (ic := 310) (sa := sa) (A := A) hf.1 hf.2.1 l.2 hf.2.2.2.2.2.1 (by decide +kernel) (by decide +kernel) (by decide +kernel) (htg _ tw_1669) (htg _ tw_25) hsa (fun w hw => va_tabs (ft_ot w hw) rfl (hZ.2.2.2.2 w hw)) ?_ hZ.1 hZ.2.1 hS (hl.1.trans hf.2.2.1.symm) d0 d3 d4 d7 d10 (fun x hx => (ht x hx).elim) (by decide) (Nat.le_of_ble_eq_true rfl) (by decide) (by decide) hf.2.2.2.2.1 (fun t1 hal hsz1 hkp1 => ⟨rfl, ⟨h, ad, dom, kx, wd_more hW hkp1, hE⟩, ?_⟩) hS.2.2 (by decide) (by decide)
  · intro w hw
    have hall : (Cond.classLink "CountyWatch" 306 xE :: Cond.initialized xE :: aE).all vx_ot = true := by decide +kernel
    exact List.all_eq_true.mp hall w hw
  · exact ⟨Nat.le_trans hS.1 hsz1, fun q h1 h2 => (hkp1 q (Nat.lt_of_lt_of_le h1 hS.1)).trans (hS.2.1 q h1 h2)⟩
noncomputable abbrev kA (h : Hp_) : Option Value → Hp_ → Prop := fun v h' => (∃ r : Int32, v = some (.int r)) ∧ Iv h' ∧ Fr [] h h'
theorem ab_ret {h h' : Hp_} (I : Iv h') (F : Fr [] h h') (c : Nat) (hc : Cn h' c) (x1 x2 : Int32) (b : 0 ≤ x2.toInt ∧ x2.toInt ≤ 8) : AW Ma 0 0 21 [(0, .ref 0), (1, .int x1), (2, .int x2), (3, .ref c)] [] h' (kA h) := by
  have en : ∀ {x y : Int32}, x.toInt = y.toInt → x = y := fun z => Int32.toInt_inj.mp z
  have hk : 0 ≤ (mR Ma).cells ∧ 0 ≤ (mR Ma).slots := ⟨Nat.zero_le _, Nat.zero_le _⟩
  refine aw_iload_n (i := 2) rfl d_X11_about_21 2 rfl ?_
  by_cases e0 : x2.toInt = 0
  · refine aw_tableIn (off := 50) (tgt := 72) d_X11_about_22 (by rw [e0]; decide) (by rw [e0]; decide) (by rw [e0]; rfl) rfl ?_
    refine aw_aload_n (i := 3) rfl d_X11_about_72 3 rfl ?_
    refine aw_geti (k0 := 4) kc_2 hc.2.2 (Nat.le_of_ble_eq_true rfl) tw_581 d_X11_about_73 rfl ?_
    exact aw_iret rfl d_X11_about_76 hk ⟨⟨_, rfl⟩, I, F⟩
  by_cases e1 : x2.toInt = 1
  · refine aw_tableIn (off := 55) (tgt := 77) d_X11_about_22 (by rw [e1]; decide) (by rw [e1]; decide) (by rw [e1]; rfl) rfl ?_
    refine aw_aload_n (i := 3) rfl d_X11_about_77 3 rfl ?_
    refine aw_geti (k0 := 5) kc_2 hc.2.2 (Nat.le_of_ble_eq_true rfl) tw_583 d_X11_about_78 rfl ?_
    exact aw_iret rfl d_X11_about_81 hk ⟨⟨_, rfl⟩, I, F⟩
  by_cases e2 : x2.toInt = 2
  · refine aw_tableIn (off := 60) (tgt := 82) d_X11_about_22 (by rw [e2]; decide) (by rw [e2]; decide) (by rw [e2]; rfl) rfl ?_
    refine aw_aload_n (i := 3) rfl d_X11_about_82 3 rfl ?_
    refine aw_geti (k0 := 6) kc_2 hc.2.2 (Nat.le_of_ble_eq_true rfl) tw_585 d_X11_about_83 rfl ?_
    exact aw_iret rfl d_X11_about_86 hk ⟨⟨_, rfl⟩, I, F⟩
  by_cases e3 : x2.toInt = 3
  · refine aw_tableIn (off := 65) (tgt := 87) d_X11_about_22 (by rw [e3]; decide) (by rw [e3]; decide) (by rw [e3]; rfl) rfl ?_
    refine aw_aload_n (i := 3) rfl d_X11_about_87 3 rfl ?_
    refine aw_geti (k0 := 7) kc_2 hc.2.2 (Nat.le_of_ble_eq_true rfl) tw_587 d_X11_about_88 rfl ?_
    exact aw_iret rfl d_X11_about_91 hk ⟨⟨_, rfl⟩, I, F⟩
  by_cases e4 : x2.toInt = 4
  · refine aw_tableIn (off := 70) (tgt := 92) d_X11_about_22 (by rw [e4]; decide) (by rw [e4]; decide) (by rw [e4]; rfl) rfl ?_
    refine aw_aload_n (i := 3) rfl d_X11_about_92 3 rfl ?_
    refine aw_geti (k0 := 4) kc_2 hc.2.2 (Nat.le_of_ble_eq_true rfl) tw_581 d_X11_about_93 rfl ?_
    refine aw_iconst (v := 1) d_X11_about_96 ic_1 ?_
    refine aw_icmp_ne (tgt := 107) d_X11_about_97 rfl (fun _ => ?_) (fun _ => ?_)
    · refine aw_iconst (v := (-1)) d_X11_about_107 ic_m1 ?_
      exact aw_iret rfl d_X11_about_108 hk ⟨⟨_, rfl⟩, I, F⟩
    · refine aw_aload_n (i := 3) rfl d_X11_about_100 3 rfl ?_
      refine aw_geti (k0 := 9) kc_2 hc.2.2 (Nat.le_of_ble_eq_true rfl) tw_589 d_X11_about_101 rfl ?_
      refine aw_goto (tgt := 108) d_X11_about_104 rfl ?_
      exact aw_iret rfl d_X11_about_108 hk ⟨⟨_, rfl⟩, I, F⟩
  by_cases e5 : x2.toInt = 5
  · refine aw_tableIn (off := 87) (tgt := 109) d_X11_about_22 (by rw [e5]; decide) (by rw [e5]; decide) (by rw [e5]; rfl) rfl ?_
    refine aw_aload_n (i := 3) rfl d_X11_about_109 3 rfl ?_
    refine aw_geti (k0 := 15) kc_2 hc.2.2 (Nat.le_of_ble_eq_true rfl) tw_597 d_X11_about_110 rfl ?_
    exact aw_iret rfl d_X11_about_113 hk ⟨⟨_, rfl⟩, I, F⟩
  by_cases e6 : x2.toInt = 6
  · refine aw_tableIn (off := 92) (tgt := 114) d_X11_about_22 (by rw [e6]; decide) (by rw [e6]; decide) (by rw [e6]; rfl) rfl ?_
    refine aw_aload_n (i := 3) rfl d_X11_about_114 3 rfl ?_
    refine aw_geti (k0 := 16) kc_2 hc.2.2 (Nat.le_of_ble_eq_true rfl) tw_598 d_X11_about_115 rfl ?_
    exact aw_iret rfl d_X11_about_118 hk ⟨⟨_, rfl⟩, I, F⟩
  by_cases e7 : x2.toInt = 7
  · refine aw_tableIn (off := 97) (tgt := 119) d_X11_about_22 (by rw [e7]; decide) (by rw [e7]; decide) (by rw [e7]; rfl) rfl ?_
    refine aw_aload_n (i := 3) rfl d_X11_about_119 3 rfl ?_
    refine aw_geti (k0 := 2) kc_2 hc.2.2 (Nat.le_of_ble_eq_true rfl) tw_577 d_X11_about_120 rfl ?_
    exact aw_iret rfl d_X11_about_123 hk ⟨⟨_, rfl⟩, I, F⟩
  by_cases e8 : x2.toInt = 8
  · refine aw_tableIn (off := 102) (tgt := 124) d_X11_about_22 (by rw [e8]; decide) (by rw [e8]; decide) (by rw [e8]; rfl) rfl ?_
    refine aw_aload_n (i := 3) rfl d_X11_about_124 3 rfl ?_
    refine aw_geti (k0 := 3) kc_2 hc.2.2 (Nat.le_of_ble_eq_true rfl) tw_579 d_X11_about_125 rfl ?_
    exact aw_iret rfl d_X11_about_128 hk ⟨⟨_, rfl⟩, I, F⟩
  omega
theorem ax_about {h : Hp_} (I : Iv h) (x1 x2 : Int32) : AX Ma 0 [(0, .ref 0), (1, .int x1), (2, .int x2)] [] h (kA h) (fun h' => Iv h' ∧ Fr [] h h') := by
  refine ax_aload_n (i := 0) rfl d_X11_about_0 0 rfl ?_
  refine ax_iload_n (i := 1) rfl d_X11_about_1 1 rfl ?_
  have C : Ct (m_X11_manOf (10 + 1) 0 0) [.ref 0, .int x1] h (Kc [] h (some (.inr 2)) []) := hc_X11_manOf 10 [.int x1, .ref 0] h ⟨⟨x1, rfl, rtop_in _, fun _ y => (nomatch y)⟩, rfl, trivial⟩ I (fun _ y => (nomatch y))
  refine ax_callV (vs := [.int x1]) (rest := []) (a := 0) (M' := m_X11_manOf (10 + 1) 0 0) d_X11_about_2 (cV_X11_manOf (10 + 1) 0 0).1 kc_11 (ws_0 I.1) (cV_X11_manOf (10 + 1) 0 0).2.1 (cV_X11_manOf (10 + 1) 0 0).2.2 tw_904 rfl ⟨Nat.le_of_ble_eq_true rfl, Nat.le_of_ble_eq_true rfl⟩ (Nat.le_of_ble_eq_true rfl) ⟨rfl, rfl⟩ xs0 C (fun v h' kv => ?_)
  obtain ⟨I', F', _, x, ev, hx⟩ := kv
  subst ev
  have hx : x = .null ∨ ∃ c, x = .ref c ∧ Cn h' c := hx
  rcases hx with e | ⟨c, e, hc⟩
  · subst e
    refine ax_astore_nN (i := 3) rfl [(0, .ref 0), (1, .int x1), (2, .int x2), (3, .null)] d_X11_about_5 (Nat.le_of_ble_eq_true rfl) rfl rfl ?_
    refine ax_aload_nN (i := 3) rfl d_X11_about_6 3 rfl ?_
    refine ax_ifnonnullN d_X11_about_7 ?_
    exact ax_thr d_X11_about_10 d_X11_about_13 d_X11_about_14 d_X11_about_17 d_X11_about_20 (fun A s z => z.2.2.1) ⟨I', F'⟩
  · subst e
    refine ax_astore_n (i := 3) rfl [(0, .ref 0), (1, .int x1), (2, .int x2), (3, .ref c)] d_X11_about_5 (Nat.le_of_ble_eq_true rfl) rfl rfl ?_
    refine ax_aload_n (i := 3) rfl d_X11_about_6 3 rfl ?_
    refine ax_ifnonnull (tgt := 21) d_X11_about_7 rfl ?_
    by_cases b : 0 ≤ x2.toInt ∧ x2.toInt ≤ 8
    · exact ax_ret (ab_ret I' F' c hc x1 x2 b)
    · refine ax_iload_n (i := 2) rfl d_X11_about_21 2 rfl ?_
      refine ax_tableOut (tgt := 129) d_X11_about_22 (by omega) rfl ?_
      exact ax_thr d_X11_about_129 d_X11_about_132 d_X11_about_133 d_X11_about_136 d_X11_about_139 (fun A s z => z.2.2.2.1) ⟨I', F'⟩
theorem dom_h {dom : List Nat} {h : Hp_} (hd : ∀ a, h_sh h a ≠ none ↔ a ∈ dom) {a : Nat} {x : Nat × Nat} (hs : h_sh h a = some x) : a ∈ dom := (hd a).mp (by rw [hs]; exact fun z => by cases z)
theorem xa_about (l : Ln_) (dC : Nat → ClassId) (dI : Nat → Nat → Nat) (cy : Nat → ClassId) (ad adV : Nat → Nat) (dom : List Nat) (sz : Nat) {h : Hp_} (I : Iv h) (hdm : dom.Nodup ∧ (∀ a, h_sh h a ≠ none ↔ a ∈ dom) ∧ (∀ a ∈ dom, a < 1000) ∧ ∀ b k c, h_r h b k = some c → c ∈ dom ∨ 1000 ≤ c) (x1 x2 : Int32) :
    vx_Met l.1 (mY Ma) (Cond.code (mY Ma) (mC Ma) 4 (some .int) :: lw_g) (mR Ma) (va_Pc ([Value.ref 0, .int x1, .int x2].map (h_cv ad)) (cz_ dC dI cy ad adV dom h sz)) (qq_ (kA h) dC dI cy (va_A (h_W cy ad h dom) sz) ad dom) (xx_ (fun h' => Iv h' ∧ Fr [] h h') dC dI cy (va_A (h_W cy ad h dom) sz) ad dom) 1 6 (va_A (h_W cy ad h dom) sz) := by
  refine vx_ofW (cc := mC Ma) (maxL := 4) (ret := some .int) rfl rfl ?_
  intro p e s m args below meth c s₁ B hml htab hv0
  obtain ⟨rfl, ⟨hsz, hP, hD0, hcx, hst⟩, hz⟩ := hv0
  have hts := atoms_spec (ws := Cond.code (mY Ma) (mC Ma) 4 (some .int) :: lw_g) B.pre
  have htg : ∀ w ∈ lw_g, w.before _ s = true := fun w hw => hts w (List.mem_cons_of_mem _ hw)
  have hown : s.vm.findClass "CountyWatch" = some m.cls := findClass_of_methodNamed B.named
  have hnm : meth.name = "about" := (name_of_methodNamed B.named B.method).1
  subst hsz
  have hD := hD0.self (sz := s.heap.size)
  have hl := lv_entry ([Value.ref 0, .int x1, .int x2].map (h_cv ad)) (n := 4) (Nat.le_of_ble_eq_true rfl)
  rw [lg_entry_eq]
  generalize (lg_sl ([Value.ref 0, .int x1, .int x2].map (h_cv ad)) ++ List.replicate (4 - (lg_sl ([Value.ref 0, .int x1, .int x2].map (h_cv ad))).length) Slot.unset).toArray = ls at hl ⊢
  have hl : lv_has ls 4 [(0, .ref (ad 0)), (1, .int x1), (2, .int x2)] := hl
  exact ax_about I x1 x2 l p e s m _ below meth c dC dI cy (va_A (h_W cy ad h dom) s.heap.size) ad adV ad dom dom s.heap [] ls ⟨B.exec, B.bytes, hml, B.returns, B.notSynchronized, hown, hnm, htg, hcx, fun q hq => Or.inr hq⟩ trivial hst ⟨fun _ _ => rfl, fun _ ha => ha⟩ ⟨hdm, hP, hD⟩ va_S.rf hl (fun q hq => by
    rcases List.mem_cons.mp hq with z | hq
    · rw [z]; intro c hc; cases hc; exact Or.inl (dom_h hdm.2.1 (ws_0 I.1))
    · rcases List.mem_cons.mp hq with z | hq
      · rw [z]; exact ok_i
      · rw [List.mem_singleton.mp hq]; exact ok_i) (fun v hv => by cases hv) hz htab
noncomputable abbrev yLa : MethodName := ⟨"CountyWatchLaw", "about", "(LCountyWatch;II[J)I"⟩
noncomputable abbrev RLa : Room := { frames := 20, cells := 1, slots := 6, locals := 2000 }
noncomputable abbrev wLa : Cond := Cond.codeWith yLa method_3_code 5 (some .int) [(0, 10, 13, 13)]
noncomputable abbrev mLa : Mc_ := (fun _ _ _ => True, yLa, method_3_code, 5, some .int, RLa)
noncomputable def kLa (h : Hp_) : Option Value → Hp_ → Prop := fun v h' => (∃ r : Int32, v = some (.int r)) ∧ Iv h' ∧ Fr [2999] h h'
theorem d_La_0 : decode method_3_code 0 = .ok (.aload_n 3, 1) := by decide +kernel
theorem d_La_1 : decode method_3_code 1 = .ok (.iconst 0, 1) := by decide +kernel
theorem d_La_2 : decode method_3_code 2 = .ok (.aload_n 0, 1) := by decide +kernel
theorem d_La_3 : decode method_3_code 3 = .ok (.iload_n 1, 1) := by decide +kernel
theorem d_La_4 : decode method_3_code 4 = .ok (.iload_n 2, 1) := by decide +kernel
theorem d_La_5 : decode method_3_code 5 = .ok (.invokevirtual 7, 3) := by decide +kernel
theorem d_La_8 : decode method_3_code 8 = .ok (.i2l, 1) := by decide +kernel
theorem d_La_9 : decode method_3_code 9 = .ok (.lastore, 1) := by decide +kernel
theorem d_La_10 : decode method_3_code 10 = .ok (.goto 7, 3) := by decide +kernel
theorem d_La_13 : decode method_3_code 13 = .ok (.astore 4, 2) := by decide +kernel
theorem d_La_15 : decode method_3_code 15 = .ok (.iconst 1, 1) := by decide +kernel
theorem d_La_16 : decode method_3_code 16 = .ok (.ireturn, 1) := by decide +kernel
theorem d_La_17 : decode method_3_code 17 = .ok (.iconst 0, 1) := by decide +kernel
theorem d_La_18 : decode method_3_code 18 = .ok (.ireturn, 1) := by decide +kernel
theorem la_ret {h h' : Hp_} (I' : Iv h') (F' : Fr [] h h') (s2 : h_sh h 2 = some (3, 1)) (x1 x2 r : Int32) : AW mLa 1 6 8 [(0, .ref 0), (1, .int x1), (2, .int x2), (3, .ref 2)] [.int r, .int 0, .ref 2] h' (kLa h) := by
  refine aw_i2l d_La_8 ?_
  refine aw_last (n := 1) (by rw [F'.1]; exact s2) (vin_c (by decide)) d_La_9 ?_
  refine aw_goto (tgt := 17) d_La_10 rfl ?_
  refine aw_iconst (v := 0) d_La_17 ic_0 ?_
  exact aw_iret rfl d_La_18 ⟨Nat.le_refl _, Nat.le_refl _⟩ ⟨⟨0, rfl⟩, I'.lm, (F'.more (by decide +kernel)).lm (inw_row (by decide +kernel) _)⟩
theorem xl_about (l : Ln_) (dC : Nat → ClassId) (dI : Nat → Nat → Nat) (cy : Nat → ClassId) (ad adV : Nat → Nat) (dom : List Nat) (sz : Nat) {h : Hp_} (I : Iv h) (s2 : h_sh h 2 = some (3, 1)) (hdm : dom.Nodup ∧ (∀ a, h_sh h a ≠ none ↔ a ∈ dom) ∧ (∀ a ∈ dom, a < 1000) ∧ ∀ b k c, h_r h b k = some c → c ∈ dom ∨ 1000 ≤ c) (x1 x2 : Int32) :
    vx_Met l.1 yLa (wLa :: lw_g) RLa (va_Pc ([Value.ref 0, .int x1, .int x2, .ref 2].map (h_cv ad)) (cz_ dC dI cy ad adV dom h sz)) (qq_ (kLa h) dC dI cy (va_A (h_W cy ad h dom) sz) ad dom) (fun _ _ _ => False) 1 6 (va_A (h_W cy ad h dom) sz) := by
  refine vx_ofWH (cc := method_3_code) (maxL := 5) (ret := some .int) (hh := [(0, 10, 13, 13)]) rfl rfl ?_
  intro p e s m args below meth c s₁ B hml hv0
  obtain ⟨rfl, ⟨hsz, hP, hD0, hcx, hst⟩, hz⟩ := hv0
  have hts := atoms_spec (ws := wLa :: lw_g) B.pre
  have htg : ∀ w ∈ lw_g, w.before _ s = true := fun w hw => hts w (List.mem_cons_of_mem _ hw)
  have hown : s.vm.findClass "CountyWatchLaw" = some m.cls := findClass_of_methodNamed B.named
  have hnm : meth.name = "about" := (name_of_methodNamed B.named B.method).1
  have htbl : c.exceptionTable.toList = tableOf [(0, 10, 13, 13)] := vx_table (x := yLa) B (hts _ List.mem_cons_self)
  subst hsz
  have hD := hD0.self (sz := s.heap.size)
  have hl := lv_entry ([Value.ref 0, .int x1, .int x2, .ref 2].map (h_cv ad)) (n := 5) (Nat.le_of_ble_eq_true rfl)
  rw [lg_entry_eq]
  generalize (lg_sl ([Value.ref 0, .int x1, .int x2, .ref 2].map (h_cv ad)) ++ List.replicate (5 - (lg_sl ([Value.ref 0, .int x1, .int x2, .ref 2].map (h_cv ad))).length) Slot.unset).toArray = ls at hl ⊢
  have hl : lv_has ls 5 [(0, .ref (ad 0)), (1, .int x1), (2, .int x2), (3, .ref (ad 2))] := hl
  have hW : wd_ dC dI cy (va_A (h_W cy ad h dom) s.heap.size) ad dom h s.heap := ⟨hdm, hP, hD⟩
  have hS : va_S (va_A (h_W cy ad h dom) s.heap.size) s.heap s.heap [] := va_S.rf
  have hf : fr_ yLa method_3_code 5 (some .int) p s m _ meth c dC dI cy (va_A (h_W cy ad h dom) s.heap.size) := ⟨B.exec, B.bytes, hml, B.returns, B.notSynchronized, hown, hnm, htg, hcx, fun q hq => Or.inr hq⟩
  have m0 : (0 : Nat) ∈ dom := dom_h hdm.2.1 (ws_0 I.1)
  have m2 : (2 : Nat) ∈ dom := dom_h hdm.2.1 s2
  refine lv_aload_n B.exec B.bytes d_La_0 rfl (hl.2.2 (3, .ref (ad 2)) (by simp)) ?_
  refine lv_iconst B.exec B.bytes d_La_1 ic_0 ?_
  refine lv_aload_n B.exec B.bytes d_La_2 rfl (hl.2.2 (0, .ref (ad 0)) List.mem_cons_self) ?_
  refine lv_iload_n B.exec B.bytes d_La_3 rfl (hl.2.2 (1, .int x1) (by simp)) ?_
  refine lv_iload_n B.exec B.bytes d_La_4 rfl (hl.2.2 (2, .int x2) (by simp)) ?_
  obtain ⟨q, hq, hw⟩ := h_W_get (cy := cy) (ad := ad) (h := h) m0
  rw [h_ce_obj (ci := 11) (n := 16) (ws_0 I.1)] at hw
  have hm := cV_X11_about 12 1 6
  have hsub : ∀ z, va_A (h_W cy ad h dom) s.heap.size z → va_A (h_W cy ad h dom) s.heap.size z := fun _ z => z
  have hr := vx_runV (l := l.1) (e := e) (below := below) (meth := meth) (locs := []) (cells := 0) (slots := 0) (R := RLa) (m := m) (g := F0 m 5 ls [.int x2, .int x1, .ref (ad 0), .int 0, .ref (ad 2)]) (rest := [.int 0, .ref (ad 2)]) (As := [Value.int x1, .int x2]) ⟨B.exec, B.bytes, hml, hown, htg⟩ (xa_about l dC dI cy ad adV dom s.heap.size I hdm x1 x2) ⟨cb_ htg hm.1 tw_1665 ⟨by decide, by decide⟩, htg _ hm.2.1, htg _ hm.2.2⟩ ⟨cz_blind, va_recv hcx.1 hP kc_11.1 hw, fun U hU hWm => ⟨rfl, cp_pre hf hst hW hS hU hWm, hz.go hS hU hWm hsub⟩⟩ rfl rfl hl.1 rfl (lv_room (Nat.le_of_ble_eq_true rfl)) d_La_5 ⟨by decide, by decide⟩
  intro T hT0 X
  rcases hr T hT0 X with ⟨v, st₀, t, T', L, h0, X', hL, e1, e2, ⟨⟨v', h', ad', dom', hv, ⟨⟨r, er⟩, I', F'⟩, hW', hov', hE'⟩, hz1, hkp⟩, stp⟩ | ⟨q9, st₀, t, T', L, E, ce, h0, X', hL, e1, e2, ⟨rfl, ⟨h', ad', dom', ⟨I', F'⟩, hW', hE'⟩, hz1, hkp⟩, hce, hcv, hcl, st⟩
  · cases hv
    subst er
    rw [h0] at hz1 hkp
    have hS1 : va_S (va_A (h_W cy ad h dom) s.heap.size) s.heap T'.heap ([] ++ L) := ⟨by rw [e1]; exact hz1, fun q h1 h2 => by rw [e1]; exact hkp q h1 h2, fun q hq => hL q (by simpa using hq)⟩
    have hW1 : wd_ dC dI cy (va_A (h_W cy ad h dom) s.heap.size) ad' dom' h' T'.heap := by rw [e1]; exact hW'
    have he : ∀ a, 1000 ≤ a → ad' a = ad a := fun a ha => hE'.1 a (Or.inr ha)
    have a0 : ad' 0 = ad 0 := hE'.1 0 (Or.inl m0)
    have a2 : ad' 2 = ad 2 := hE'.1 2 (Or.inl m2)
    have hl1 : lv_has ls 5 ([(0, Value.ref 0), (1, .int x1), (2, .int x2), (3, .ref 2)].map (fun q => (q.1, h_cv ad' q.2))) := by
      show lv_has ls 5 [(0, .ref (ad' 0)), (1, .int x1), (2, .int x2), (3, .ref (ad' 2))]
      rw [a0, a2]; exact hl
    have o0 : h_ok dom' (.ref 0) := fun c hc => by cases hc; exact Or.inl (hE'.2 _ m0)
    have o2 : h_ok dom' (.ref 2) := fun c hc => by cases hc; exact Or.inl (hE'.2 _ m2)
    have k := la_ret I' F' s2 x1 x2 r l p e s m ([Value.ref 0, .int x1, .int x2, .ref 2].map (h_cv ad)).toArray below meth c dC dI cy (va_A (h_W cy ad h dom) s.heap.size) ad adV ad' dom dom' T'.heap ([] ++ L) ls hf trivial (st_same he hst) hE' hW1 hS1 hl1 (fun q hq => by
      rcases List.mem_cons.mp hq with z | hq
      · rw [z]; exact o0
      · rcases List.mem_cons.mp hq with z | hq
        · rw [z]; exact ok_i
        · rcases List.mem_cons.mp hq with z | hq
          · rw [z]; exact ok_i
          · rw [List.mem_singleton.mp hq]; exact o2) (ok_c ok_i (ok_c ok_i (ok_c o2 (fun v hv => by cases hv))))
    obtain ⟨t2, a1, b1⟩ := vx_ret (XC := fun _ _ _ => False) k T' rfl X'
    refine ⟨t2, stp t2 ?_, b1⟩
    have a1 : Steps p.tables e below (T'.setTop (F0 m 8 ls [.int r, .int 0, .ref (ad' 2)])) t2 := a1
    rw [a2] at a1
    exact a1
  · rw [h0] at hz1 hkp
    have hS1 : va_S (va_A (h_W cy ad h dom) s.heap.size) s.heap T'.heap ([] ++ L) := ⟨by rw [e1]; exact hz1, fun q h1 h2 => by rw [e1]; exact hkp q h1 h2, fun q hq => hL q (by simpa using hq)⟩
    have hW1 : wd_ dC dI cy (va_A (h_W cy ad h dom) s.heap.size) ad' dom' h' T'.heap := by rw [e1]; exact hW'
    have hca : (Cond.castable xE xE).before #[] s = true := hz.2.2.2.2 _ (by decide +kernel)
    have key : vx_W p l.1 e RLa s m ([Value.ref 0, .int x1, .int x2, .ref 2].map (h_cv ad)).toArray below meth c T'.heap ([] ++ L) (0 + 1) (0 + 6) (vx_MQ below (qq_ (kLa h) dC dI cy (va_A (h_W cy ad h dom) s.heap.size) ad dom) (fun _ _ _ => False) ([Value.ref 0, .int x1, .int x2, .ref 2].map (h_cv ad)).toArray s 1 6 (va_A (h_W cy ad h dom) s.heap.size)) (F0 m 5 ls [.int 0, .ref (ad 2)]) q9 := by
      refine vx_catch (own := "CountyWatchLaw") (name := xE) (E := xE) (ce := ce) hown [] ⟨0, 10, 13, 13⟩ [] (by rw [htbl]; rfl) (fun z hz => by cases hz) (by decide) (by decide) (htg _ tw_1664) (va_tabs rfl rfl hca) (by rw [e1]; exact hce) hcv hcl ?_
      refine lv_astore B.exec B.bytes d_La_13 hl (by decide) rfl (fun ls' hl' => ?_)
      refine lv_iconst B.exec B.bytes d_La_15 ic_1 ?_
      refine vx_ret ?_
      exact W.iret B.exec B.bytes B.returns (fun t1 ht _ => ⟨⟨some (.int 1), h', ad', dom', rfl, ⟨⟨1, rfl⟩, I', F'.more (by decide +kernel)⟩, by rw [ht]; exact hW1, fun _ hx => by cases hx; exact ok_i, hE'⟩, hS1.F ht⟩) hS1.2.2 d_La_16 B.notSynchronized
    obtain ⟨t2, a1, b1⟩ := key T' rfl X'
    exact ⟨t2, st.trans a1, b1⟩
theorem xl_met (l : Ln_) (dC : Nat → ClassId) (dI : Nat → Nat → Nat) (cy : Nat → ClassId) (ad adV : Nat → Nat) (dom : List Nat) (sz : Nat) {h : Hp_} (I : Iv h) (s2 : h_sh h 2 = some (3, 1)) (hdm : dom.Nodup ∧ (∀ a, h_sh h a ≠ none ↔ a ∈ dom) ∧ (∀ a ∈ dom, a < 1000) ∧ ∀ b k c, h_r h b k = some c → c ∈ dom ∨ 1000 ≤ c) (x1 x2 : Int32) :
    Met l.1 yLa (wLa :: lw_g) RLa (va_Pc ([Value.ref 0, .int x1, .int x2, .ref 2].map (h_cv ad)) (cz_ dC dI cy ad adV dom h sz)) (qq_ (kLa h) dC dI cy (va_A (h_W cy ad h dom) sz) ad dom) 1 6 (va_A (h_W cy ad h dom) sz) := by
  intro p e ha hc hk s m args below hf hp hP hT
  obtain ⟨k, o, h1, h2, h3, h4⟩ := xl_about l dC dI cy ad adV dom sz I s2 hdm x1 x2 p e ha hc hk s m args below hf hp hP hT
  rcases h4 with h4 | ⟨q, _, E, ce, L, hbad, _⟩
  · exact ⟨k, o, h1, h2, h3, h4⟩
  · exact hbad.elim
end
section
theorem t_X3_alike (d : Nat) (h : Hp_) (x0 : Int32) (x1 : Int32) (K : Int32 → Hp_ → Prop) (k : AW (m_X3_alike (d + 0) 0 0) 0 0 10 [(2, .int 0), (3, .int x0), (4, .int x1), (5, .int 0)] [] h (kI K)) : Ci (m_X3_alike (d + 0) 0 0) [.int x0, .int x1] h K := by
  refine Ct.of (fun _ _ _ => trivial) pn_X3 (Nat.le_of_ble_eq_true rfl) ?_
  show AW (m_X3_alike (d + 0) 0 0) 0 0 0 [(0, .int x0), (1, .int x1)] [] h (kI K)
  refine aw_iconst (v := 0) d_X3_alike_0 ic_0 ?_
  refine aw_istore_n (i := 2) rfl [(0, .int x0), (1, .int x1), (2, .int 0)] d_X3_alike_1 (Nat.le_of_ble_eq_true rfl) rfl rfl ?_
  refine aw_iload_n (i := 0) rfl d_X3_alike_2 0 rfl ?_
  refine aw_istore_n (i := 3) rfl [(0, .int x0), (1, .int x1), (2, .int 0), (3, .int x0)] d_X3_alike_3 (Nat.le_of_ble_eq_true rfl) rfl rfl ?_
  refine aw_iload_n (i := 1) rfl d_X3_alike_4 1 rfl ?_
  refine aw_istore [(0, .int x0), (1, .int x1), (2, .int 0), (3, .int x0), (4, .int x1)] d_X3_alike_5 (Nat.le_of_ble_eq_true rfl) rfl rfl ?_
  refine aw_iconst (v := 0) d_X3_alike_7 ic_0 ?_
  refine aw_istore [(0, .int x0), (1, .int x1), (2, .int 0), (3, .int x0), (4, .int x1), (5, .int 0)] d_X3_alike_8 (Nat.le_of_ble_eq_true rfl) rfl rfl ?_
  exact aw_lvp [2, 3, 4, 5] [(2, .int 0), (3, .int x0), (4, .int x1), (5, .int 0)] rfl k
theorem t_X3_alike_10 (d : Nat) (h : Hp_) (x2 : Int32) (x3 : Int32) (x4 : Int32) (x5 : Int32) (K : Int32 → Hp_ → Prop) (k : (5 ≤ x5 → K x2 h) ∧ (¬ 5 ≤ x5 → (¬ (x3 - x3 / 10 * 10) = (x4 - x4 / 10 * 10) → AW (m_X3_alike (d + 0) 0 0) 0 0 10 [(2, .int x2), (3, .int (x3 / 10)), (4, .int (x4 / 10)), (5, .int (x5 + 1))] [] h (kI K)) ∧ ((x3 - x3 / 10 * 10) = (x4 - x4 / 10 * 10) → AW (m_X3_alike (d + 0) 0 0) 0 0 10 [(2, .int (x2 + 1)), (3, .int (x3 / 10)), (4, .int (x4 / 10)), (5, .int (x5 + 1))] [] h (kI K)))) : AW (m_X3_alike (d + 0) 0 0) 0 0 10 [(2, .int x2), (3, .int x3), (4, .int x4), (5, .int x5)] [] h (kI K) := by
  refine aw_iload d_X3_alike_10 3 rfl ?_
  refine aw_iconst (v := 5) d_X3_alike_12 ic_5 ?_
  refine aw_icmp_ge (tgt := 49) d_X3_alike_13 rfl (fun c1 => ?_) (fun c1 => ?_)
  · have k := k.1 c1
    refine aw_iload_n (i := 2) rfl d_X3_alike_49 0 rfl ?_
    exact aw_iret rfl d_X3_alike_50 ⟨Nat.le_refl _, Nat.le_refl _⟩ ⟨_, rfl, k⟩
  · have k := k.2 c1
    refine aw_iload_n (i := 3) rfl d_X3_alike_16 1 rfl ?_
    refine aw_bipush (v := 10) d_X3_alike_17 ib_10 ?_
    refine aw_irem d_X3_alike_19 (by decide) ?_
    refine aw_iload d_X3_alike_20 2 rfl ?_
    refine aw_bipush (v := 10) d_X3_alike_22 ib_10 ?_
    refine aw_irem d_X3_alike_24 (by decide) ?_
    refine aw_icmp_ne (tgt := 31) d_X3_alike_25 rfl (fun c2 => ?_) (fun c2 => ?_)
    · have k := k.1 c2
      refine aw_iload_n (i := 3) rfl d_X3_alike_31 1 rfl ?_
      refine aw_bipush (v := 10) d_X3_alike_32 ib_10 ?_
      refine aw_idiv d_X3_alike_34 (by decide) ?_
      refine aw_istore_n (i := 3) rfl [(2, .int x2), (3, .int (x3 / 10)), (4, .int x4), (5, .int x5)] d_X3_alike_35 (Nat.le_of_ble_eq_true rfl) rfl rfl ?_
      refine aw_iload d_X3_alike_36 2 rfl ?_
      refine aw_bipush (v := 10) d_X3_alike_38 ib_10 ?_
      refine aw_idiv d_X3_alike_40 (by decide) ?_
      refine aw_istore [(2, .int x2), (3, .int (x3 / 10)), (4, .int (x4 / 10)), (5, .int x5)] d_X3_alike_41 (Nat.le_of_ble_eq_true rfl) rfl rfl ?_
      refine aw_iinc (v := (x5 + 1)) [(2, .int x2), (3, .int (x3 / 10)), (4, .int (x4 / 10)), (5, .int (x5 + 1))] d_X3_alike_43 3 rfl rfl (Nat.le_of_ble_eq_true rfl) rfl rfl ?_
      refine aw_goto (tgt := 10) d_X3_alike_46 rfl ?_
      exact k
    · have k := k.2 c2
      refine aw_iinc (v := (x2 + 1)) [(2, .int (x2 + 1)), (3, .int x3), (4, .int x4), (5, .int x5)] d_X3_alike_28 0 rfl rfl (Nat.le_of_ble_eq_true rfl) rfl rfl ?_
      refine aw_iload_n (i := 3) rfl d_X3_alike_31 1 rfl ?_
      refine aw_bipush (v := 10) d_X3_alike_32 ib_10 ?_
      refine aw_idiv d_X3_alike_34 (by decide) ?_
      refine aw_istore_n (i := 3) rfl [(2, .int (x2 + 1)), (3, .int (x3 / 10)), (4, .int x4), (5, .int x5)] d_X3_alike_35 (Nat.le_of_ble_eq_true rfl) rfl rfl ?_
      refine aw_iload d_X3_alike_36 2 rfl ?_
      refine aw_bipush (v := 10) d_X3_alike_38 ib_10 ?_
      refine aw_idiv d_X3_alike_40 (by decide) ?_
      refine aw_istore [(2, .int (x2 + 1)), (3, .int (x3 / 10)), (4, .int (x4 / 10)), (5, .int x5)] d_X3_alike_41 (Nat.le_of_ble_eq_true rfl) rfl rfl ?_
      refine aw_iinc (v := (x5 + 1)) [(2, .int (x2 + 1)), (3, .int (x3 / 10)), (4, .int (x4 / 10)), (5, .int (x5 + 1))] d_X3_alike_43 3 rfl rfl (Nat.le_of_ble_eq_true rfl) rfl rfl ?_
      refine aw_goto (tgt := 10) d_X3_alike_46 rfl ?_
      exact k
theorem t_X3_fillGains (d : Nat) (h : Hp_)  (K : Hp_ → Prop) (k : AW (m_X3_fillGains (d + 1) 0 0) 0 0 2 [(0, .ref 19), (1, .int 0)] [] h (kV K)) : Cv (m_X3_fillGains (d + 1) 0 0) [.ref 19] h K := by
  refine Ct.of (fun _ _ _ => trivial) pn_X3 (Nat.le_of_ble_eq_true rfl) ?_
  show AW (m_X3_fillGains (d + 1) 0 0) 0 0 0 [(0, .ref 19)] [] h (kV K)
  refine aw_iconst (v := 0) d_X3_fillGains_0 ic_0 ?_
  refine aw_istore_n (i := 1) rfl [(0, .ref 19), (1, .int 0)] d_X3_fillGains_1 (Nat.le_of_ble_eq_true rfl) rfl rfl ?_
  exact k
theorem t_X3_fillGains_2 (d : Nat) (h : Hp_) (w : Wf h) (x1 : Int32) (K : Hp_ → Prop) (k : ((h_i h 19 2) ≤ x1 → K h) ∧ (¬ (h_i h 19 2) ≤ x1 → AW (m_X3_fillGains (d + 1) 0 0) 0 0 12 [(0, .ref 19), (1, .int x1), (2, .int 0)] [] h (kV K))) : AW (m_X3_fillGains (d + 1) 0 0) 0 0 2 [(0, .ref 19), (1, .int x1)] [] h (kV K) := by
  refine aw_iload_n (i := 1) rfl d_X3_fillGains_2 1 rfl ?_
  refine aw_aload_n (i := 0) rfl d_X3_fillGains_3 0 rfl ?_
  refine aw_geti (k0 := 2) kc_3 (ws_19 w) (Nat.le_of_ble_eq_true rfl) tw_323 d_X3_fillGains_4 rfl ?_
  refine aw_icmp_ge (tgt := 72) d_X3_fillGains_7 rfl (fun c1 => ?_) (fun c1 => ?_)
  · have k := k.1 c1
    exact aw_vret rfl d_X3_fillGains_72 ⟨Nat.le_refl _, Nat.le_refl _⟩ ⟨rfl, k⟩
  · have k := k.2 c1
    refine aw_iconst (v := 0) d_X3_fillGains_10 ic_0 ?_
    refine aw_istore_n (i := 2) rfl [(0, .ref 19), (1, .int x1), (2, .int 0)] d_X3_fillGains_11 (Nat.le_of_ble_eq_true rfl) rfl rfl ?_
    exact k
theorem t_X3_fillGains_12 (d : Nat) (h : Hp_) (w : Wf h) (x1 : Int32) (x2 : Int32) (K : Hp_ → Prop) (k : ((h_i h 19 3) ≤ x2 → AW (m_X3_fillGains (d + 1) 0 0) 0 0 2 [(0, .ref 19), (1, .int (x1 + 1))] [] h (kV K)) ∧ (¬ (h_i h 19 3) ≤ x2 → vp_in x1 8 ∧ (vp_in x2 8 ∧ (Ci (m_X3_alike (d + 0) 0 0) [.int (h_i h 85 x1.toNatClampNeg), .int (h_i h 86 x2.toNatClampNeg)] h (fun r7 h5 => Wf h5 ∧ ((r7 < (h_i h5 19 4) → vp_in ((x1 * 8) + x2) 64 ∧ (AW (m_X3_fillGains (d + 1) 0 0) 0 0 12 [(0, .ref 19), (1, .int x1), (2, .int (x2 + 1))] [] (h_im h5 87 (((x1 * 8) + x2) : Int32).toNatClampNeg 0) (kV K))) ∧ (¬ r7 < (h_i h5 19 4) → vp_in ((x1 * 8) + x2) 64 ∧ (AW (m_X3_fillGains (d + 1) 0 0) 0 0 12 [(0, .ref 19), (1, .int x1), (2, .int (x2 + 1))] [] (h_im h5 87 (((x1 * 8) + x2) : Int32).toNatClampNeg r7) (kV K))))))))) : AW (m_X3_fillGains (d + 1) 0 0) 0 0 12 [(0, .ref 19), (1, .int x1), (2, .int x2)] [] h (kV K) := by
  refine aw_iload_n (i := 2) rfl d_X3_fillGains_12 2 rfl ?_
  refine aw_aload_n (i := 0) rfl d_X3_fillGains_13 0 rfl ?_
  refine aw_geti (k0 := 3) kc_3 (ws_19 w) (Nat.le_of_ble_eq_true rfl) tw_325 d_X3_fillGains_14 rfl ?_
  refine aw_icmp_ge (tgt := 66) d_X3_fillGains_17 rfl (fun c2 => ?_) (fun c2 => ?_)
  · have k := k.1 c2
    refine aw_iinc (v := (x1 + 1)) [(0, .ref 19), (1, .int (x1 + 1)), (2, .int x2)] d_X3_fillGains_66 1 rfl rfl (Nat.le_of_ble_eq_true rfl) rfl rfl ?_
    refine aw_goto (tgt := 2) d_X3_fillGains_69 rfl ?_
    exact aw_lvp [0, 1] [(0, .ref 19), (1, .int (x1 + 1))] rfl k
  · have k := k.2 c2
    refine aw_aload_n (i := 0) rfl d_X3_fillGains_20 0 rfl ?_
    refine aw_getr (k0 := 0) kc_3 (ws_19 w) (Nat.le_of_ble_eq_true rfl) tw_321 d_X3_fillGains_21 rfl (wr_19_0 w) ?_
    refine aw_iload_n (i := 1) rfl d_X3_fillGains_24 1 rfl ?_
    obtain ⟨b3, k⟩ := k
    refine aw_iald (ws_85 w) b3 d_X3_fillGains_25 ?_
    refine aw_aload_n (i := 0) rfl d_X3_fillGains_26 0 rfl ?_
    refine aw_getr (k0 := 1) kc_3 (ws_19 w) (Nat.le_of_ble_eq_true rfl) tw_322 d_X3_fillGains_27 rfl (wr_19_1 w) ?_
    refine aw_iload_n (i := 2) rfl d_X3_fillGains_30 2 rfl ?_
    obtain ⟨b4, k⟩ := k
    refine aw_iald (ws_86 w) b4 d_X3_fillGains_31 ?_
    refine aw_Si [.int (h_i h 85 x1.toNatClampNeg), .int (h_i h 86 x2.toNatClampNeg)] [] d_X3_fillGains_32 (cS_X3_alike (d + 0) 0 0) tw_1347 rfl (rr0 (Nat.le_of_ble_eq_true rfl) (Nat.le_of_ble_eq_true rfl)) (Nat.le_of_ble_eq_true rfl) xs0 k (fun r7 h5 kk => ?_)
    obtain ⟨w6, k⟩ := kk
    refine aw_istore_n (i := 3) rfl [(0, .ref 19), (1, .int x1), (2, .int x2), (3, .int r7)] d_X3_fillGains_35 (Nat.le_of_ble_eq_true rfl) rfl rfl ?_
    refine aw_aload_n (i := 0) rfl d_X3_fillGains_36 0 rfl ?_
    refine aw_getr (k0 := 6) kc_3 (ws_19 w6) (Nat.le_of_ble_eq_true rfl) tw_329 d_X3_fillGains_37 rfl (wr_19_6 w6) ?_
    refine aw_iload_n (i := 1) rfl d_X3_fillGains_40 1 rfl ?_
    refine aw_bipush (v := 8) d_X3_fillGains_41 ib_8 ?_
    refine aw_imul d_X3_fillGains_43 ?_
    refine aw_iload_n (i := 2) rfl d_X3_fillGains_44 2 rfl ?_
    refine aw_iadd d_X3_fillGains_45 ?_
    refine aw_iload_n (i := 3) rfl d_X3_fillGains_46 3 rfl ?_
    refine aw_aload_n (i := 0) rfl d_X3_fillGains_47 0 rfl ?_
    refine aw_geti (k0 := 4) kc_3 (ws_19 w6) (Nat.le_of_ble_eq_true rfl) tw_327 d_X3_fillGains_48 rfl ?_
    refine aw_icmp_lt (tgt := 58) d_X3_fillGains_51 rfl (fun c8 => ?_) (fun c8 => ?_)
    · have k := k.1 c8
      refine aw_iconst (v := 0) d_X3_fillGains_58 ic_0 ?_
      obtain ⟨b9, k⟩ := k
      refine aw_iast (ws_87 w6) b9 d_X3_fillGains_59 ?_
      refine aw_iinc (v := (x2 + 1)) [(0, .ref 19), (1, .int x1), (2, .int (x2 + 1)), (3, .int r7)] d_X3_fillGains_60 2 rfl rfl (Nat.le_of_ble_eq_true rfl) rfl rfl ?_
      refine aw_goto (tgt := 12) d_X3_fillGains_63 rfl ?_
      exact aw_lvp [0, 1, 2] [(0, .ref 19), (1, .int x1), (2, .int (x2 + 1))] rfl k
    · have k := k.2 c8
      refine aw_iload_n (i := 3) rfl d_X3_fillGains_54 3 rfl ?_
      refine aw_goto (tgt := 59) d_X3_fillGains_55 rfl ?_
      obtain ⟨b10, k⟩ := k
      refine aw_iast (ws_87 w6) b10 d_X3_fillGains_59 ?_
      refine aw_iinc (v := (x2 + 1)) [(0, .ref 19), (1, .int x1), (2, .int (x2 + 1)), (3, .int r7)] d_X3_fillGains_60 2 rfl rfl (Nat.le_of_ble_eq_true rfl) rfl rfl ?_
      refine aw_goto (tgt := 12) d_X3_fillGains_63 rfl ?_
      exact aw_lvp [0, 1, 2] [(0, .ref 19), (1, .int x1), (2, .int (x2 + 1))] rfl k
theorem t_X3_canJoin (d : Nat) (h : Hp_) (w : Wf h) (x1 : Int32) (x2 : Int32) (x3 : Int32) (K : Int32 → Hp_ → Prop) (k : (¬ ((x3 >>> (x2 &&& 31)) &&& 1) = 0 → K 0 h) ∧ (((x3 >>> (x2 &&& 31)) &&& 1) = 0 → vp_in ((x1 * 8) + x2) 64 ∧ (((h_i h 87 (((x1 * 8) + x2) : Int32).toNatClampNeg) ≤ 0 → K 0 h) ∧ (¬ (h_i h 87 (((x1 * 8) + x2) : Int32).toNatClampNeg) ≤ 0 → K 1 h)))) : Ci (m_X3_canJoin (d + 0) 0 0) [.ref 19, .int x1, .int x2, .int x3] h K := by
  refine Ct.of (fun _ _ _ => trivial) pn_X3 (Nat.le_of_ble_eq_true rfl) ?_
  show AW (m_X3_canJoin (d + 0) 0 0) 0 0 0 [(0, .ref 19), (1, .int x1), (2, .int x2), (3, .int x3)] [] h (kI K)
  refine aw_iload_n (i := 3) rfl d_X3_canJoin_0 3 rfl ?_
  refine aw_iload_n (i := 2) rfl d_X3_canJoin_1 2 rfl ?_
  refine aw_ishr d_X3_canJoin_2 ?_
  refine aw_iconst (v := 1) d_X3_canJoin_3 ic_1 ?_
  refine aw_iand d_X3_canJoin_4 ?_
  refine aw_if_ne (tgt := 26) d_X3_canJoin_5 rfl (fun c1 => ?_) (fun c1 => ?_)
  · have k := k.1 c1
    refine aw_iconst (v := 0) d_X3_canJoin_26 ic_0 ?_
    exact aw_zret rfl rfl d_X3_canJoin_27 ⟨Nat.le_refl _, Nat.le_refl _⟩ ⟨_, rfl, k⟩
  · have k := k.2 c1
    refine aw_aload_n (i := 0) rfl d_X3_canJoin_8 0 rfl ?_
    refine aw_getr (k0 := 6) kc_3 (ws_19 w) (Nat.le_of_ble_eq_true rfl) tw_329 d_X3_canJoin_9 rfl (wr_19_6 w) ?_
    refine aw_iload_n (i := 1) rfl d_X3_canJoin_12 1 rfl ?_
    refine aw_bipush (v := 8) d_X3_canJoin_13 ib_8 ?_
    refine aw_imul d_X3_canJoin_15 ?_
    refine aw_iload_n (i := 2) rfl d_X3_canJoin_16 2 rfl ?_
    refine aw_iadd d_X3_canJoin_17 ?_
    obtain ⟨b2, k⟩ := k
    refine aw_iald (ws_87 w) b2 d_X3_canJoin_18 ?_
    refine aw_if_le (tgt := 26) d_X3_canJoin_19 rfl (fun c3 => ?_) (fun c3 => ?_)
    · have k := k.1 c3
      refine aw_iconst (v := 0) d_X3_canJoin_26 ic_0 ?_
      exact aw_zret rfl rfl d_X3_canJoin_27 ⟨Nat.le_refl _, Nat.le_refl _⟩ ⟨_, rfl, k⟩
    · have k := k.2 c3
      refine aw_iconst (v := 1) d_X3_canJoin_22 ic_1 ?_
      refine aw_goto (tgt := 27) d_X3_canJoin_23 rfl ?_
      exact aw_zret rfl rfl d_X3_canJoin_27 ⟨Nat.le_refl _, Nat.le_refl _⟩ ⟨_, rfl, k⟩
theorem t_X3_sumWith (d : Nat) (h : Hp_) (w : Wf h) (x1 : Int32) (x2 : Int32) (x3 : Int32) (K : Int32 → Hp_ → Prop) (k : vp_in ((x1 * 8) + x2) 64 ∧ (vp_in (((x1 + 1) * 256) + (x3 ||| ((1 : Int32) <<< (x2 &&& 31)))) 2304 ∧ (K ((h_i h 87 (((x1 * 8) + x2) : Int32).toNatClampNeg) + (h_i h 88 ((((x1 + 1) * 256) + (x3 ||| ((1 : Int32) <<< (x2 &&& 31)))) : Int32).toNatClampNeg)) h))) : Ci (m_X3_sumWith (d + 0) 0 0) [.ref 19, .int x1, .int x2, .int x3] h K := by
  refine Ct.of (fun _ _ _ => trivial) pn_X3 (Nat.le_of_ble_eq_true rfl) ?_
  show AW (m_X3_sumWith (d + 0) 0 0) 0 0 0 [(0, .ref 19), (1, .int x1), (2, .int x2), (3, .int x3)] [] h (kI K)
  refine aw_aload_n (i := 0) rfl d_X3_sumWith_0 0 rfl ?_
  refine aw_getr (k0 := 6) kc_3 (ws_19 w) (Nat.le_of_ble_eq_true rfl) tw_329 d_X3_sumWith_1 rfl (wr_19_6 w) ?_
  refine aw_iload_n (i := 1) rfl d_X3_sumWith_4 1 rfl ?_
  refine aw_bipush (v := 8) d_X3_sumWith_5 ib_8 ?_
  refine aw_imul d_X3_sumWith_7 ?_
  refine aw_iload_n (i := 2) rfl d_X3_sumWith_8 2 rfl ?_
  refine aw_iadd d_X3_sumWith_9 ?_
  obtain ⟨b1, k⟩ := k
  refine aw_iald (ws_87 w) b1 d_X3_sumWith_10 ?_
  refine aw_aload_n (i := 0) rfl d_X3_sumWith_11 0 rfl ?_
  refine aw_getr (k0 := 7) kc_3 (ws_19 w) (Nat.le_of_ble_eq_true rfl) tw_330 d_X3_sumWith_12 rfl (wr_19_7 w) ?_
  refine aw_iload_n (i := 1) rfl d_X3_sumWith_15 1 rfl ?_
  refine aw_iconst (v := 1) d_X3_sumWith_16 ic_1 ?_
  refine aw_iadd d_X3_sumWith_17 ?_
  refine aw_sipush (v := 256) d_X3_sumWith_18 is_256 ?_
  refine aw_imul d_X3_sumWith_21 ?_
  refine aw_iload_n (i := 3) rfl d_X3_sumWith_22 3 rfl ?_
  refine aw_iconst (v := 1) d_X3_sumWith_23 ic_1 ?_
  refine aw_iload_n (i := 2) rfl d_X3_sumWith_24 2 rfl ?_
  refine aw_ishl d_X3_sumWith_25 ?_
  refine aw_ior d_X3_sumWith_26 ?_
  refine aw_iadd d_X3_sumWith_27 ?_
  obtain ⟨b2, k⟩ := k
  refine aw_iald (ws_88 w) b2 d_X3_sumWith_28 ?_
  refine aw_iadd d_X3_sumWith_29 ?_
  exact aw_iret rfl d_X3_sumWith_30 ⟨Nat.le_refl _, Nat.le_refl _⟩ ⟨_, rfl, k⟩
theorem t_X3_fillBest (d : Nat) (h : Hp_) (w : Wf h)  (K : Hp_ → Prop) (k : Cv (m_J7_fill_53178 (d + 0) 0 0) [.ref 88, .int 0] h (fun h1 => Wf h1 ∧ (AW (m_X3_fillBest (d + 1) 0 0) 0 0 22 [(0, .ref 19), (1, .int ((1 : Int32) <<< ((h_i h1 19 3) &&& 31))), (2, .int ((h_i h1 19 2) - 1))] [] h1 (kV K)))) : Cv (m_X3_fillBest (d + 1) 0 0) [.ref 19] h K := by
  refine Ct.of (fun _ _ _ => trivial) pn_X3 (Nat.le_of_ble_eq_true rfl) ?_
  show AW (m_X3_fillBest (d + 1) 0 0) 0 0 0 [(0, .ref 19)] [] h (kV K)
  refine aw_aload_n (i := 0) rfl d_X3_fillBest_0 0 rfl ?_
  refine aw_getr (k0 := 7) kc_3 (ws_19 w) (Nat.le_of_ble_eq_true rfl) tw_330 d_X3_fillBest_1 rfl (wr_19_7 w) ?_
  refine aw_iconst (v := 0) d_X3_fillBest_4 ic_0 ?_
  refine aw_Sv [.ref 88, .int 0] [] d_X3_fillBest_5 (cS_J7_fill_53178 (d + 0) 0 0) tw_1354 rfl (rr0 (Nat.le_of_ble_eq_true rfl) (Nat.le_of_ble_eq_true rfl)) (Nat.le_of_ble_eq_true rfl) xs0 k (fun h1 kk => ?_)
  obtain ⟨w2, k⟩ := kk
  refine aw_iconst (v := 1) d_X3_fillBest_8 ic_1 ?_
  refine aw_aload_n (i := 0) rfl d_X3_fillBest_9 0 rfl ?_
  refine aw_geti (k0 := 3) kc_3 (ws_19 w2) (Nat.le_of_ble_eq_true rfl) tw_325 d_X3_fillBest_10 rfl ?_
  refine aw_ishl d_X3_fillBest_13 ?_
  refine aw_istore_n (i := 1) rfl [(0, .ref 19), (1, .int ((1 : Int32) <<< ((h_i h1 19 3) &&& 31)))] d_X3_fillBest_14 (Nat.le_of_ble_eq_true rfl) rfl rfl ?_
  refine aw_aload_n (i := 0) rfl d_X3_fillBest_15 0 rfl ?_
  refine aw_geti (k0 := 2) kc_3 (ws_19 w2) (Nat.le_of_ble_eq_true rfl) tw_323 d_X3_fillBest_16 rfl ?_
  refine aw_iconst (v := 1) d_X3_fillBest_19 ic_1 ?_
  refine aw_isub d_X3_fillBest_20 ?_
  refine aw_istore_n (i := 2) rfl [(0, .ref 19), (1, .int ((1 : Int32) <<< ((h_i h1 19 3) &&& 31))), (2, .int ((h_i h1 19 2) - 1))] d_X3_fillBest_21 (Nat.le_of_ble_eq_true rfl) rfl rfl ?_
  exact k
theorem t_X3_fillBest_22 (d : Nat) (h : Hp_) (x1 : Int32) (x2 : Int32) (K : Hp_ → Prop) (k : (x2 < 0 → K h) ∧ (¬ x2 < 0 → AW (m_X3_fillBest (d + 1) 0 0) 0 0 28 [(0, .ref 19), (1, .int x1), (2, .int x2), (3, .int 0)] [] h (kV K))) : AW (m_X3_fillBest (d + 1) 0 0) 0 0 22 [(0, .ref 19), (1, .int x1), (2, .int x2)] [] h (kV K) := by
  refine aw_iload_n (i := 2) rfl d_X3_fillBest_22 2 rfl ?_
  refine aw_if_lt (tgt := 119) d_X3_fillBest_23 rfl (fun c4 => ?_) (fun c4 => ?_)
  · have k := k.1 c4
    exact aw_vret rfl d_X3_fillBest_119 ⟨Nat.le_refl _, Nat.le_refl _⟩ ⟨rfl, k⟩
  · have k := k.2 c4
    refine aw_iconst (v := 0) d_X3_fillBest_26 ic_0 ?_
    refine aw_istore_n (i := 3) rfl [(0, .ref 19), (1, .int x1), (2, .int x2), (3, .int 0)] d_X3_fillBest_27 (Nat.le_of_ble_eq_true rfl) rfl rfl ?_
    exact k
theorem t_X3_fillBest_28 (d : Nat) (h : Hp_) (w : Wf h) (x1 : Int32) (x2 : Int32) (x3 : Int32) (K : Hp_ → Prop) (k : (x1 ≤ x3 → AW (m_X3_fillBest (d + 1) 0 0) 0 0 22 [(0, .ref 19), (1, .int x1), (2, .int (x2 + (-1)))] [] h (kV K)) ∧ (¬ x1 ≤ x3 → vp_in (((x2 + 1) * 256) + x3) 2304 ∧ (AW (m_X3_fillBest (d + 1) 0 0) 0 0 52 [(0, .ref 19), (1, .int x1), (2, .int x2), (3, .int x3), (4, .int (h_i h 88 ((((x2 + 1) * 256) + x3) : Int32).toNatClampNeg)), (5, .int 0)] [] h (kV K)))) : AW (m_X3_fillBest (d + 1) 0 0) 0 0 28 [(0, .ref 19), (1, .int x1), (2, .int x2), (3, .int x3)] [] h (kV K) := by
  refine aw_iload_n (i := 3) rfl d_X3_fillBest_28 3 rfl ?_
  refine aw_iload_n (i := 1) rfl d_X3_fillBest_29 1 rfl ?_
  refine aw_icmp_ge (tgt := 113) d_X3_fillBest_30 rfl (fun c5 => ?_) (fun c5 => ?_)
  · have k := k.1 c5
    refine aw_iinc (v := (x2 + (-1))) [(0, .ref 19), (1, .int x1), (2, .int (x2 + (-1))), (3, .int x3)] d_X3_fillBest_113 2 rfl rfl (Nat.le_of_ble_eq_true rfl) rfl rfl ?_
    refine aw_goto (tgt := 22) d_X3_fillBest_116 rfl ?_
    exact aw_lvp [0, 1, 2] [(0, .ref 19), (1, .int x1), (2, .int (x2 + (-1)))] rfl k
  · have k := k.2 c5
    refine aw_aload_n (i := 0) rfl d_X3_fillBest_33 0 rfl ?_
    refine aw_getr (k0 := 7) kc_3 (ws_19 w) (Nat.le_of_ble_eq_true rfl) tw_330 d_X3_fillBest_34 rfl (wr_19_7 w) ?_
    refine aw_iload_n (i := 2) rfl d_X3_fillBest_37 2 rfl ?_
    refine aw_iconst (v := 1) d_X3_fillBest_38 ic_1 ?_
    refine aw_iadd d_X3_fillBest_39 ?_
    refine aw_sipush (v := 256) d_X3_fillBest_40 is_256 ?_
    refine aw_imul d_X3_fillBest_43 ?_
    refine aw_iload_n (i := 3) rfl d_X3_fillBest_44 3 rfl ?_
    refine aw_iadd d_X3_fillBest_45 ?_
    obtain ⟨b6, k⟩ := k
    refine aw_iald (ws_88 w) b6 d_X3_fillBest_46 ?_
    refine aw_istore [(0, .ref 19), (1, .int x1), (2, .int x2), (3, .int x3), (4, .int (h_i h 88 ((((x2 + 1) * 256) + x3) : Int32).toNatClampNeg))] d_X3_fillBest_47 (Nat.le_of_ble_eq_true rfl) rfl rfl ?_
    refine aw_iconst (v := 0) d_X3_fillBest_49 ic_0 ?_
    refine aw_istore [(0, .ref 19), (1, .int x1), (2, .int x2), (3, .int x3), (4, .int (h_i h 88 ((((x2 + 1) * 256) + x3) : Int32).toNatClampNeg)), (5, .int 0)] d_X3_fillBest_50 (Nat.le_of_ble_eq_true rfl) rfl rfl ?_
    exact k
theorem t_X3_fillBest_52 (d : Nat) (h : Hp_) (w : Wf h) (x1 : Int32) (x2 : Int32) (x3 : Int32) (x4 : Int32) (x5 : Int32) (K : Hp_ → Prop) (k : ((h_i h 19 3) ≤ x5 → vp_in ((x2 * 256) + x3) 2304 ∧ (AW (m_X3_fillBest (d + 1) 0 0) 0 0 28 [(0, .ref 19), (1, .int x1), (2, .int x2), (3, .int (x3 + 1))] [] (h_im h 88 (((x2 * 256) + x3) : Int32).toNatClampNeg x4) (kV K))) ∧ (¬ (h_i h 19 3) ≤ x5 → Ci (m_X3_canJoin (d + 0) 0 0) [.ref 19, .int x2, .int x5, .int x3] h (fun r11 h9 => Wf h9 ∧ ((r11 = 0 → AW (m_X3_fillBest (d + 1) 0 0) 0 0 52 [(0, .ref 19), (1, .int x1), (2, .int x2), (3, .int x3), (4, .int x4), (5, .int (x5 + 1))] [] h9 (kV K)) ∧ (¬ r11 = 0 → Ci (m_X3_sumWith (d + 0) 0 0) [.ref 19, .int x2, .int x5, .int x3] h9 (fun r15 h13 => Wf h13 ∧ (AW (m_X3_fillBest (d + 1) 0 0) 0 0 52 [(0, .ref 19), (1, .int x1), (2, .int x2), (3, .int x3), (4, .int (if x4 < r15 then r15 else x4)), (5, .int (x5 + 1))] [] h13 (kV K)))))))) : AW (m_X3_fillBest (d + 1) 0 0) 0 0 52 [(0, .ref 19), (1, .int x1), (2, .int x2), (3, .int x3), (4, .int x4), (5, .int x5)] [] h (kV K) := by
  refine aw_iload d_X3_fillBest_52 5 rfl ?_
  refine aw_aload_n (i := 0) rfl d_X3_fillBest_54 0 rfl ?_
  refine aw_geti (k0 := 3) kc_3 (ws_19 w) (Nat.le_of_ble_eq_true rfl) tw_325 d_X3_fillBest_55 rfl ?_
  refine aw_icmp_ge (tgt := 93) d_X3_fillBest_58 rfl (fun c7 => ?_) (fun c7 => ?_)
  · have k := k.1 c7
    refine aw_aload_n (i := 0) rfl d_X3_fillBest_93 0 rfl ?_
    refine aw_getr (k0 := 7) kc_3 (ws_19 w) (Nat.le_of_ble_eq_true rfl) tw_330 d_X3_fillBest_94 rfl (wr_19_7 w) ?_
    refine aw_iload_n (i := 2) rfl d_X3_fillBest_97 2 rfl ?_
    refine aw_sipush (v := 256) d_X3_fillBest_98 is_256 ?_
    refine aw_imul d_X3_fillBest_101 ?_
    refine aw_iload_n (i := 3) rfl d_X3_fillBest_102 3 rfl ?_
    refine aw_iadd d_X3_fillBest_103 ?_
    refine aw_iload d_X3_fillBest_104 4 rfl ?_
    obtain ⟨b8, k⟩ := k
    refine aw_iast (ws_88 w) b8 d_X3_fillBest_106 ?_
    refine aw_iinc (v := (x3 + 1)) [(0, .ref 19), (1, .int x1), (2, .int x2), (3, .int (x3 + 1)), (4, .int x4), (5, .int x5)] d_X3_fillBest_107 3 rfl rfl (Nat.le_of_ble_eq_true rfl) rfl rfl ?_
    refine aw_goto (tgt := 28) d_X3_fillBest_110 rfl ?_
    exact aw_lvp [0, 1, 2, 3] [(0, .ref 19), (1, .int x1), (2, .int x2), (3, .int (x3 + 1))] rfl k
  · have k := k.2 c7
    refine aw_aload_n (i := 0) rfl d_X3_fillBest_61 0 rfl ?_
    refine aw_iload_n (i := 2) rfl d_X3_fillBest_62 2 rfl ?_
    refine aw_iload d_X3_fillBest_63 5 rfl ?_
    refine aw_iload_n (i := 3) rfl d_X3_fillBest_65 3 rfl ?_
    refine aw_Vi 19 [.int x2, .int x5, .int x3] [] d_X3_fillBest_66 (cV_X3_canJoin (d + 0) 0 0) kc_3 (ws_19 w) tw_1355 rfl (rr0 (Nat.le_of_ble_eq_true rfl) (Nat.le_of_ble_eq_true rfl)) (Nat.le_of_ble_eq_true rfl) xs0 k (fun r11 h9 kk => ?_)
    obtain ⟨w10, k⟩ := kk
    refine aw_if_eq (tgt := 87) d_X3_fillBest_69 rfl (fun c12 => ?_) (fun c12 => ?_)
    · have k := k.1 c12
      refine aw_iinc (v := (x5 + 1)) [(0, .ref 19), (1, .int x1), (2, .int x2), (3, .int x3), (4, .int x4), (5, .int (x5 + 1))] d_X3_fillBest_87 5 rfl rfl (Nat.le_of_ble_eq_true rfl) rfl rfl ?_
      refine aw_goto (tgt := 52) d_X3_fillBest_90 rfl ?_
      exact k
    · have k := k.2 c12
      refine aw_iload d_X3_fillBest_72 4 rfl ?_
      refine aw_aload_n (i := 0) rfl d_X3_fillBest_74 0 rfl ?_
      refine aw_iload_n (i := 2) rfl d_X3_fillBest_75 2 rfl ?_
      refine aw_iload d_X3_fillBest_76 5 rfl ?_
      refine aw_iload_n (i := 3) rfl d_X3_fillBest_78 3 rfl ?_
      refine aw_Vi 19 [.int x2, .int x5, .int x3] [.int x4] d_X3_fillBest_79 (cV_X3_sumWith (d + 0) 0 0) kc_3 (ws_19 w10) tw_1359 rfl (rr0 (Nat.le_of_ble_eq_true rfl) (Nat.le_of_ble_eq_true rfl)) (Nat.le_of_ble_eq_true rfl) xs0 k (fun r15 h13 kk => ?_)
      obtain ⟨w14, k⟩ := kk
      refine aw_mmax d_X3_fillBest_82 tw_1363 (show 1 ≤ (d + 1) by omega) (Nat.le_trans (Nat.le_of_ble_eq_true rfl) (show 100 ≤ 100 * (d + 1) by omega)) ⟨Nat.le_refl _, Nat.le_refl _⟩ ?_
      refine aw_istore [(0, .ref 19), (1, .int x1), (2, .int x2), (3, .int x3), (4, .int (if x4 < r15 then r15 else x4)), (5, .int x5)] d_X3_fillBest_85 (Nat.le_of_ble_eq_true rfl) rfl rfl ?_
      refine aw_iinc (v := (x5 + 1)) [(0, .ref 19), (1, .int x1), (2, .int x2), (3, .int x3), (4, .int (if x4 < r15 then r15 else x4)), (5, .int (x5 + 1))] d_X3_fillBest_87 5 rfl rfl (Nat.le_of_ble_eq_true rfl) rfl rfl ?_
      refine aw_goto (tgt := 52) d_X3_fillBest_90 rfl ?_
      exact k
theorem t_X3_solve (d : Nat) (h : Hp_) (w : Wf h)  (K : Hp_ → Prop) (k : ((h_i h 19 5) = 0 → K h) ∧ (¬ (h_i h 19 5) = 0 → Cv (m_X3_fillGains (d + 1) 0 0) [.ref 19] h (fun h2 => Wf h2 ∧ (Cv (m_X3_fillBest (d + 1) 0 0) [.ref 19] h2 (fun h5 => Wf h5 ∧ (Cv (m_X3_fillChoices (d + 2) 0 0) [.ref 19] h5 (fun h8 => Wf h8 ∧ (Cv (m_X3_fillFirst (d + 1) 0 0) [.ref 19] h8 (fun h11 => Wf h11 ∧ (K (h_im h11 19 5 0))))))))))) : Cv (m_X3_solve (d + 3) 0 0) [.ref 19] h K := by
  refine Ct.of (fun _ _ _ => trivial) pn_X3 (Nat.le_of_ble_eq_true rfl) ?_
  show AW (m_X3_solve (d + 3) 0 0) 0 0 0 [(0, .ref 19)] [] h (kV K)
  refine aw_aload_n (i := 0) rfl d_X3_solve_0 0 rfl ?_
  refine aw_geti (k0 := 5) kc_3 (ws_19 w) (Nat.le_of_ble_eq_true rfl) tw_328 d_X3_solve_1 rfl ?_
  refine aw_if_eq (tgt := 28) d_X3_solve_4 rfl (fun c1 => ?_) (fun c1 => ?_)
  · have k := k.1 c1
    exact aw_vret rfl d_X3_solve_28 ⟨Nat.le_refl _, Nat.le_refl _⟩ ⟨rfl, k⟩
  · have k := k.2 c1
    refine aw_aload_n (i := 0) rfl d_X3_solve_7 0 rfl ?_
    refine aw_Vv 19 [] [] d_X3_solve_8 (cV_X3_fillGains (d + 1) 0 0) kc_3 (ws_19 w) tw_1343 rfl (rr0 (Nat.le_of_ble_eq_true rfl) (Nat.le_of_ble_eq_true rfl)) (Nat.le_of_ble_eq_true rfl) xs0 k (fun h2 kk => ?_)
    obtain ⟨w3, k⟩ := kk
    refine aw_aload_n (i := 0) rfl d_X3_solve_11 0 rfl ?_
    refine aw_Vv 19 [] [] d_X3_solve_12 (cV_X3_fillBest (d + 1) 0 0) kc_3 (ws_19 w3) tw_1350 rfl (rr0 (Nat.le_of_ble_eq_true rfl) (Nat.le_of_ble_eq_true rfl)) (Nat.le_of_ble_eq_true rfl) xs0 k (fun h5 kk => ?_)
    obtain ⟨w6, k⟩ := kk
    refine aw_aload_n (i := 0) rfl d_X3_solve_15 0 rfl ?_
    refine aw_Vv 19 [] [] d_X3_solve_16 (cV_X3_fillChoices (d + 2) 0 0) kc_3 (ws_19 w6) tw_1364 rfl (rr0 (Nat.le_of_ble_eq_true rfl) (Nat.le_of_ble_eq_true rfl)) (Nat.le_of_ble_eq_true rfl) xs0 k (fun h8 kk => ?_)
    obtain ⟨w9, k⟩ := kk
    refine aw_aload_n (i := 0) rfl d_X3_solve_19 0 rfl ?_
    refine aw_Vv 19 [] [] d_X3_solve_20 (cV_X3_fillFirst (d + 1) 0 0) kc_3 (ws_19 w9) tw_1372 rfl (rr0 (Nat.le_of_ble_eq_true rfl) (Nat.le_of_ble_eq_true rfl)) (Nat.le_of_ble_eq_true rfl) xs0 k (fun h11 kk => ?_)
    obtain ⟨w12, k⟩ := kk
    refine aw_aload_n (i := 0) rfl d_X3_solve_23 0 rfl ?_
    refine aw_iconst (v := 0) d_X3_solve_24 ic_0 ?_
    refine aw_puti (k0 := 5) kc_3 (ws_19 w12) (Nat.le_of_ble_eq_true rfl) tw_328 d_X3_solve_25 rfl rfl ⟨rfl, rfl⟩ ?_
    exact aw_vret rfl d_X3_solve_28 ⟨Nat.le_refl _, Nat.le_refl _⟩ ⟨rfl, k⟩
theorem t_X3_bestSum (d : Nat) (h : Hp_) (w : Wf h)  (K : Int32 → Hp_ → Prop) (k : Cv (m_X3_solve (d + 3) 0 0) [.ref 19] h (fun h1 => Wf h1 ∧ (vp_in 0 2304 ∧ (K (h_i h1 88 (0 : Int32).toNatClampNeg) h1)))) : Ci (m_X3_bestSum (d + 4) 0 0) [.ref 19] h K := by
  refine Ct.of (fun _ _ _ => trivial) pn_X3 (Nat.le_of_ble_eq_true rfl) ?_
  show AW (m_X3_bestSum (d + 4) 0 0) 0 0 0 [(0, .ref 19)] [] h (kI K)
  refine aw_aload_n (i := 0) rfl d_X3_bestSum_0 0 rfl ?_
  refine aw_Vv 19 [] [] d_X3_bestSum_1 (cV_X3_solve (d + 3) 0 0) kc_3 (ws_19 w) tw_1339 rfl (rr0 (Nat.le_of_ble_eq_true rfl) (Nat.le_of_ble_eq_true rfl)) (Nat.le_of_ble_eq_true rfl) xs0 k (fun h1 kk => ?_)
  obtain ⟨w2, k⟩ := kk
  refine aw_aload_n (i := 0) rfl d_X3_bestSum_4 0 rfl ?_
  refine aw_getr (k0 := 7) kc_3 (ws_19 w2) (Nat.le_of_ble_eq_true rfl) tw_330 d_X3_bestSum_5 rfl (wr_19_7 w2) ?_
  refine aw_iconst (v := 0) d_X3_bestSum_8 ic_0 ?_
  obtain ⟨b4, k⟩ := k
  refine aw_iald (ws_88 w2) b4 d_X3_bestSum_9 ?_
  exact aw_iret rfl d_X3_bestSum_10 ⟨Nat.le_refl _, Nat.le_refl _⟩ ⟨_, rfl, k⟩
theorem t_X11_joining (d : Nat) (h : Hp_) (w : Wf h)  (K : Int32 → Hp_ → Prop) (k : Ci (m_X3_bestSum (d + 4) 0 0) [.ref 19] h (fun r3 h1 => Wf h1 ∧ (K r3 h1))) : Ci (m_X11_joining (d + 5) 0 0) [.ref 0] h K := by
  refine Ct.of (fun _ _ _ => trivial) pn_X11 (Nat.le_of_ble_eq_true rfl) ?_
  show AW (m_X11_joining (d + 5) 0 0) 0 0 0 [(0, .ref 0)] [] h (kI K)
  refine aw_aload_n (i := 0) rfl d_X11_joining_0 0 rfl ?_
  refine aw_getr (k0 := 11) kc_11 (ws_0 w) (Nat.le_of_ble_eq_true rfl) tw_498 d_X11_joining_1 rfl (wr_0_11 w) ?_
  refine aw_Vi 19 [] [] d_X11_joining_4 (cV_X3_bestSum (d + 4) 0 0) kc_3 (ws_19 w) tw_1335 rfl (rr0 (Nat.le_of_ble_eq_true rfl) (Nat.le_of_ble_eq_true rfl)) (Nat.le_of_ble_eq_true rfl) xs0 k (fun r3 h1 kk => ?_)
  obtain ⟨w2, k⟩ := kk
  exact aw_iret rfl d_X11_joining_7 ⟨Nat.le_refl _, Nat.le_refl _⟩ ⟨_, rfl, k⟩
theorem t_X12_like (d : Nat) (h : Hp_) (w : Wf h) (x1 : Int32) (x2 : Int32) (K : Int32 → Hp_ → Prop) (k : vp_in x1 8 ∧ (vp_in x2 8 ∧ (AW (m_X12_like (d + 0) 0 0) 0 0 21 [(3, .int (h_i h 278 x1.toNatClampNeg)), (4, .int (h_i h 279 x2.toNatClampNeg)), (5, .int 0), (6, .int 0)] [] h (kI K)))) : Ci (m_X12_like (d + 0) 0 0) [.ref 1, .int x1, .int x2] h K := by
  refine Ct.of (fun _ _ _ => trivial) pn_X12 (Nat.le_of_ble_eq_true rfl) ?_
  show AW (m_X12_like (d + 0) 0 0) 0 0 0 [(0, .ref 1), (1, .int x1), (2, .int x2)] [] h (kI K)
  refine aw_aload_n (i := 0) rfl d_X12_like_0 0 rfl ?_
  refine aw_getr (k0 := 99) kc_12 (ws_1 w) (Nat.le_of_ble_eq_true rfl) tw_1841 d_X12_like_1 rfl (wr_1_99 w) ?_
  refine aw_iload_n (i := 1) rfl d_X12_like_4 1 rfl ?_
  obtain ⟨b1, k⟩ := k
  refine aw_iald (ws_278 w) b1 d_X12_like_5 ?_
  refine aw_istore_n (i := 3) rfl [(0, .ref 1), (1, .int x1), (2, .int x2), (3, .int (h_i h 278 x1.toNatClampNeg))] d_X12_like_6 (Nat.le_of_ble_eq_true rfl) rfl rfl ?_
  refine aw_aload_n (i := 0) rfl d_X12_like_7 0 rfl ?_
  refine aw_getr (k0 := 100) kc_12 (ws_1 w) (Nat.le_of_ble_eq_true rfl) tw_1842 d_X12_like_8 rfl (wr_1_100 w) ?_
  refine aw_iload_n (i := 2) rfl d_X12_like_11 2 rfl ?_
  obtain ⟨b2, k⟩ := k
  refine aw_iald (ws_279 w) b2 d_X12_like_12 ?_
  refine aw_istore [(0, .ref 1), (1, .int x1), (2, .int x2), (3, .int (h_i h 278 x1.toNatClampNeg)), (4, .int (h_i h 279 x2.toNatClampNeg))] d_X12_like_13 (Nat.le_of_ble_eq_true rfl) rfl rfl ?_
  refine aw_iconst (v := 0) d_X12_like_15 ic_0 ?_
  refine aw_istore [(0, .ref 1), (1, .int x1), (2, .int x2), (3, .int (h_i h 278 x1.toNatClampNeg)), (4, .int (h_i h 279 x2.toNatClampNeg)), (5, .int 0)] d_X12_like_16 (Nat.le_of_ble_eq_true rfl) rfl rfl ?_
  refine aw_iconst (v := 0) d_X12_like_18 ic_0 ?_
  refine aw_istore [(0, .ref 1), (1, .int x1), (2, .int x2), (3, .int (h_i h 278 x1.toNatClampNeg)), (4, .int (h_i h 279 x2.toNatClampNeg)), (5, .int 0), (6, .int 0)] d_X12_like_19 (Nat.le_of_ble_eq_true rfl) rfl rfl ?_
  exact aw_lvp [3, 4, 5, 6] [(3, .int (h_i h 278 x1.toNatClampNeg)), (4, .int (h_i h 279 x2.toNatClampNeg)), (5, .int 0), (6, .int 0)] rfl k
theorem t_X12_like_21 (d : Nat) (h : Hp_) (x3 : Int32) (x4 : Int32) (x5 : Int32) (x6 : Int32) (K : Int32 → Hp_ → Prop) (k : (5 ≤ x6 → K x5 h) ∧ (¬ 5 ≤ x6 → (¬ (x3 - x3 / 10 * 10) = (x4 - x4 / 10 * 10) → AW (m_X12_like (d + 0) 0 0) 0 0 21 [(3, .int (x3 / 10)), (4, .int (x4 / 10)), (5, .int (x5 + 0)), (6, .int (x6 + 1))] [] h (kI K)) ∧ ((x3 - x3 / 10 * 10) = (x4 - x4 / 10 * 10) → AW (m_X12_like (d + 0) 0 0) 0 0 21 [(3, .int (x3 / 10)), (4, .int (x4 / 10)), (5, .int (x5 + 1)), (6, .int (x6 + 1))] [] h (kI K)))) : AW (m_X12_like (d + 0) 0 0) 0 0 21 [(3, .int x3), (4, .int x4), (5, .int x5), (6, .int x6)] [] h (kI K) := by
  refine aw_iload d_X12_like_21 3 rfl ?_
  refine aw_iconst (v := 5) d_X12_like_23 ic_5 ?_
  refine aw_icmp_ge (tgt := 67) d_X12_like_24 rfl (fun c3 => ?_) (fun c3 => ?_)
  · have k := k.1 c3
    refine aw_iload d_X12_like_67 2 rfl ?_
    exact aw_iret rfl d_X12_like_69 ⟨Nat.le_refl _, Nat.le_refl _⟩ ⟨_, rfl, k⟩
  · have k := k.2 c3
    refine aw_iload d_X12_like_27 2 rfl ?_
    refine aw_iload_n (i := 3) rfl d_X12_like_29 0 rfl ?_
    refine aw_bipush (v := 10) d_X12_like_30 ib_10 ?_
    refine aw_irem d_X12_like_32 (by decide) ?_
    refine aw_iload d_X12_like_33 1 rfl ?_
    refine aw_bipush (v := 10) d_X12_like_35 ib_10 ?_
    refine aw_irem d_X12_like_37 (by decide) ?_
    refine aw_icmp_ne (tgt := 45) d_X12_like_38 rfl (fun c4 => ?_) (fun c4 => ?_)
    · have k := k.1 c4
      refine aw_iconst (v := 0) d_X12_like_45 ic_0 ?_
      refine aw_iadd d_X12_like_46 ?_
      refine aw_istore [(3, .int x3), (4, .int x4), (5, .int (x5 + 0)), (6, .int x6)] d_X12_like_47 (Nat.le_of_ble_eq_true rfl) rfl rfl ?_
      refine aw_iload_n (i := 3) rfl d_X12_like_49 0 rfl ?_
      refine aw_bipush (v := 10) d_X12_like_50 ib_10 ?_
      refine aw_idiv d_X12_like_52 (by decide) ?_
      refine aw_istore_n (i := 3) rfl [(3, .int (x3 / 10)), (4, .int x4), (5, .int (x5 + 0)), (6, .int x6)] d_X12_like_53 (Nat.le_of_ble_eq_true rfl) rfl rfl ?_
      refine aw_iload d_X12_like_54 1 rfl ?_
      refine aw_bipush (v := 10) d_X12_like_56 ib_10 ?_
      refine aw_idiv d_X12_like_58 (by decide) ?_
      refine aw_istore [(3, .int (x3 / 10)), (4, .int (x4 / 10)), (5, .int (x5 + 0)), (6, .int x6)] d_X12_like_59 (Nat.le_of_ble_eq_true rfl) rfl rfl ?_
      refine aw_iinc (v := (x6 + 1)) [(3, .int (x3 / 10)), (4, .int (x4 / 10)), (5, .int (x5 + 0)), (6, .int (x6 + 1))] d_X12_like_61 3 rfl rfl (Nat.le_of_ble_eq_true rfl) rfl rfl ?_
      refine aw_goto (tgt := 21) d_X12_like_64 rfl ?_
      exact k
    · have k := k.2 c4
      refine aw_iconst (v := 1) d_X12_like_41 ic_1 ?_
      refine aw_goto (tgt := 46) d_X12_like_42 rfl ?_
      refine aw_iadd d_X12_like_46 ?_
      refine aw_istore [(3, .int x3), (4, .int x4), (5, .int (x5 + 1)), (6, .int x6)] d_X12_like_47 (Nat.le_of_ble_eq_true rfl) rfl rfl ?_
      refine aw_iload_n (i := 3) rfl d_X12_like_49 0 rfl ?_
      refine aw_bipush (v := 10) d_X12_like_50 ib_10 ?_
      refine aw_idiv d_X12_like_52 (by decide) ?_
      refine aw_istore_n (i := 3) rfl [(3, .int (x3 / 10)), (4, .int x4), (5, .int (x5 + 1)), (6, .int x6)] d_X12_like_53 (Nat.le_of_ble_eq_true rfl) rfl rfl ?_
      refine aw_iload d_X12_like_54 1 rfl ?_
      refine aw_bipush (v := 10) d_X12_like_56 ib_10 ?_
      refine aw_idiv d_X12_like_58 (by decide) ?_
      refine aw_istore [(3, .int (x3 / 10)), (4, .int (x4 / 10)), (5, .int (x5 + 1)), (6, .int x6)] d_X12_like_59 (Nat.le_of_ble_eq_true rfl) rfl rfl ?_
      refine aw_iinc (v := (x6 + 1)) [(3, .int (x3 / 10)), (4, .int (x4 / 10)), (5, .int (x5 + 1)), (6, .int (x6 + 1))] d_X12_like_61 3 rfl rfl (Nat.le_of_ble_eq_true rfl) rfl rfl ?_
      refine aw_goto (tgt := 21) d_X12_like_64 rfl ?_
      exact k
theorem t_X12_bestFrom (d : Nat) (h : Hp_) (x1 : Int32) (x2 : Int32) (K : Int32 → Hp_ → Prop) (k : AW (m_X12_bestFrom (d + 1) 0 0) 0 0 2 [(0, .ref 1), (1, .int x1), (2, .int x2), (3, .int 0)] [] h (kI K)) : Ci (m_X12_bestFrom (d + 1) 0 0) [.ref 1, .int x1, .int x2] h K := by
  refine Ct.of (fun _ _ _ => trivial) pn_X12 (Nat.le_of_ble_eq_true rfl) ?_
  show AW (m_X12_bestFrom (d + 1) 0 0) 0 0 0 [(0, .ref 1), (1, .int x1), (2, .int x2)] [] h (kI K)
  refine aw_iconst (v := 0) d_X12_bestFrom_0 ic_0 ?_
  refine aw_istore_n (i := 3) rfl [(0, .ref 1), (1, .int x1), (2, .int x2), (3, .int 0)] d_X12_bestFrom_1 (Nat.le_of_ble_eq_true rfl) rfl rfl ?_
  exact k
theorem t_X12_bestFrom_2 (d : Nat) (h : Hp_) (w : Wf h) (x1 : Int32) (x2 : Int32) (x3 : Int32) (K : Int32 → Hp_ → Prop) (k : (256 ≤ x3 → AW (m_X12_bestFrom (d + 1) 0 0) 0 0 38 [(0, .ref 1), (1, .int x1), (2, .int x2), (3, .int ((h_i h 1 101) - 1))] [] h (kI K)) ∧ (¬ 256 ≤ x3 → vp_in ((256 * (h_i h 1 101)) + x3) 2304 ∧ (AW (m_X12_bestFrom (d + 1) 0 0) 0 0 2 [(0, .ref 1), (1, .int x1), (2, .int x2), (3, .int (x3 + 1))] [] (h_im h 280 (((256 * (h_i h 1 101)) + x3) : Int32).toNatClampNeg 0) (kI K)))) : AW (m_X12_bestFrom (d + 1) 0 0) 0 0 2 [(0, .ref 1), (1, .int x1), (2, .int x2), (3, .int x3)] [] h (kI K) := by
  refine aw_iload_n (i := 3) rfl d_X12_bestFrom_2 3 rfl ?_
  refine aw_sipush (v := 256) d_X12_bestFrom_3 is_256 ?_
  refine aw_icmp_ge (tgt := 31) d_X12_bestFrom_6 rfl (fun c1 => ?_) (fun c1 => ?_)
  · have k := k.1 c1
    refine aw_aload_n (i := 0) rfl d_X12_bestFrom_31 0 rfl ?_
    refine aw_geti (k0 := 101) kc_12 (ws_1 w) (Nat.le_of_ble_eq_true rfl) tw_1843 d_X12_bestFrom_32 rfl ?_
    refine aw_iconst (v := 1) d_X12_bestFrom_35 ic_1 ?_
    refine aw_isub d_X12_bestFrom_36 ?_
    refine aw_istore_n (i := 3) rfl [(0, .ref 1), (1, .int x1), (2, .int x2), (3, .int ((h_i h 1 101) - 1))] d_X12_bestFrom_37 (Nat.le_of_ble_eq_true rfl) rfl rfl ?_
    exact k
  · have k := k.2 c1
    refine aw_aload_n (i := 0) rfl d_X12_bestFrom_9 0 rfl ?_
    refine aw_getr (k0 := 104) kc_12 (ws_1 w) (Nat.le_of_ble_eq_true rfl) tw_1846 d_X12_bestFrom_10 rfl (wr_1_104 w) ?_
    refine aw_sipush (v := 256) d_X12_bestFrom_13 is_256 ?_
    refine aw_aload_n (i := 0) rfl d_X12_bestFrom_16 0 rfl ?_
    refine aw_geti (k0 := 101) kc_12 (ws_1 w) (Nat.le_of_ble_eq_true rfl) tw_1843 d_X12_bestFrom_17 rfl ?_
    refine aw_imul d_X12_bestFrom_20 ?_
    refine aw_iload_n (i := 3) rfl d_X12_bestFrom_21 3 rfl ?_
    refine aw_iadd d_X12_bestFrom_22 ?_
    refine aw_iconst (v := 0) d_X12_bestFrom_23 ic_0 ?_
    obtain ⟨b2, k⟩ := k
    refine aw_iast (ws_280 w) b2 d_X12_bestFrom_24 ?_
    refine aw_iinc (v := (x3 + 1)) [(0, .ref 1), (1, .int x1), (2, .int x2), (3, .int (x3 + 1))] d_X12_bestFrom_25 3 rfl rfl (Nat.le_of_ble_eq_true rfl) rfl rfl ?_
    refine aw_goto (tgt := 2) d_X12_bestFrom_28 rfl ?_
    exact k
theorem t_X12_bestFrom_38 (d : Nat) (h : Hp_) (w : Wf h) (x1 : Int32) (x2 : Int32) (x3 : Int32) (K : Int32 → Hp_ → Prop) (k : (x3 < 0 → vp_in 0 2304 ∧ (K (h_i h 280 (0 : Int32).toNatClampNeg) h)) ∧ (¬ x3 < 0 → AW (m_X12_bestFrom (d + 1) 0 0) 0 0 45 [(0, .ref 1), (1, .int x1), (2, .int x2), (3, .int x3), (4, .int 0)] [] h (kI K))) : AW (m_X12_bestFrom (d + 1) 0 0) 0 0 38 [(0, .ref 1), (1, .int x1), (2, .int x2), (3, .int x3)] [] h (kI K) := by
  refine aw_iload_n (i := 3) rfl d_X12_bestFrom_38 3 rfl ?_
  refine aw_if_lt (tgt := 201) d_X12_bestFrom_39 rfl (fun c3 => ?_) (fun c3 => ?_)
  · have k := k.1 c3
    refine aw_aload_n (i := 0) rfl d_X12_bestFrom_201 0 rfl ?_
    refine aw_getr (k0 := 104) kc_12 (ws_1 w) (Nat.le_of_ble_eq_true rfl) tw_1846 d_X12_bestFrom_202 rfl (wr_1_104 w) ?_
    refine aw_iconst (v := 0) d_X12_bestFrom_205 ic_0 ?_
    obtain ⟨b4, k⟩ := k
    refine aw_iald (ws_280 w) b4 d_X12_bestFrom_206 ?_
    exact aw_iret rfl d_X12_bestFrom_207 ⟨Nat.le_refl _, Nat.le_refl _⟩ ⟨_, rfl, k⟩
  · have k := k.2 c3
    refine aw_iconst (v := 0) d_X12_bestFrom_42 ic_0 ?_
    refine aw_istore [(0, .ref 1), (1, .int x1), (2, .int x2), (3, .int x3), (4, .int 0)] d_X12_bestFrom_43 (Nat.le_of_ble_eq_true rfl) rfl rfl ?_
    exact k
theorem t_X12_bestFrom_45 (d : Nat) (h : Hp_) (w : Wf h) (x1 : Int32) (x2 : Int32) (x3 : Int32) (x4 : Int32) (K : Int32 → Hp_ → Prop) (k : (256 ≤ x4 → AW (m_X12_bestFrom (d + 1) 0 0) 0 0 38 [(0, .ref 1), (1, .int x1), (2, .int x2), (3, .int (x3 + (-1)))] [] h (kI K)) ∧ (¬ 256 ≤ x4 → (¬ x3 = x1 → vp_in ((256 * (x3 + 1)) + x4) 2304 ∧ (AW (m_X12_bestFrom (d + 1) 0 0) 0 0 89 [(0, .ref 1), (1, .int x1), (2, .int x2), (3, .int x3), (4, .int x4), (5, .int (h_i h 280 (((256 * (x3 + 1)) + x4) : Int32).toNatClampNeg)), (6, .int 0)] [] h (kI K))) ∧ (x3 = x1 → (¬ x2 = (-1) → AW (m_X12_bestFrom (d + 1) 0 0) 0 0 89 [(0, .ref 1), (1, .int x1), (2, .int x2), (3, .int x3), (4, .int x4), (5, .int (-1000)), (6, .int 0)] [] h (kI K)) ∧ (x2 = (-1) → vp_in ((256 * (x3 + 1)) + x4) 2304 ∧ (AW (m_X12_bestFrom (d + 1) 0 0) 0 0 89 [(0, .ref 1), (1, .int x1), (2, .int x2), (3, .int x3), (4, .int x4), (5, .int (h_i h 280 (((256 * (x3 + 1)) + x4) : Int32).toNatClampNeg)), (6, .int 0)] [] h (kI K)))))) : AW (m_X12_bestFrom (d + 1) 0 0) 0 0 45 [(0, .ref 1), (1, .int x1), (2, .int x2), (3, .int x3), (4, .int x4)] [] h (kI K) := by
  refine aw_iload d_X12_bestFrom_45 4 rfl ?_
  refine aw_sipush (v := 256) d_X12_bestFrom_47 is_256 ?_
  refine aw_icmp_ge (tgt := 195) d_X12_bestFrom_50 rfl (fun c5 => ?_) (fun c5 => ?_)
  · have k := k.1 c5
    refine aw_iinc (v := (x3 + (-1))) [(0, .ref 1), (1, .int x1), (2, .int x2), (3, .int (x3 + (-1))), (4, .int x4)] d_X12_bestFrom_195 3 rfl rfl (Nat.le_of_ble_eq_true rfl) rfl rfl ?_
    refine aw_goto (tgt := 38) d_X12_bestFrom_198 rfl ?_
    exact aw_lvp [0, 1, 2, 3] [(0, .ref 1), (1, .int x1), (2, .int x2), (3, .int (x3 + (-1)))] rfl k
  · have k := k.2 c5
    refine aw_iload_n (i := 3) rfl d_X12_bestFrom_53 3 rfl ?_
    refine aw_iload_n (i := 1) rfl d_X12_bestFrom_54 1 rfl ?_
    refine aw_icmp_ne (tgt := 63) d_X12_bestFrom_55 rfl (fun c6 => ?_) (fun c6 => ?_)
    · have k := k.1 c6
      refine aw_aload_n (i := 0) rfl d_X12_bestFrom_63 0 rfl ?_
      refine aw_getr (k0 := 104) kc_12 (ws_1 w) (Nat.le_of_ble_eq_true rfl) tw_1846 d_X12_bestFrom_64 rfl (wr_1_104 w) ?_
      refine aw_sipush (v := 256) d_X12_bestFrom_67 is_256 ?_
      refine aw_iload_n (i := 3) rfl d_X12_bestFrom_70 3 rfl ?_
      refine aw_iconst (v := 1) d_X12_bestFrom_71 ic_1 ?_
      refine aw_iadd d_X12_bestFrom_72 ?_
      refine aw_imul d_X12_bestFrom_73 ?_
      refine aw_iload d_X12_bestFrom_74 4 rfl ?_
      refine aw_iadd d_X12_bestFrom_76 ?_
      obtain ⟨b7, k⟩ := k
      refine aw_iald (ws_280 w) b7 d_X12_bestFrom_77 ?_
      refine aw_goto (tgt := 84) d_X12_bestFrom_78 rfl ?_
      refine aw_istore [(0, .ref 1), (1, .int x1), (2, .int x2), (3, .int x3), (4, .int x4), (5, .int (h_i h 280 (((256 * (x3 + 1)) + x4) : Int32).toNatClampNeg))] d_X12_bestFrom_84 (Nat.le_of_ble_eq_true rfl) rfl rfl ?_
      refine aw_iconst (v := 0) d_X12_bestFrom_86 ic_0 ?_
      refine aw_istore [(0, .ref 1), (1, .int x1), (2, .int x2), (3, .int x3), (4, .int x4), (5, .int (h_i h 280 (((256 * (x3 + 1)) + x4) : Int32).toNatClampNeg)), (6, .int 0)] d_X12_bestFrom_87 (Nat.le_of_ble_eq_true rfl) rfl rfl ?_
      exact k
    · have k := k.2 c6
      refine aw_iload_n (i := 2) rfl d_X12_bestFrom_58 2 rfl ?_
      refine aw_iconst (v := (-1)) d_X12_bestFrom_59 ic_m1 ?_
      refine aw_icmp_ne (tgt := 81) d_X12_bestFrom_60 rfl (fun c8 => ?_) (fun c8 => ?_)
      · have k := k.1 c8
        refine aw_sipush (v := (-1000)) d_X12_bestFrom_81 is_m1000 ?_
        refine aw_istore [(0, .ref 1), (1, .int x1), (2, .int x2), (3, .int x3), (4, .int x4), (5, .int (-1000))] d_X12_bestFrom_84 (Nat.le_of_ble_eq_true rfl) rfl rfl ?_
        refine aw_iconst (v := 0) d_X12_bestFrom_86 ic_0 ?_
        refine aw_istore [(0, .ref 1), (1, .int x1), (2, .int x2), (3, .int x3), (4, .int x4), (5, .int (-1000)), (6, .int 0)] d_X12_bestFrom_87 (Nat.le_of_ble_eq_true rfl) rfl rfl ?_
        exact k
      · have k := k.2 c8
        refine aw_aload_n (i := 0) rfl d_X12_bestFrom_63 0 rfl ?_
        refine aw_getr (k0 := 104) kc_12 (ws_1 w) (Nat.le_of_ble_eq_true rfl) tw_1846 d_X12_bestFrom_64 rfl (wr_1_104 w) ?_
        refine aw_sipush (v := 256) d_X12_bestFrom_67 is_256 ?_
        refine aw_iload_n (i := 3) rfl d_X12_bestFrom_70 3 rfl ?_
        refine aw_iconst (v := 1) d_X12_bestFrom_71 ic_1 ?_
        refine aw_iadd d_X12_bestFrom_72 ?_
        refine aw_imul d_X12_bestFrom_73 ?_
        refine aw_iload d_X12_bestFrom_74 4 rfl ?_
        refine aw_iadd d_X12_bestFrom_76 ?_
        obtain ⟨b9, k⟩ := k
        refine aw_iald (ws_280 w) b9 d_X12_bestFrom_77 ?_
        refine aw_goto (tgt := 84) d_X12_bestFrom_78 rfl ?_
        refine aw_istore [(0, .ref 1), (1, .int x1), (2, .int x2), (3, .int x3), (4, .int x4), (5, .int (h_i h 280 (((256 * (x3 + 1)) + x4) : Int32).toNatClampNeg))] d_X12_bestFrom_84 (Nat.le_of_ble_eq_true rfl) rfl rfl ?_
        refine aw_iconst (v := 0) d_X12_bestFrom_86 ic_0 ?_
        refine aw_istore [(0, .ref 1), (1, .int x1), (2, .int x2), (3, .int x3), (4, .int x4), (5, .int (h_i h 280 (((256 * (x3 + 1)) + x4) : Int32).toNatClampNeg)), (6, .int 0)] d_X12_bestFrom_87 (Nat.le_of_ble_eq_true rfl) rfl rfl ?_
        exact k
theorem t_X12_bestFrom_89 (d : Nat) (h : Hp_) (w : Wf h) (x1 : Int32) (x2 : Int32) (x3 : Int32) (x4 : Int32) (x5 : Int32) (x6 : Int32) (K : Int32 → Hp_ → Prop) (k : ((h_i h 1 102) ≤ x6 → vp_in ((256 * x3) + x4) 2304 ∧ (AW (m_X12_bestFrom (d + 1) 0 0) 0 0 45 [(0, .ref 1), (1, .int x1), (2, .int x2), (3, .int x3), (4, .int (x4 + 1))] [] (h_im h 280 (((256 * x3) + x4) : Int32).toNatClampNeg x5) (kI K))) ∧ (¬ (h_i h 1 102) ≤ x6 → (¬ ((x4 >>> (x6 &&& 31)) &&& 1) = 0 → AW (m_X12_bestFrom (d + 1) 0 0) 0 0 89 [(0, .ref 1), (1, .int x1), (2, .int x2), (3, .int x3), (4, .int x4), (5, .int x5), (6, .int (x6 + 1))] [] h (kI K)) ∧ (((x4 >>> (x6 &&& 31)) &&& 1) = 0 → Ci (m_X12_like (d + 0) 0 0) [.ref 1, .int x3, .int x6] h (fun r15 h13 => Wf h13 ∧ ((r15 < (h_i h13 1 103) → AW (m_X12_bestFrom (d + 1) 0 0) 0 0 89 [(0, .ref 1), (1, .int x1), (2, .int x2), (3, .int x3), (4, .int x4), (5, .int x5), (6, .int (x6 + 1))] [] h13 (kI K)) ∧ (¬ r15 < (h_i h13 1 103) → (¬ x3 = x1 → Ci (m_X12_like (d + 0) 0 0) [.ref 1, .int x3, .int x6] h13 (fun r20 h18 => Wf h18 ∧ (vp_in ((256 * (x3 + 1)) + (x4 ||| ((1 : Int32) <<< (x6 &&& 31)))) 2304 ∧ (AW (m_X12_bestFrom (d + 1) 0 0) 0 0 89 [(0, .ref 1), (1, .int x1), (2, .int x2), (3, .int x3), (4, .int x4), (5, .int (if x5 < (r20 + (h_i h18 280 (((256 * (x3 + 1)) + (x4 ||| ((1 : Int32) <<< (x6 &&& 31)))) : Int32).toNatClampNeg)) then (r20 + (h_i h18 280 (((256 * (x3 + 1)) + (x4 ||| ((1 : Int32) <<< (x6 &&& 31)))) : Int32).toNatClampNeg)) else x5)), (6, .int (x6 + 1))] [] h18 (kI K))))) ∧ (x3 = x1 → (¬ x2 = x6 → AW (m_X12_bestFrom (d + 1) 0 0) 0 0 89 [(0, .ref 1), (1, .int x1), (2, .int x2), (3, .int x3), (4, .int x4), (5, .int x5), (6, .int (x6 + 1))] [] h13 (kI K)) ∧ (x2 = x6 → Ci (m_X12_like (d + 0) 0 0) [.ref 1, .int x3, .int x6] h13 (fun r25 h23 => Wf h23 ∧ (vp_in ((256 * (x3 + 1)) + (x4 ||| ((1 : Int32) <<< (x6 &&& 31)))) 2304 ∧ (AW (m_X12_bestFrom (d + 1) 0 0) 0 0 89 [(0, .ref 1), (1, .int x1), (2, .int x2), (3, .int x3), (4, .int x4), (5, .int (if x5 < (r25 + (h_i h23 280 (((256 * (x3 + 1)) + (x4 ||| ((1 : Int32) <<< (x6 &&& 31)))) : Int32).toNatClampNeg)) then (r25 + (h_i h23 280 (((256 * (x3 + 1)) + (x4 ||| ((1 : Int32) <<< (x6 &&& 31)))) : Int32).toNatClampNeg)) else x5)), (6, .int (x6 + 1))] [] h23 (kI K)))))))))))) : AW (m_X12_bestFrom (d + 1) 0 0) 0 0 89 [(0, .ref 1), (1, .int x1), (2, .int x2), (3, .int x3), (4, .int x4), (5, .int x5), (6, .int x6)] [] h (kI K) := by
  refine aw_iload d_X12_bestFrom_89 6 rfl ?_
  refine aw_aload_n (i := 0) rfl d_X12_bestFrom_91 0 rfl ?_
  refine aw_geti (k0 := 102) kc_12 (ws_1 w) (Nat.le_of_ble_eq_true rfl) tw_1844 d_X12_bestFrom_92 rfl ?_
  refine aw_icmp_ge (tgt := 174) d_X12_bestFrom_95 rfl (fun c10 => ?_) (fun c10 => ?_)
  · have k := k.1 c10
    refine aw_aload_n (i := 0) rfl d_X12_bestFrom_174 0 rfl ?_
    refine aw_getr (k0 := 104) kc_12 (ws_1 w) (Nat.le_of_ble_eq_true rfl) tw_1846 d_X12_bestFrom_175 rfl (wr_1_104 w) ?_
    refine aw_sipush (v := 256) d_X12_bestFrom_178 is_256 ?_
    refine aw_iload_n (i := 3) rfl d_X12_bestFrom_181 3 rfl ?_
    refine aw_imul d_X12_bestFrom_182 ?_
    refine aw_iload d_X12_bestFrom_183 4 rfl ?_
    refine aw_iadd d_X12_bestFrom_185 ?_
    refine aw_iload d_X12_bestFrom_186 5 rfl ?_
    obtain ⟨b11, k⟩ := k
    refine aw_iast (ws_280 w) b11 d_X12_bestFrom_188 ?_
    refine aw_iinc (v := (x4 + 1)) [(0, .ref 1), (1, .int x1), (2, .int x2), (3, .int x3), (4, .int (x4 + 1)), (5, .int x5), (6, .int x6)] d_X12_bestFrom_189 4 rfl rfl (Nat.le_of_ble_eq_true rfl) rfl rfl ?_
    refine aw_goto (tgt := 45) d_X12_bestFrom_192 rfl ?_
    exact aw_lvp [0, 1, 2, 3, 4] [(0, .ref 1), (1, .int x1), (2, .int x2), (3, .int x3), (4, .int (x4 + 1))] rfl k
  · have k := k.2 c10
    refine aw_iload d_X12_bestFrom_98 4 rfl ?_
    refine aw_iload d_X12_bestFrom_100 6 rfl ?_
    refine aw_ishr d_X12_bestFrom_102 ?_
    refine aw_iconst (v := 1) d_X12_bestFrom_103 ic_1 ?_
    refine aw_iand d_X12_bestFrom_104 ?_
    refine aw_if_ne (tgt := 168) d_X12_bestFrom_105 rfl (fun c12 => ?_) (fun c12 => ?_)
    · have k := k.1 c12
      refine aw_iinc (v := (x6 + 1)) [(0, .ref 1), (1, .int x1), (2, .int x2), (3, .int x3), (4, .int x4), (5, .int x5), (6, .int (x6 + 1))] d_X12_bestFrom_168 6 rfl rfl (Nat.le_of_ble_eq_true rfl) rfl rfl ?_
      refine aw_goto (tgt := 89) d_X12_bestFrom_171 rfl ?_
      exact k
    · have k := k.2 c12
      refine aw_aload_n (i := 0) rfl d_X12_bestFrom_108 0 rfl ?_
      refine aw_iload_n (i := 3) rfl d_X12_bestFrom_109 3 rfl ?_
      refine aw_iload d_X12_bestFrom_110 6 rfl ?_
      refine aw_Vi 1 [.int x3, .int x6] [] d_X12_bestFrom_112 (cV_X12_like (d + 0) 0 0) kc_12 (ws_1 w) tw_2570 rfl (rr0 (Nat.le_of_ble_eq_true rfl) (Nat.le_of_ble_eq_true rfl)) (Nat.le_of_ble_eq_true rfl) xs0 k (fun r15 h13 kk => ?_)
      obtain ⟨w14, k⟩ := kk
      refine aw_aload_n (i := 0) rfl d_X12_bestFrom_115 0 rfl ?_
      refine aw_geti (k0 := 103) kc_12 (ws_1 w14) (Nat.le_of_ble_eq_true rfl) tw_1845 d_X12_bestFrom_116 rfl ?_
      refine aw_icmp_lt (tgt := 168) d_X12_bestFrom_119 rfl (fun c16 => ?_) (fun c16 => ?_)
      · have k := k.1 c16
        refine aw_iinc (v := (x6 + 1)) [(0, .ref 1), (1, .int x1), (2, .int x2), (3, .int x3), (4, .int x4), (5, .int x5), (6, .int (x6 + 1))] d_X12_bestFrom_168 6 rfl rfl (Nat.le_of_ble_eq_true rfl) rfl rfl ?_
        refine aw_goto (tgt := 89) d_X12_bestFrom_171 rfl ?_
        exact k
      · have k := k.2 c16
        refine aw_iload_n (i := 3) rfl d_X12_bestFrom_122 3 rfl ?_
        refine aw_iload_n (i := 1) rfl d_X12_bestFrom_123 1 rfl ?_
        refine aw_icmp_ne (tgt := 133) d_X12_bestFrom_124 rfl (fun c17 => ?_) (fun c17 => ?_)
        · have k := k.1 c17
          refine aw_iload d_X12_bestFrom_133 5 rfl ?_
          refine aw_aload_n (i := 0) rfl d_X12_bestFrom_135 0 rfl ?_
          refine aw_iload_n (i := 3) rfl d_X12_bestFrom_136 3 rfl ?_
          refine aw_iload d_X12_bestFrom_137 6 rfl ?_
          refine aw_Vi 1 [.int x3, .int x6] [.int x5] d_X12_bestFrom_139 (cV_X12_like (d + 0) 0 0) kc_12 (ws_1 w14) tw_2570 rfl (rr0 (Nat.le_of_ble_eq_true rfl) (Nat.le_of_ble_eq_true rfl)) (Nat.le_of_ble_eq_true rfl) xs0 k (fun r20 h18 kk => ?_)
          obtain ⟨w19, k⟩ := kk
          refine aw_aload_n (i := 0) rfl d_X12_bestFrom_142 0 rfl ?_
          refine aw_getr (k0 := 104) kc_12 (ws_1 w19) (Nat.le_of_ble_eq_true rfl) tw_1846 d_X12_bestFrom_143 rfl (wr_1_104 w19) ?_
          refine aw_sipush (v := 256) d_X12_bestFrom_146 is_256 ?_
          refine aw_iload_n (i := 3) rfl d_X12_bestFrom_149 3 rfl ?_
          refine aw_iconst (v := 1) d_X12_bestFrom_150 ic_1 ?_
          refine aw_iadd d_X12_bestFrom_151 ?_
          refine aw_imul d_X12_bestFrom_152 ?_
          refine aw_iload d_X12_bestFrom_153 4 rfl ?_
          refine aw_iconst (v := 1) d_X12_bestFrom_155 ic_1 ?_
          refine aw_iload d_X12_bestFrom_156 6 rfl ?_
          refine aw_ishl d_X12_bestFrom_158 ?_
          refine aw_ior d_X12_bestFrom_159 ?_
          refine aw_iadd d_X12_bestFrom_160 ?_
          obtain ⟨b21, k⟩ := k
          refine aw_iald (ws_280 w19) b21 d_X12_bestFrom_161 ?_
          refine aw_iadd d_X12_bestFrom_162 ?_
          refine aw_mmax d_X12_bestFrom_163 tw_2470 (show 1 ≤ (d + 1) by omega) (Nat.le_trans (Nat.le_of_ble_eq_true rfl) (show 100 ≤ 100 * (d + 1) by omega)) ⟨Nat.le_refl _, Nat.le_refl _⟩ ?_
          refine aw_istore [(0, .ref 1), (1, .int x1), (2, .int x2), (3, .int x3), (4, .int x4), (5, .int (if x5 < (r20 + (h_i h18 280 (((256 * (x3 + 1)) + (x4 ||| ((1 : Int32) <<< (x6 &&& 31)))) : Int32).toNatClampNeg)) then (r20 + (h_i h18 280 (((256 * (x3 + 1)) + (x4 ||| ((1 : Int32) <<< (x6 &&& 31)))) : Int32).toNatClampNeg)) else x5)), (6, .int x6)] d_X12_bestFrom_166 (Nat.le_of_ble_eq_true rfl) rfl rfl ?_
          refine aw_iinc (v := (x6 + 1)) [(0, .ref 1), (1, .int x1), (2, .int x2), (3, .int x3), (4, .int x4), (5, .int (if x5 < (r20 + (h_i h18 280 (((256 * (x3 + 1)) + (x4 ||| ((1 : Int32) <<< (x6 &&& 31)))) : Int32).toNatClampNeg)) then (r20 + (h_i h18 280 (((256 * (x3 + 1)) + (x4 ||| ((1 : Int32) <<< (x6 &&& 31)))) : Int32).toNatClampNeg)) else x5)), (6, .int (x6 + 1))] d_X12_bestFrom_168 6 rfl rfl (Nat.le_of_ble_eq_true rfl) rfl rfl ?_
          refine aw_goto (tgt := 89) d_X12_bestFrom_171 rfl ?_
          exact k
        · have k := k.2 c17
          refine aw_iload_n (i := 2) rfl d_X12_bestFrom_127 2 rfl ?_
          refine aw_iload d_X12_bestFrom_128 6 rfl ?_
          refine aw_icmp_ne (tgt := 168) d_X12_bestFrom_130 rfl (fun c22 => ?_) (fun c22 => ?_)
          · have k := k.1 c22
            refine aw_iinc (v := (x6 + 1)) [(0, .ref 1), (1, .int x1), (2, .int x2), (3, .int x3), (4, .int x4), (5, .int x5), (6, .int (x6 + 1))] d_X12_bestFrom_168 6 rfl rfl (Nat.le_of_ble_eq_true rfl) rfl rfl ?_
            refine aw_goto (tgt := 89) d_X12_bestFrom_171 rfl ?_
            exact k
          · have k := k.2 c22
            refine aw_iload d_X12_bestFrom_133 5 rfl ?_
            refine aw_aload_n (i := 0) rfl d_X12_bestFrom_135 0 rfl ?_
            refine aw_iload_n (i := 3) rfl d_X12_bestFrom_136 3 rfl ?_
            refine aw_iload d_X12_bestFrom_137 6 rfl ?_
            refine aw_Vi 1 [.int x3, .int x6] [.int x5] d_X12_bestFrom_139 (cV_X12_like (d + 0) 0 0) kc_12 (ws_1 w14) tw_2570 rfl (rr0 (Nat.le_of_ble_eq_true rfl) (Nat.le_of_ble_eq_true rfl)) (Nat.le_of_ble_eq_true rfl) xs0 k (fun r25 h23 kk => ?_)
            obtain ⟨w24, k⟩ := kk
            refine aw_aload_n (i := 0) rfl d_X12_bestFrom_142 0 rfl ?_
            refine aw_getr (k0 := 104) kc_12 (ws_1 w24) (Nat.le_of_ble_eq_true rfl) tw_1846 d_X12_bestFrom_143 rfl (wr_1_104 w24) ?_
            refine aw_sipush (v := 256) d_X12_bestFrom_146 is_256 ?_
            refine aw_iload_n (i := 3) rfl d_X12_bestFrom_149 3 rfl ?_
            refine aw_iconst (v := 1) d_X12_bestFrom_150 ic_1 ?_
            refine aw_iadd d_X12_bestFrom_151 ?_
            refine aw_imul d_X12_bestFrom_152 ?_
            refine aw_iload d_X12_bestFrom_153 4 rfl ?_
            refine aw_iconst (v := 1) d_X12_bestFrom_155 ic_1 ?_
            refine aw_iload d_X12_bestFrom_156 6 rfl ?_
            refine aw_ishl d_X12_bestFrom_158 ?_
            refine aw_ior d_X12_bestFrom_159 ?_
            refine aw_iadd d_X12_bestFrom_160 ?_
            obtain ⟨b26, k⟩ := k
            refine aw_iald (ws_280 w24) b26 d_X12_bestFrom_161 ?_
            refine aw_iadd d_X12_bestFrom_162 ?_
            refine aw_mmax d_X12_bestFrom_163 tw_2470 (show 1 ≤ (d + 1) by omega) (Nat.le_trans (Nat.le_of_ble_eq_true rfl) (show 100 ≤ 100 * (d + 1) by omega)) ⟨Nat.le_refl _, Nat.le_refl _⟩ ?_
            refine aw_istore [(0, .ref 1), (1, .int x1), (2, .int x2), (3, .int x3), (4, .int x4), (5, .int (if x5 < (r25 + (h_i h23 280 (((256 * (x3 + 1)) + (x4 ||| ((1 : Int32) <<< (x6 &&& 31)))) : Int32).toNatClampNeg)) then (r25 + (h_i h23 280 (((256 * (x3 + 1)) + (x4 ||| ((1 : Int32) <<< (x6 &&& 31)))) : Int32).toNatClampNeg)) else x5)), (6, .int x6)] d_X12_bestFrom_166 (Nat.le_of_ble_eq_true rfl) rfl rfl ?_
            refine aw_iinc (v := (x6 + 1)) [(0, .ref 1), (1, .int x1), (2, .int x2), (3, .int x3), (4, .int x4), (5, .int (if x5 < (r25 + (h_i h23 280 (((256 * (x3 + 1)) + (x4 ||| ((1 : Int32) <<< (x6 &&& 31)))) : Int32).toNatClampNeg)) then (r25 + (h_i h23 280 (((256 * (x3 + 1)) + (x4 ||| ((1 : Int32) <<< (x6 &&& 31)))) : Int32).toNatClampNeg)) else x5)), (6, .int (x6 + 1))] d_X12_bestFrom_168 6 rfl rfl (Nat.le_of_ble_eq_true rfl) rfl rfl ?_
            refine aw_goto (tgt := 89) d_X12_bestFrom_171 rfl ?_
            exact k
theorem t_X12_joining (d : Nat) (h : Hp_) (w : Wf h)  (K : Int32 → Hp_ → Prop) (k : Ci (m_X12_bestFrom (d + 1) 0 0) [.ref 1, .int (-1), .int (-1)] h (fun r3 h1 => Wf h1 ∧ (K r3 h1))) : Ci (m_X12_joining (d + 2) 0 0) [.ref 1] h K := by
  refine Ct.of (fun _ _ _ => trivial) pn_X12 (Nat.le_of_ble_eq_true rfl) ?_
  show AW (m_X12_joining (d + 2) 0 0) 0 0 0 [(0, .ref 1)] [] h (kI K)
  refine aw_aload_n (i := 0) rfl d_X12_joining_0 0 rfl ?_
  refine aw_iconst (v := (-1)) d_X12_joining_1 ic_m1 ?_
  refine aw_iconst (v := (-1)) d_X12_joining_2 ic_m1 ?_
  refine aw_Vi 1 [.int (-1), .int (-1)] [] d_X12_joining_3 (cV_X12_bestFrom (d + 1) 0 0) kc_12 (ws_1 w) tw_2566 rfl (rr0 (Nat.le_of_ble_eq_true rfl) (Nat.le_of_ble_eq_true rfl)) (Nat.le_of_ble_eq_true rfl) xs0 k (fun r3 h1 kk => ?_)
  obtain ⟨w2, k⟩ := kk
  exact aw_iret rfl d_X12_joining_6 ⟨Nat.le_refl _, Nat.le_refl _⟩ ⟨_, rfl, k⟩
theorem t_X3_add (d : Nat) (h : Hp_) (w : Wf h) (x1 : Int32) (x2 : Int32) (K : Int32 → Hp_ → Prop) (k : (x1 = 0 → ((h_i h 19 3) < 8 → (x1 = 0 → vp_in (h_i h 19 3) 8 ∧ (K (h_i h 19 3) (h_im (h_im (h_im h 19 5 1) 86 ((h_i h 19 3) : Int32).toNatClampNeg x2) 19 3 ((h_i h 19 3) + 1)))) ∧ (¬ x1 = 0 → vp_in (h_i h 19 3) 8 ∧ (K (h_i h 19 3) (h_im (h_im (h_im h 19 5 1) 85 ((h_i h 19 3) : Int32).toNatClampNeg x2) 19 2 ((h_i h 19 2) + 1))))) ∧ (¬ (h_i h 19 3) < 8 → K (-1) h)) ∧ (¬ x1 = 0 → ((h_i h 19 2) < 8 → (x1 = 0 → vp_in (h_i h 19 2) 8 ∧ (K (h_i h 19 2) (h_im (h_im (h_im h 19 5 1) 86 ((h_i h 19 2) : Int32).toNatClampNeg x2) 19 3 ((h_i h 19 3) + 1)))) ∧ (¬ x1 = 0 → vp_in (h_i h 19 2) 8 ∧ (K (h_i h 19 2) (h_im (h_im (h_im h 19 5 1) 85 ((h_i h 19 2) : Int32).toNatClampNeg x2) 19 2 ((h_i h 19 2) + 1))))) ∧ (¬ (h_i h 19 2) < 8 → K (-1) h))) : Ci (m_X3_add (d + 0) 0 0) [.ref 19, .int x1, .int x2] h K := by
  refine Ct.of (fun _ _ _ => trivial) pn_X3 (Nat.le_of_ble_eq_true rfl) ?_
  show AW (m_X3_add (d + 0) 0 0) 0 0 0 [(0, .ref 19), (1, .int x1), (2, .int x2)] [] h (kI K)
  refine aw_iload_n (i := 1) rfl d_X3_add_0 1 rfl ?_
  refine aw_if_eq (tgt := 11) d_X3_add_1 rfl (fun c1 => ?_) (fun c1 => ?_)
  · have k := k.1 c1
    refine aw_aload_n (i := 0) rfl d_X3_add_11 0 rfl ?_
    refine aw_geti (k0 := 3) kc_3 (ws_19 w) (Nat.le_of_ble_eq_true rfl) tw_325 d_X3_add_12 rfl ?_
    refine aw_istore_n (i := 3) rfl [(0, .ref 19), (1, .int x1), (2, .int x2), (3, .int (h_i h 19 3))] d_X3_add_15 (Nat.le_of_ble_eq_true rfl) rfl rfl ?_
    refine aw_iload_n (i := 3) rfl d_X3_add_16 3 rfl ?_
    refine aw_bipush (v := 8) d_X3_add_17 ib_8 ?_
    refine aw_icmp_lt (tgt := 24) d_X3_add_19 rfl (fun c2 => ?_) (fun c2 => ?_)
    · have k := k.1 c2
      refine aw_aload_n (i := 0) rfl d_X3_add_24 0 rfl ?_
      refine aw_iconst (v := 1) d_X3_add_25 ic_1 ?_
      refine aw_puti (k0 := 5) kc_3 (ws_19 w) (Nat.le_of_ble_eq_true rfl) tw_328 d_X3_add_26 rfl rfl ⟨rfl, rfl⟩ ?_
      refine aw_iload_n (i := 1) rfl d_X3_add_29 1 rfl ?_
      refine aw_if_eq (tgt := 53) d_X3_add_30 rfl (fun c3 => ?_) (fun c3 => ?_)
      · have k := k.1 c3
        refine aw_aload_n (i := 0) rfl d_X3_add_53 0 rfl ?_
        refine aw_getr (k0 := 1) kc_3 (ws_19 w) (Nat.le_of_ble_eq_true rfl) tw_322 d_X3_add_54 rfl (wr_19_1 w) ?_
        refine aw_iload_n (i := 3) rfl d_X3_add_57 3 rfl ?_
        refine aw_iload_n (i := 2) rfl d_X3_add_58 2 rfl ?_
        obtain ⟨b4, k⟩ := k
        refine aw_iast (ws_86 w) b4 d_X3_add_59 ?_
        refine aw_aload_n (i := 0) rfl d_X3_add_60 0 rfl ?_
        refine aw_dup d_X3_add_61 rfl ?_
        refine aw_geti (k0 := 3) kc_3 (ws_19 w) (Nat.le_of_ble_eq_true rfl) tw_325 d_X3_add_62 rfl ?_
        refine aw_vi (v2 := (h_i h 19 3)) (rfl) ?_
        refine aw_iconst (v := 1) d_X3_add_65 ic_1 ?_
        refine aw_iadd d_X3_add_66 ?_
        refine aw_puti (k0 := 3) kc_3 (ws_19 w) (Nat.le_of_ble_eq_true rfl) tw_325 d_X3_add_67 rfl rfl nf_i ?_
        refine aw_iload_n (i := 3) rfl d_X3_add_70 3 rfl ?_
        exact aw_iret rfl d_X3_add_71 ⟨Nat.le_refl _, Nat.le_refl _⟩ ⟨_, rfl, k⟩
      · have k := k.2 c3
        refine aw_aload_n (i := 0) rfl d_X3_add_33 0 rfl ?_
        refine aw_getr (k0 := 0) kc_3 (ws_19 w) (Nat.le_of_ble_eq_true rfl) tw_321 d_X3_add_34 rfl (wr_19_0 w) ?_
        refine aw_iload_n (i := 3) rfl d_X3_add_37 3 rfl ?_
        refine aw_iload_n (i := 2) rfl d_X3_add_38 2 rfl ?_
        obtain ⟨b5, k⟩ := k
        refine aw_iast (ws_85 w) b5 d_X3_add_39 ?_
        refine aw_aload_n (i := 0) rfl d_X3_add_40 0 rfl ?_
        refine aw_dup d_X3_add_41 rfl ?_
        refine aw_geti (k0 := 2) kc_3 (ws_19 w) (Nat.le_of_ble_eq_true rfl) tw_323 d_X3_add_42 rfl ?_
        refine aw_vi (v2 := (h_i h 19 2)) (rfl) ?_
        refine aw_iconst (v := 1) d_X3_add_45 ic_1 ?_
        refine aw_iadd d_X3_add_46 ?_
        refine aw_puti (k0 := 2) kc_3 (ws_19 w) (Nat.le_of_ble_eq_true rfl) tw_323 d_X3_add_47 rfl rfl nf_i ?_
        refine aw_goto (tgt := 70) d_X3_add_50 rfl ?_
        refine aw_iload_n (i := 3) rfl d_X3_add_70 3 rfl ?_
        exact aw_iret rfl d_X3_add_71 ⟨Nat.le_refl _, Nat.le_refl _⟩ ⟨_, rfl, k⟩
    · have k := k.2 c2
      refine aw_iconst (v := (-1)) d_X3_add_22 ic_m1 ?_
      exact aw_iret rfl d_X3_add_23 ⟨Nat.le_refl _, Nat.le_refl _⟩ ⟨_, rfl, k⟩
  · have k := k.2 c1
    refine aw_aload_n (i := 0) rfl d_X3_add_4 0 rfl ?_
    refine aw_geti (k0 := 2) kc_3 (ws_19 w) (Nat.le_of_ble_eq_true rfl) tw_323 d_X3_add_5 rfl ?_
    refine aw_goto (tgt := 15) d_X3_add_8 rfl ?_
    refine aw_istore_n (i := 3) rfl [(0, .ref 19), (1, .int x1), (2, .int x2), (3, .int (h_i h 19 2))] d_X3_add_15 (Nat.le_of_ble_eq_true rfl) rfl rfl ?_
    refine aw_iload_n (i := 3) rfl d_X3_add_16 3 rfl ?_
    refine aw_bipush (v := 8) d_X3_add_17 ib_8 ?_
    refine aw_icmp_lt (tgt := 24) d_X3_add_19 rfl (fun c6 => ?_) (fun c6 => ?_)
    · have k := k.1 c6
      refine aw_aload_n (i := 0) rfl d_X3_add_24 0 rfl ?_
      refine aw_iconst (v := 1) d_X3_add_25 ic_1 ?_
      refine aw_puti (k0 := 5) kc_3 (ws_19 w) (Nat.le_of_ble_eq_true rfl) tw_328 d_X3_add_26 rfl rfl ⟨rfl, rfl⟩ ?_
      refine aw_iload_n (i := 1) rfl d_X3_add_29 1 rfl ?_
      refine aw_if_eq (tgt := 53) d_X3_add_30 rfl (fun c7 => ?_) (fun c7 => ?_)
      · have k := k.1 c7
        refine aw_aload_n (i := 0) rfl d_X3_add_53 0 rfl ?_
        refine aw_getr (k0 := 1) kc_3 (ws_19 w) (Nat.le_of_ble_eq_true rfl) tw_322 d_X3_add_54 rfl (wr_19_1 w) ?_
        refine aw_iload_n (i := 3) rfl d_X3_add_57 3 rfl ?_
        refine aw_iload_n (i := 2) rfl d_X3_add_58 2 rfl ?_
        obtain ⟨b8, k⟩ := k
        refine aw_iast (ws_86 w) b8 d_X3_add_59 ?_
        refine aw_aload_n (i := 0) rfl d_X3_add_60 0 rfl ?_
        refine aw_dup d_X3_add_61 rfl ?_
        refine aw_geti (k0 := 3) kc_3 (ws_19 w) (Nat.le_of_ble_eq_true rfl) tw_325 d_X3_add_62 rfl ?_
        refine aw_vi (v2 := (h_i h 19 3)) (rfl) ?_
        refine aw_iconst (v := 1) d_X3_add_65 ic_1 ?_
        refine aw_iadd d_X3_add_66 ?_
        refine aw_puti (k0 := 3) kc_3 (ws_19 w) (Nat.le_of_ble_eq_true rfl) tw_325 d_X3_add_67 rfl rfl nf_i ?_
        refine aw_iload_n (i := 3) rfl d_X3_add_70 3 rfl ?_
        exact aw_iret rfl d_X3_add_71 ⟨Nat.le_refl _, Nat.le_refl _⟩ ⟨_, rfl, k⟩
      · have k := k.2 c7
        refine aw_aload_n (i := 0) rfl d_X3_add_33 0 rfl ?_
        refine aw_getr (k0 := 0) kc_3 (ws_19 w) (Nat.le_of_ble_eq_true rfl) tw_321 d_X3_add_34 rfl (wr_19_0 w) ?_
        refine aw_iload_n (i := 3) rfl d_X3_add_37 3 rfl ?_
        refine aw_iload_n (i := 2) rfl d_X3_add_38 2 rfl ?_
        obtain ⟨b9, k⟩ := k
        refine aw_iast (ws_85 w) b9 d_X3_add_39 ?_
        refine aw_aload_n (i := 0) rfl d_X3_add_40 0 rfl ?_
        refine aw_dup d_X3_add_41 rfl ?_
        refine aw_geti (k0 := 2) kc_3 (ws_19 w) (Nat.le_of_ble_eq_true rfl) tw_323 d_X3_add_42 rfl ?_
        refine aw_vi (v2 := (h_i h 19 2)) (rfl) ?_
        refine aw_iconst (v := 1) d_X3_add_45 ic_1 ?_
        refine aw_iadd d_X3_add_46 ?_
        refine aw_puti (k0 := 2) kc_3 (ws_19 w) (Nat.le_of_ble_eq_true rfl) tw_323 d_X3_add_47 rfl rfl nf_i ?_
        refine aw_goto (tgt := 70) d_X3_add_50 rfl ?_
        refine aw_iload_n (i := 3) rfl d_X3_add_70 3 rfl ?_
        exact aw_iret rfl d_X3_add_71 ⟨Nat.le_refl _, Nat.le_refl _⟩ ⟨_, rfl, k⟩
    · have k := k.2 c6
      refine aw_iconst (v := (-1)) d_X3_add_22 ic_m1 ?_
      exact aw_iret rfl d_X3_add_23 ⟨Nat.le_refl _, Nat.le_refl _⟩ ⟨_, rfl, k⟩
theorem t_X12_good (d : Nat) (h : Hp_) (w : Wf h) (x1 : Int32) (x2 : Int32) (K : Int32 → Hp_ → Prop) (k : (¬ (0 ≤ x2 ∧ x2 ≤ 99999) → K (-1) h) ∧ ((0 ≤ x2 ∧ x2 ≤ 99999) → (x1 = 0 → (¬ (h_i h 1 102) = 8 → (x1 = 0 → vp_in (h_i h 1 102) 8 ∧ (K (((h_i h 1 102) + 1) - 1) (h_im (h_im h 279 ((h_i h 1 102) : Int32).toNatClampNeg x2) 1 102 ((h_i h 1 102) + 1)))) ∧ (¬ x1 = 0 → vp_in (h_i h 1 101) 8 ∧ (K (((h_i h 1 101) + 1) - 1) (h_im (h_im h 278 ((h_i h 1 101) : Int32).toNatClampNeg x2) 1 101 ((h_i h 1 101) + 1))))) ∧ ((h_i h 1 102) = 8 → K (-1) h)) ∧ (¬ x1 = 0 → (¬ (h_i h 1 101) = 8 → (x1 = 0 → vp_in (h_i h 1 102) 8 ∧ (K (((h_i h 1 102) + 1) - 1) (h_im (h_im h 279 ((h_i h 1 102) : Int32).toNatClampNeg x2) 1 102 ((h_i h 1 102) + 1)))) ∧ (¬ x1 = 0 → vp_in (h_i h 1 101) 8 ∧ (K (((h_i h 1 101) + 1) - 1) (h_im (h_im h 278 ((h_i h 1 101) : Int32).toNatClampNeg x2) 1 101 ((h_i h 1 101) + 1))))) ∧ ((h_i h 1 101) = 8 → K (-1) h)))) : Ci (m_X12_good (d + 1) 0 0) [.ref 1, .int x1, .int x2] h K := by
  refine Ct.of (fun _ _ _ => trivial) pn_X12 (Nat.le_of_ble_eq_true rfl) ?_
  show AW (m_X12_good (d + 1) 0 0) 0 0 0 [(0, .ref 1), (1, .int x1), (2, .int x2)] [] h (kI K)
  refine aw_iload_n (i := 2) rfl d_X12_good_0 2 rfl ?_
  refine aw_iconst (v := 0) d_X12_good_1 ic_0 ?_
  refine aw_ldcw (v := 99999) d_X12_good_2 tw_2557 ?_
  refine aw_Si [.int x2, .int 0, .int 99999] [] d_X12_good_5 (cS_X12_in (d + 0) 0 0) tw_2143 rfl (rr0 (Nat.le_of_ble_eq_true rfl) (Nat.le_of_ble_eq_true rfl)) (Nat.le_of_ble_eq_true rfl) xs0 (s_X12_in _ _ x2 0 99999) (fun _ _ kk => ?_)
  obtain ⟨e1, e2⟩ := kk
  rw [e1, e2]
  refine aw_ifb_eq (tgt := 31) d_X12_good_8 rfl (fun c3 => ?_) (fun c3 => ?_)
  · have k := k.1 c3
    refine aw_iconst (v := (-1)) d_X12_good_31 ic_m1 ?_
    exact aw_iret rfl d_X12_good_32 ⟨Nat.le_refl _, Nat.le_refl _⟩ ⟨_, rfl, k⟩
  · have k := k.2 c3
    refine aw_iload_n (i := 1) rfl d_X12_good_11 1 rfl ?_
    refine aw_if_eq (tgt := 22) d_X12_good_12 rfl (fun c4 => ?_) (fun c4 => ?_)
    · have k := k.1 c4
      refine aw_aload_n (i := 0) rfl d_X12_good_22 0 rfl ?_
      refine aw_geti (k0 := 102) kc_12 (ws_1 w) (Nat.le_of_ble_eq_true rfl) tw_1844 d_X12_good_23 rfl ?_
      refine aw_bipush (v := 8) d_X12_good_26 ib_8 ?_
      refine aw_icmp_ne (tgt := 33) d_X12_good_28 rfl (fun c5 => ?_) (fun c5 => ?_)
      · have k := k.1 c5
        refine aw_iload_n (i := 1) rfl d_X12_good_33 1 rfl ?_
        refine aw_if_eq (tgt := 64) d_X12_good_34 rfl (fun c6 => ?_) (fun c6 => ?_)
        · have k := k.1 c6
          refine aw_aload_n (i := 0) rfl d_X12_good_64 0 rfl ?_
          refine aw_getr (k0 := 100) kc_12 (ws_1 w) (Nat.le_of_ble_eq_true rfl) tw_1842 d_X12_good_65 rfl (wr_1_100 w) ?_
          refine aw_aload_n (i := 0) rfl d_X12_good_68 0 rfl ?_
          refine aw_geti (k0 := 102) kc_12 (ws_1 w) (Nat.le_of_ble_eq_true rfl) tw_1844 d_X12_good_69 rfl ?_
          refine aw_iload_n (i := 2) rfl d_X12_good_72 2 rfl ?_
          obtain ⟨b7, k⟩ := k
          refine aw_iast (ws_279 w) b7 d_X12_good_73 ?_
          refine aw_aload_n (i := 0) rfl d_X12_good_74 0 rfl ?_
          refine aw_dup d_X12_good_75 rfl ?_
          refine aw_geti (k0 := 102) kc_12 (ws_1 w) (Nat.le_of_ble_eq_true rfl) tw_1844 d_X12_good_76 rfl ?_
          refine aw_vi (v2 := (h_i h 1 102)) (rfl) ?_
          refine aw_iconst (v := 1) d_X12_good_79 ic_1 ?_
          refine aw_iadd d_X12_good_80 ?_
          refine aw_puti (k0 := 102) kc_12 (ws_1 w) (Nat.le_of_ble_eq_true rfl) tw_1844 d_X12_good_81 rfl rfl nf_i ?_
          refine aw_aload_n (i := 0) rfl d_X12_good_84 0 rfl ?_
          refine aw_geti (k0 := 102) kc_12 (ws_1 w) (Nat.le_of_ble_eq_true rfl) tw_1844 d_X12_good_85 rfl ?_
          refine aw_vi (v2 := ((h_i h 1 102) + 1)) (rfl) ?_
          refine aw_iconst (v := 1) d_X12_good_88 ic_1 ?_
          refine aw_isub d_X12_good_89 ?_
          exact aw_iret rfl d_X12_good_90 ⟨Nat.le_refl _, Nat.le_refl _⟩ ⟨_, rfl, k⟩
        · have k := k.2 c6
          refine aw_aload_n (i := 0) rfl d_X12_good_37 0 rfl ?_
          refine aw_getr (k0 := 99) kc_12 (ws_1 w) (Nat.le_of_ble_eq_true rfl) tw_1841 d_X12_good_38 rfl (wr_1_99 w) ?_
          refine aw_aload_n (i := 0) rfl d_X12_good_41 0 rfl ?_
          refine aw_geti (k0 := 101) kc_12 (ws_1 w) (Nat.le_of_ble_eq_true rfl) tw_1843 d_X12_good_42 rfl ?_
          refine aw_iload_n (i := 2) rfl d_X12_good_45 2 rfl ?_
          obtain ⟨b8, k⟩ := k
          refine aw_iast (ws_278 w) b8 d_X12_good_46 ?_
          refine aw_aload_n (i := 0) rfl d_X12_good_47 0 rfl ?_
          refine aw_dup d_X12_good_48 rfl ?_
          refine aw_geti (k0 := 101) kc_12 (ws_1 w) (Nat.le_of_ble_eq_true rfl) tw_1843 d_X12_good_49 rfl ?_
          refine aw_vi (v2 := (h_i h 1 101)) (rfl) ?_
          refine aw_iconst (v := 1) d_X12_good_52 ic_1 ?_
          refine aw_iadd d_X12_good_53 ?_
          refine aw_puti (k0 := 101) kc_12 (ws_1 w) (Nat.le_of_ble_eq_true rfl) tw_1843 d_X12_good_54 rfl rfl nf_i ?_
          refine aw_aload_n (i := 0) rfl d_X12_good_57 0 rfl ?_
          refine aw_geti (k0 := 101) kc_12 (ws_1 w) (Nat.le_of_ble_eq_true rfl) tw_1843 d_X12_good_58 rfl ?_
          refine aw_vi (v2 := ((h_i h 1 101) + 1)) (rfl) ?_
          refine aw_iconst (v := 1) d_X12_good_61 ic_1 ?_
          refine aw_isub d_X12_good_62 ?_
          exact aw_iret rfl d_X12_good_63 ⟨Nat.le_refl _, Nat.le_refl _⟩ ⟨_, rfl, k⟩
      · have k := k.2 c5
        refine aw_iconst (v := (-1)) d_X12_good_31 ic_m1 ?_
        exact aw_iret rfl d_X12_good_32 ⟨Nat.le_refl _, Nat.le_refl _⟩ ⟨_, rfl, k⟩
    · have k := k.2 c4
      refine aw_aload_n (i := 0) rfl d_X12_good_15 0 rfl ?_
      refine aw_geti (k0 := 101) kc_12 (ws_1 w) (Nat.le_of_ble_eq_true rfl) tw_1843 d_X12_good_16 rfl ?_
      refine aw_goto (tgt := 26) d_X12_good_19 rfl ?_
      refine aw_bipush (v := 8) d_X12_good_26 ib_8 ?_
      refine aw_icmp_ne (tgt := 33) d_X12_good_28 rfl (fun c9 => ?_) (fun c9 => ?_)
      · have k := k.1 c9
        refine aw_iload_n (i := 1) rfl d_X12_good_33 1 rfl ?_
        refine aw_if_eq (tgt := 64) d_X12_good_34 rfl (fun c10 => ?_) (fun c10 => ?_)
        · have k := k.1 c10
          refine aw_aload_n (i := 0) rfl d_X12_good_64 0 rfl ?_
          refine aw_getr (k0 := 100) kc_12 (ws_1 w) (Nat.le_of_ble_eq_true rfl) tw_1842 d_X12_good_65 rfl (wr_1_100 w) ?_
          refine aw_aload_n (i := 0) rfl d_X12_good_68 0 rfl ?_
          refine aw_geti (k0 := 102) kc_12 (ws_1 w) (Nat.le_of_ble_eq_true rfl) tw_1844 d_X12_good_69 rfl ?_
          refine aw_iload_n (i := 2) rfl d_X12_good_72 2 rfl ?_
          obtain ⟨b11, k⟩ := k
          refine aw_iast (ws_279 w) b11 d_X12_good_73 ?_
          refine aw_aload_n (i := 0) rfl d_X12_good_74 0 rfl ?_
          refine aw_dup d_X12_good_75 rfl ?_
          refine aw_geti (k0 := 102) kc_12 (ws_1 w) (Nat.le_of_ble_eq_true rfl) tw_1844 d_X12_good_76 rfl ?_
          refine aw_vi (v2 := (h_i h 1 102)) (rfl) ?_
          refine aw_iconst (v := 1) d_X12_good_79 ic_1 ?_
          refine aw_iadd d_X12_good_80 ?_
          refine aw_puti (k0 := 102) kc_12 (ws_1 w) (Nat.le_of_ble_eq_true rfl) tw_1844 d_X12_good_81 rfl rfl nf_i ?_
          refine aw_aload_n (i := 0) rfl d_X12_good_84 0 rfl ?_
          refine aw_geti (k0 := 102) kc_12 (ws_1 w) (Nat.le_of_ble_eq_true rfl) tw_1844 d_X12_good_85 rfl ?_
          refine aw_vi (v2 := ((h_i h 1 102) + 1)) (rfl) ?_
          refine aw_iconst (v := 1) d_X12_good_88 ic_1 ?_
          refine aw_isub d_X12_good_89 ?_
          exact aw_iret rfl d_X12_good_90 ⟨Nat.le_refl _, Nat.le_refl _⟩ ⟨_, rfl, k⟩
        · have k := k.2 c10
          refine aw_aload_n (i := 0) rfl d_X12_good_37 0 rfl ?_
          refine aw_getr (k0 := 99) kc_12 (ws_1 w) (Nat.le_of_ble_eq_true rfl) tw_1841 d_X12_good_38 rfl (wr_1_99 w) ?_
          refine aw_aload_n (i := 0) rfl d_X12_good_41 0 rfl ?_
          refine aw_geti (k0 := 101) kc_12 (ws_1 w) (Nat.le_of_ble_eq_true rfl) tw_1843 d_X12_good_42 rfl ?_
          refine aw_iload_n (i := 2) rfl d_X12_good_45 2 rfl ?_
          obtain ⟨b12, k⟩ := k
          refine aw_iast (ws_278 w) b12 d_X12_good_46 ?_
          refine aw_aload_n (i := 0) rfl d_X12_good_47 0 rfl ?_
          refine aw_dup d_X12_good_48 rfl ?_
          refine aw_geti (k0 := 101) kc_12 (ws_1 w) (Nat.le_of_ble_eq_true rfl) tw_1843 d_X12_good_49 rfl ?_
          refine aw_vi (v2 := (h_i h 1 101)) (rfl) ?_
          refine aw_iconst (v := 1) d_X12_good_52 ic_1 ?_
          refine aw_iadd d_X12_good_53 ?_
          refine aw_puti (k0 := 101) kc_12 (ws_1 w) (Nat.le_of_ble_eq_true rfl) tw_1843 d_X12_good_54 rfl rfl nf_i ?_
          refine aw_aload_n (i := 0) rfl d_X12_good_57 0 rfl ?_
          refine aw_geti (k0 := 101) kc_12 (ws_1 w) (Nat.le_of_ble_eq_true rfl) tw_1843 d_X12_good_58 rfl ?_
          refine aw_vi (v2 := ((h_i h 1 101) + 1)) (rfl) ?_
          refine aw_iconst (v := 1) d_X12_good_61 ic_1 ?_
          refine aw_isub d_X12_good_62 ?_
          exact aw_iret rfl d_X12_good_63 ⟨Nat.le_refl _, Nat.le_refl _⟩ ⟨_, rfl, k⟩
      · have k := k.2 c9
        refine aw_iconst (v := (-1)) d_X12_good_31 ic_m1 ?_
        exact aw_iret rfl d_X12_good_32 ⟨Nat.le_refl _, Nat.le_refl _⟩ ⟨_, rfl, k⟩
theorem t_X11_good (d : Nat) (h : Hp_) (w : Wf h) (x1 : Int32) (x2 : Int32) (K : Int32 → Hp_ → Prop) (k : (¬ (0 ≤ x2 ∧ x2 ≤ 99999) → K (-1) h) ∧ ((0 ≤ x2 ∧ x2 ≤ 99999) → Ci (m_X3_add (d + 0) 0 0) [.ref 19, .int x1, .int x2] h (fun r6 h4 => Wf h4 ∧ (K r6 h4)))) : Ci (m_X11_good (d + 1) 0 0) [.ref 0, .int x1, .int x2] h K := by
  refine Ct.of (fun _ _ _ => trivial) pn_X11 (Nat.le_of_ble_eq_true rfl) ?_
  show AW (m_X11_good (d + 1) 0 0) 0 0 0 [(0, .ref 0), (1, .int x1), (2, .int x2)] [] h (kI K)
  refine aw_iload_n (i := 2) rfl d_X11_good_0 2 rfl ?_
  refine aw_iconst (v := 0) d_X11_good_1 ic_0 ?_
  refine aw_ldcw (v := 99999) d_X11_good_2 tw_1318 ?_
  refine aw_Si [.int x2, .int 0, .int 99999] [] d_X11_good_5 (cS_X11_within (d + 0) 0 0) tw_543 rfl (rr0 (Nat.le_of_ble_eq_true rfl) (Nat.le_of_ble_eq_true rfl)) (Nat.le_of_ble_eq_true rfl) xs0 (s_X11_within _ _ x2 0 99999) (fun _ _ kk => ?_)
  obtain ⟨e1, e2⟩ := kk
  rw [e1, e2]
  refine aw_ifb_eq (tgt := 23) d_X11_good_8 rfl (fun c3 => ?_) (fun c3 => ?_)
  · have k := k.1 c3
    refine aw_iconst (v := (-1)) d_X11_good_23 ic_m1 ?_
    exact aw_iret rfl d_X11_good_24 ⟨Nat.le_refl _, Nat.le_refl _⟩ ⟨_, rfl, k⟩
  · have k := k.2 c3
    refine aw_aload_n (i := 0) rfl d_X11_good_11 0 rfl ?_
    refine aw_getr (k0 := 11) kc_11 (ws_0 w) (Nat.le_of_ble_eq_true rfl) tw_498 d_X11_good_12 rfl (wr_0_11 w) ?_
    refine aw_iload_n (i := 1) rfl d_X11_good_15 1 rfl ?_
    refine aw_iload_n (i := 2) rfl d_X11_good_16 2 rfl ?_
    refine aw_Vi 19 [.int x1, .int x2] [] d_X11_good_17 (cV_X3_add (d + 0) 0 0) kc_3 (ws_19 w) tw_1319 rfl (rr0 (Nat.le_of_ble_eq_true rfl) (Nat.le_of_ble_eq_true rfl)) (Nat.le_of_ble_eq_true rfl) xs0 k (fun r6 h4 kk => ?_)
    obtain ⟨w5, k⟩ := kk
    refine aw_goto (tgt := 24) d_X11_good_20 rfl ?_
    exact aw_iret rfl d_X11_good_24 ⟨Nat.le_refl _, Nat.le_refl _⟩ ⟨_, rfl, k⟩
theorem t_X3_setLeast (d : Nat) (h : Hp_) (w : Wf h) (x1 : Int32) (K : Int32 → Hp_ → Prop) (k : K 1 (h_im (h_im h 19 4 x1) 19 5 1)) : Ci (m_X3_setLeast (d + 0) 0 0) [.ref 19, .int x1] h K := by
  refine Ct.of (fun _ _ _ => trivial) pn_X3 (Nat.le_of_ble_eq_true rfl) ?_
  show AW (m_X3_setLeast (d + 0) 0 0) 0 0 0 [(0, .ref 19), (1, .int x1)] [] h (kI K)
  refine aw_aload_n (i := 0) rfl d_X3_setLeast_0 0 rfl ?_
  refine aw_iload_n (i := 1) rfl d_X3_setLeast_1 1 rfl ?_
  refine aw_puti (k0 := 4) kc_3 (ws_19 w) (Nat.le_of_ble_eq_true rfl) tw_327 d_X3_setLeast_2 rfl rfl nf_i ?_
  refine aw_aload_n (i := 0) rfl d_X3_setLeast_5 0 rfl ?_
  refine aw_iconst (v := 1) d_X3_setLeast_6 ic_1 ?_
  refine aw_puti (k0 := 5) kc_3 (ws_19 w) (Nat.le_of_ble_eq_true rfl) tw_328 d_X3_setLeast_7 rfl rfl ⟨rfl, rfl⟩ ?_
  refine aw_iconst (v := 1) d_X3_setLeast_10 ic_1 ?_
  exact aw_zret rfl rfl d_X3_setLeast_11 ⟨Nat.le_refl _, Nat.le_refl _⟩ ⟨_, rfl, k⟩
theorem t_X12_least (d : Nat) (h : Hp_) (w : Wf h) (x1 : Int32) (K : Int32 → Hp_ → Prop) (k : ((1 ≤ x1 ∧ x1 ≤ 5) → K 1 (h_im h 1 103 x1)) ∧ (¬ (1 ≤ x1 ∧ x1 ≤ 5) → K 0 h)) : Ci (m_X12_least (d + 1) 0 0) [.ref 1, .int x1] h K := by
  refine Ct.of (fun _ _ _ => trivial) pn_X12 (Nat.le_of_ble_eq_true rfl) ?_
  show AW (m_X12_least (d + 1) 0 0) 0 0 0 [(0, .ref 1), (1, .int x1)] [] h (kI K)
  refine aw_iload_n (i := 1) rfl d_X12_least_0 1 rfl ?_
  refine aw_iconst (v := 1) d_X12_least_1 ic_1 ?_
  refine aw_iconst (v := 5) d_X12_least_2 ic_5 ?_
  refine aw_Si [.int x1, .int 1, .int 5] [] d_X12_least_3 (cS_X12_in (d + 0) 0 0) tw_2143 rfl (rr0 (Nat.le_of_ble_eq_true rfl) (Nat.le_of_ble_eq_true rfl)) (Nat.le_of_ble_eq_true rfl) xs0 (s_X12_in _ _ x1 1 5) (fun _ _ kk => ?_)
  obtain ⟨e1, e2⟩ := kk
  rw [e1, e2]
  refine aw_ifb_ne (tgt := 11) d_X12_least_6 rfl (fun c3 => ?_) (fun c3 => ?_)
  · have k := k.1 c3
    refine aw_aload_n (i := 0) rfl d_X12_least_11 0 rfl ?_
    refine aw_iload_n (i := 1) rfl d_X12_least_12 1 rfl ?_
    refine aw_puti (k0 := 103) kc_12 (ws_1 w) (Nat.le_of_ble_eq_true rfl) tw_1845 d_X12_least_13 rfl rfl nf_i ?_
    refine aw_iconst (v := 1) d_X12_least_16 ic_1 ?_
    exact aw_zret rfl rfl d_X12_least_17 ⟨Nat.le_refl _, Nat.le_refl _⟩ ⟨_, rfl, k⟩
  · have k := k.2 c3
    refine aw_iconst (v := 0) d_X12_least_9 ic_0 ?_
    exact aw_zret rfl rfl d_X12_least_10 ⟨Nat.le_refl _, Nat.le_refl _⟩ ⟨_, rfl, k⟩
theorem t_X11_least (d : Nat) (h : Hp_) (w : Wf h) (x1 : Int32) (K : Int32 → Hp_ → Prop) (k : (¬ (1 ≤ x1 ∧ x1 ≤ 5) → K 0 h) ∧ ((1 ≤ x1 ∧ x1 ≤ 5) → Ci (m_X3_setLeast (d + 0) 0 0) [.ref 19, .int x1] h (fun r6 h4 => Wf h4 ∧ ((r6 = 0 → K 0 h4) ∧ (¬ r6 = 0 → K 1 h4))))) : Ci (m_X11_least (d + 1) 0 0) [.ref 0, .int x1] h K := by
  refine Ct.of (fun _ _ _ => trivial) pn_X11 (Nat.le_of_ble_eq_true rfl) ?_
  show AW (m_X11_least (d + 1) 0 0) 0 0 0 [(0, .ref 0), (1, .int x1)] [] h (kI K)
  refine aw_iload_n (i := 1) rfl d_X11_least_0 1 rfl ?_
  refine aw_iconst (v := 1) d_X11_least_1 ic_1 ?_
  refine aw_iconst (v := 5) d_X11_least_2 ic_5 ?_
  refine aw_Si [.int x1, .int 1, .int 5] [] d_X11_least_3 (cS_X11_within (d + 0) 0 0) tw_543 rfl (rr0 (Nat.le_of_ble_eq_true rfl) (Nat.le_of_ble_eq_true rfl)) (Nat.le_of_ble_eq_true rfl) xs0 (s_X11_within _ _ x1 1 5) (fun _ _ kk => ?_)
  obtain ⟨e1, e2⟩ := kk
  rw [e1, e2]
  refine aw_ifb_eq (tgt := 24) d_X11_least_6 rfl (fun c3 => ?_) (fun c3 => ?_)
  · have k := k.1 c3
    refine aw_iconst (v := 0) d_X11_least_24 ic_0 ?_
    exact aw_zret rfl rfl d_X11_least_25 ⟨Nat.le_refl _, Nat.le_refl _⟩ ⟨_, rfl, k⟩
  · have k := k.2 c3
    refine aw_aload_n (i := 0) rfl d_X11_least_9 0 rfl ?_
    refine aw_getr (k0 := 11) kc_11 (ws_0 w) (Nat.le_of_ble_eq_true rfl) tw_498 d_X11_least_10 rfl (wr_0_11 w) ?_
    refine aw_iload_n (i := 1) rfl d_X11_least_13 1 rfl ?_
    refine aw_Vi 19 [.int x1] [] d_X11_least_14 (cV_X3_setLeast (d + 0) 0 0) kc_3 (ws_19 w) tw_1327 rfl (rr0 (Nat.le_of_ble_eq_true rfl) (Nat.le_of_ble_eq_true rfl)) (Nat.le_of_ble_eq_true rfl) xs0 k (fun r6 h4 kk => ?_)
    obtain ⟨w5, k⟩ := kk
    refine aw_if_eq (tgt := 24) d_X11_least_17 rfl (fun c7 => ?_) (fun c7 => ?_)
    · have k := k.1 c7
      refine aw_iconst (v := 0) d_X11_least_24 ic_0 ?_
      exact aw_zret rfl rfl d_X11_least_25 ⟨Nat.le_refl _, Nat.le_refl _⟩ ⟨_, rfl, k⟩
    · have k := k.2 c7
      refine aw_iconst (v := 1) d_X11_least_20 ic_1 ?_
      refine aw_goto (tgt := 25) d_X11_least_21 rfl ?_
      exact aw_zret rfl rfl d_X11_least_25 ⟨Nat.le_refl _, Nat.le_refl _⟩ ⟨_, rfl, k⟩
theorem t_X3_hasLost (d : Nat) (h : Hp_) (w : Wf h) (x1 : Int32) (K : Int32 → Hp_ → Prop) (k : (x1 < 0 → K 0 h) ∧ (¬ x1 < 0 → ((h_i h 19 2) ≤ x1 → K 0 h) ∧ (¬ (h_i h 19 2) ≤ x1 → K 1 h))) : Ci (m_X3_hasLost (d + 0) 0 0) [.ref 19, .int x1] h K := by
  refine Ct.of (fun _ _ _ => trivial) pn_X3 (Nat.le_of_ble_eq_true rfl) ?_
  show AW (m_X3_hasLost (d + 0) 0 0) 0 0 0 [(0, .ref 19), (1, .int x1)] [] h (kI K)
  refine aw_iload_n (i := 1) rfl d_X3_hasLost_0 1 rfl ?_
  refine aw_if_lt (tgt := 16) d_X3_hasLost_1 rfl (fun c1 => ?_) (fun c1 => ?_)
  · have k := k.1 c1
    refine aw_iconst (v := 0) d_X3_hasLost_16 ic_0 ?_
    exact aw_zret rfl rfl d_X3_hasLost_17 ⟨Nat.le_refl _, Nat.le_refl _⟩ ⟨_, rfl, k⟩
  · have k := k.2 c1
    refine aw_iload_n (i := 1) rfl d_X3_hasLost_4 1 rfl ?_
    refine aw_aload_n (i := 0) rfl d_X3_hasLost_5 0 rfl ?_
    refine aw_geti (k0 := 2) kc_3 (ws_19 w) (Nat.le_of_ble_eq_true rfl) tw_323 d_X3_hasLost_6 rfl ?_
    refine aw_icmp_ge (tgt := 16) d_X3_hasLost_9 rfl (fun c2 => ?_) (fun c2 => ?_)
    · have k := k.1 c2
      refine aw_iconst (v := 0) d_X3_hasLost_16 ic_0 ?_
      exact aw_zret rfl rfl d_X3_hasLost_17 ⟨Nat.le_refl _, Nat.le_refl _⟩ ⟨_, rfl, k⟩
    · have k := k.2 c2
      refine aw_iconst (v := 1) d_X3_hasLost_12 ic_1 ?_
      refine aw_goto (tgt := 17) d_X3_hasLost_13 rfl ?_
      exact aw_zret rfl rfl d_X3_hasLost_17 ⟨Nat.le_refl _, Nat.le_refl _⟩ ⟨_, rfl, k⟩
theorem t_X3_firstOf (d : Nat) (h : Hp_) (w : Wf h) (x1 : Int32) (K : Int32 → Hp_ → Prop) (k : Cv (m_X3_solve (d + 3) 0 0) [.ref 19] h (fun h1 => Wf h1 ∧ (Ci (m_X3_hasLost (d + 0) 0 0) [.ref 19, .int x1] h1 (fun r6 h4 => Wf h4 ∧ ((r6 = 0 → K (-1) h4) ∧ (¬ r6 = 0 → vp_in x1 8 ∧ (K (h_i h4 91 x1.toNatClampNeg) h4))))))) : Ci (m_X3_firstOf (d + 4) 0 0) [.ref 19, .int x1] h K := by
  refine Ct.of (fun _ _ _ => trivial) pn_X3 (Nat.le_of_ble_eq_true rfl) ?_
  show AW (m_X3_firstOf (d + 4) 0 0) 0 0 0 [(0, .ref 19), (1, .int x1)] [] h (kI K)
  refine aw_aload_n (i := 0) rfl d_X3_firstOf_0 0 rfl ?_
  refine aw_Vv 19 [] [] d_X3_firstOf_1 (cV_X3_solve (d + 3) 0 0) kc_3 (ws_19 w) tw_1339 rfl (rr0 (Nat.le_of_ble_eq_true rfl) (Nat.le_of_ble_eq_true rfl)) (Nat.le_of_ble_eq_true rfl) xs0 k (fun h1 kk => ?_)
  obtain ⟨w2, k⟩ := kk
  refine aw_aload_n (i := 0) rfl d_X3_firstOf_4 0 rfl ?_
  refine aw_iload_n (i := 1) rfl d_X3_firstOf_5 1 rfl ?_
  refine aw_Vi 19 [.int x1] [] d_X3_firstOf_6 (cV_X3_hasLost (d + 0) 0 0) kc_3 (ws_19 w2) tw_1388 rfl (rr0 (Nat.le_of_ble_eq_true rfl) (Nat.le_of_ble_eq_true rfl)) (Nat.le_of_ble_eq_true rfl) xs0 k (fun r6 h4 kk => ?_)
  obtain ⟨w5, k⟩ := kk
  refine aw_if_eq (tgt := 21) d_X3_firstOf_9 rfl (fun c7 => ?_) (fun c7 => ?_)
  · have k := k.1 c7
    refine aw_iconst (v := (-1)) d_X3_firstOf_21 ic_m1 ?_
    exact aw_iret rfl d_X3_firstOf_22 ⟨Nat.le_refl _, Nat.le_refl _⟩ ⟨_, rfl, k⟩
  · have k := k.2 c7
    refine aw_aload_n (i := 0) rfl d_X3_firstOf_12 0 rfl ?_
    refine aw_getr (k0 := 10) kc_3 (ws_19 w5) (Nat.le_of_ble_eq_true rfl) tw_333 d_X3_firstOf_13 rfl (wr_19_10 w5) ?_
    refine aw_iload_n (i := 1) rfl d_X3_firstOf_16 1 rfl ?_
    obtain ⟨b8, k⟩ := k
    refine aw_iald (ws_91 w5) b8 d_X3_firstOf_17 ?_
    refine aw_goto (tgt := 22) d_X3_firstOf_18 rfl ?_
    exact aw_iret rfl d_X3_firstOf_22 ⟨Nat.le_refl _, Nat.le_refl _⟩ ⟨_, rfl, k⟩
theorem t_X3_foundFor (d : Nat) (h : Hp_) (w : Wf h) (x1 : Int32) (K : Int32 → Hp_ → Prop) (k : Cv (m_X3_solve (d + 3) 0 0) [.ref 19] h (fun h1 => Wf h1 ∧ (Ci (m_X3_hasLost (d + 0) 0 0) [.ref 19, .int x1] h1 (fun r6 h4 => Wf h4 ∧ ((r6 = 0 → K (-1) h4) ∧ (¬ r6 = 0 → vp_in x1 8 ∧ (K ((h_i h4 90 x1.toNatClampNeg) &&& (-257)) h4))))))) : Ci (m_X3_foundFor (d + 4) 0 0) [.ref 19, .int x1] h K := by
  refine Ct.of (fun _ _ _ => trivial) pn_X3 (Nat.le_of_ble_eq_true rfl) ?_
  show AW (m_X3_foundFor (d + 4) 0 0) 0 0 0 [(0, .ref 19), (1, .int x1)] [] h (kI K)
  refine aw_aload_n (i := 0) rfl d_X3_foundFor_0 0 rfl ?_
  refine aw_Vv 19 [] [] d_X3_foundFor_1 (cV_X3_solve (d + 3) 0 0) kc_3 (ws_19 w) tw_1339 rfl (rr0 (Nat.le_of_ble_eq_true rfl) (Nat.le_of_ble_eq_true rfl)) (Nat.le_of_ble_eq_true rfl) xs0 k (fun h1 kk => ?_)
  obtain ⟨w2, k⟩ := kk
  refine aw_aload_n (i := 0) rfl d_X3_foundFor_4 0 rfl ?_
  refine aw_iload_n (i := 1) rfl d_X3_foundFor_5 1 rfl ?_
  refine aw_Vi 19 [.int x1] [] d_X3_foundFor_6 (cV_X3_hasLost (d + 0) 0 0) kc_3 (ws_19 w2) tw_1388 rfl (rr0 (Nat.le_of_ble_eq_true rfl) (Nat.le_of_ble_eq_true rfl)) (Nat.le_of_ble_eq_true rfl) xs0 k (fun r6 h4 kk => ?_)
  obtain ⟨w5, k⟩ := kk
  refine aw_if_eq (tgt := 25) d_X3_foundFor_9 rfl (fun c7 => ?_) (fun c7 => ?_)
  · have k := k.1 c7
    refine aw_iconst (v := (-1)) d_X3_foundFor_25 ic_m1 ?_
    exact aw_iret rfl d_X3_foundFor_26 ⟨Nat.le_refl _, Nat.le_refl _⟩ ⟨_, rfl, k⟩
  · have k := k.2 c7
    refine aw_aload_n (i := 0) rfl d_X3_foundFor_12 0 rfl ?_
    refine aw_getr (k0 := 9) kc_3 (ws_19 w5) (Nat.le_of_ble_eq_true rfl) tw_332 d_X3_foundFor_13 rfl (wr_19_9 w5) ?_
    refine aw_iload_n (i := 1) rfl d_X3_foundFor_16 1 rfl ?_
    obtain ⟨b8, k⟩ := k
    refine aw_iald (ws_90 w5) b8 d_X3_foundFor_17 ?_
    refine aw_sipush (v := (-257)) d_X3_foundFor_18 is_m257 ?_
    refine aw_iand d_X3_foundFor_21 ?_
    refine aw_goto (tgt := 26) d_X3_foundFor_22 rfl ?_
    exact aw_iret rfl d_X3_foundFor_26 ⟨Nat.le_refl _, Nat.le_refl _⟩ ⟨_, rfl, k⟩
theorem t_X3_isSure (d : Nat) (h : Hp_) (w : Wf h) (x1 : Int32) (K : Int32 → Hp_ → Prop) (k : Cv (m_X3_solve (d + 3) 0 0) [.ref 19] h (fun h1 => Wf h1 ∧ (Ci (m_X3_hasLost (d + 0) 0 0) [.ref 19, .int x1] h1 (fun r6 h4 => Wf h4 ∧ ((r6 = 0 → K 0 h4) ∧ (¬ r6 = 0 → vp_in x1 8 ∧ (Ci (m_J6_bitCount_0f7a4 (d + 0) 0 0) [.int (h_i h4 90 x1.toNatClampNeg)] h4 (fun r11 h9 => Wf h9 ∧ ((¬ r11 = 1 → K 0 h9) ∧ (r11 = 1 → K 1 h9)))))))))) : Ci (m_X3_isSure (d + 4) 0 0) [.ref 19, .int x1] h K := by
  refine Ct.of (fun _ _ _ => trivial) pn_X3 (Nat.le_of_ble_eq_true rfl) ?_
  show AW (m_X3_isSure (d + 4) 0 0) 0 0 0 [(0, .ref 19), (1, .int x1)] [] h (kI K)
  refine aw_aload_n (i := 0) rfl d_X3_isSure_0 0 rfl ?_
  refine aw_Vv 19 [] [] d_X3_isSure_1 (cV_X3_solve (d + 3) 0 0) kc_3 (ws_19 w) tw_1339 rfl (rr0 (Nat.le_of_ble_eq_true rfl) (Nat.le_of_ble_eq_true rfl)) (Nat.le_of_ble_eq_true rfl) xs0 k (fun h1 kk => ?_)
  obtain ⟨w2, k⟩ := kk
  refine aw_aload_n (i := 0) rfl d_X3_isSure_4 0 rfl ?_
  refine aw_iload_n (i := 1) rfl d_X3_isSure_5 1 rfl ?_
  refine aw_Vi 19 [.int x1] [] d_X3_isSure_6 (cV_X3_hasLost (d + 0) 0 0) kc_3 (ws_19 w2) tw_1388 rfl (rr0 (Nat.le_of_ble_eq_true rfl) (Nat.le_of_ble_eq_true rfl)) (Nat.le_of_ble_eq_true rfl) xs0 k (fun r6 h4 kk => ?_)
  obtain ⟨w5, k⟩ := kk
  refine aw_if_eq (tgt := 29) d_X3_isSure_9 rfl (fun c7 => ?_) (fun c7 => ?_)
  · have k := k.1 c7
    refine aw_iconst (v := 0) d_X3_isSure_29 ic_0 ?_
    exact aw_zret rfl rfl d_X3_isSure_30 ⟨Nat.le_refl _, Nat.le_refl _⟩ ⟨_, rfl, k⟩
  · have k := k.2 c7
    refine aw_aload_n (i := 0) rfl d_X3_isSure_12 0 rfl ?_
    refine aw_getr (k0 := 9) kc_3 (ws_19 w5) (Nat.le_of_ble_eq_true rfl) tw_332 d_X3_isSure_13 rfl (wr_19_9 w5) ?_
    refine aw_iload_n (i := 1) rfl d_X3_isSure_16 1 rfl ?_
    obtain ⟨b8, k⟩ := k
    refine aw_iald (ws_90 w5) b8 d_X3_isSure_17 ?_
    refine aw_Si [.int (h_i h4 90 x1.toNatClampNeg)] [] d_X3_isSure_18 (cS_J6_bitCount_0f7a4 (d + 0) 0 0) tw_1405 rfl (rr0 (Nat.le_of_ble_eq_true rfl) (Nat.le_of_ble_eq_true rfl)) (Nat.le_of_ble_eq_true rfl) xs0 k (fun r11 h9 kk => ?_)
    obtain ⟨w10, k⟩ := kk
    refine aw_iconst (v := 1) d_X3_isSure_21 ic_1 ?_
    refine aw_icmp_ne (tgt := 29) d_X3_isSure_22 rfl (fun c12 => ?_) (fun c12 => ?_)
    · have k := k.1 c12
      refine aw_iconst (v := 0) d_X3_isSure_29 ic_0 ?_
      exact aw_zret rfl rfl d_X3_isSure_30 ⟨Nat.le_refl _, Nat.le_refl _⟩ ⟨_, rfl, k⟩
    · have k := k.2 c12
      refine aw_iconst (v := 1) d_X3_isSure_25 ic_1 ?_
      refine aw_goto (tgt := 30) d_X3_isSure_26 rfl ?_
      exact aw_zret rfl rfl d_X3_isSure_30 ⟨Nat.le_refl _, Nat.le_refl _⟩ ⟨_, rfl, k⟩
theorem t_X11_joined (d : Nat) (h : Hp_) (w : Wf h) (x1 : Int32) (K : Int32 → Hp_ → Prop) (k : Ci (m_X3_hasLost (d + 0) 0 0) [.ref 19, .int x1] h (fun r3 h1 => Wf h1 ∧ ((r3 = 0 → K (-1) h1) ∧ (¬ r3 = 0 → Ci (m_X3_firstOf (d + 4) 0 0) [.ref 19, .int x1] h1 (fun r7 h5 => Wf h5 ∧ (K r7 h5)))))) : Ci (m_X11_joined (d + 5) 0 0) [.ref 0, .int x1] h K := by
  refine Ct.of (fun _ _ _ => trivial) pn_X11 (Nat.le_of_ble_eq_true rfl) ?_
  show AW (m_X11_joined (d + 5) 0 0) 0 0 0 [(0, .ref 0), (1, .int x1)] [] h (kI K)
  refine aw_aload_n (i := 0) rfl d_X11_joined_0 0 rfl ?_
  refine aw_getr (k0 := 11) kc_11 (ws_0 w) (Nat.le_of_ble_eq_true rfl) tw_498 d_X11_joined_1 rfl (wr_0_11 w) ?_
  refine aw_iload_n (i := 1) rfl d_X11_joined_4 1 rfl ?_
  refine aw_Vi 19 [.int x1] [] d_X11_joined_5 (cV_X3_hasLost (d + 0) 0 0) kc_3 (ws_19 w) tw_1380 rfl (rr0 (Nat.le_of_ble_eq_true rfl) (Nat.le_of_ble_eq_true rfl)) (Nat.le_of_ble_eq_true rfl) xs0 k (fun r3 h1 kk => ?_)
  obtain ⟨w2, k⟩ := kk
  refine aw_if_eq (tgt := 22) d_X11_joined_8 rfl (fun c4 => ?_) (fun c4 => ?_)
  · have k := k.1 c4
    refine aw_iconst (v := (-1)) d_X11_joined_22 ic_m1 ?_
    exact aw_iret rfl d_X11_joined_23 ⟨Nat.le_refl _, Nat.le_refl _⟩ ⟨_, rfl, k⟩
  · have k := k.2 c4
    refine aw_aload_n (i := 0) rfl d_X11_joined_11 0 rfl ?_
    refine aw_getr (k0 := 11) kc_11 (ws_0 w2) (Nat.le_of_ble_eq_true rfl) tw_498 d_X11_joined_12 rfl (wr_0_11 w2) ?_
    refine aw_iload_n (i := 1) rfl d_X11_joined_15 1 rfl ?_
    refine aw_Vi 19 [.int x1] [] d_X11_joined_16 (cV_X3_firstOf (d + 4) 0 0) kc_3 (ws_19 w2) tw_1384 rfl (rr0 (Nat.le_of_ble_eq_true rfl) (Nat.le_of_ble_eq_true rfl)) (Nat.le_of_ble_eq_true rfl) xs0 k (fun r7 h5 kk => ?_)
    obtain ⟨w6, k⟩ := kk
    refine aw_goto (tgt := 23) d_X11_joined_19 rfl ?_
    exact aw_iret rfl d_X11_joined_23 ⟨Nat.le_refl _, Nat.le_refl _⟩ ⟨_, rfl, k⟩
theorem t_X11_rivals (d : Nat) (h : Hp_) (w : Wf h) (x1 : Int32) (K : Int32 → Hp_ → Prop) (k : Ci (m_X3_hasLost (d + 0) 0 0) [.ref 19, .int x1] h (fun r3 h1 => Wf h1 ∧ ((r3 = 0 → K (-1) h1) ∧ (¬ r3 = 0 → Ci (m_X3_foundFor (d + 4) 0 0) [.ref 19, .int x1] h1 (fun r7 h5 => Wf h5 ∧ (K r7 h5)))))) : Ci (m_X11_rivals (d + 5) 0 0) [.ref 0, .int x1] h K := by
  refine Ct.of (fun _ _ _ => trivial) pn_X11 (Nat.le_of_ble_eq_true rfl) ?_
  show AW (m_X11_rivals (d + 5) 0 0) 0 0 0 [(0, .ref 0), (1, .int x1)] [] h (kI K)
  refine aw_aload_n (i := 0) rfl d_X11_rivals_0 0 rfl ?_
  refine aw_getr (k0 := 11) kc_11 (ws_0 w) (Nat.le_of_ble_eq_true rfl) tw_498 d_X11_rivals_1 rfl (wr_0_11 w) ?_
  refine aw_iload_n (i := 1) rfl d_X11_rivals_4 1 rfl ?_
  refine aw_Vi 19 [.int x1] [] d_X11_rivals_5 (cV_X3_hasLost (d + 0) 0 0) kc_3 (ws_19 w) tw_1380 rfl (rr0 (Nat.le_of_ble_eq_true rfl) (Nat.le_of_ble_eq_true rfl)) (Nat.le_of_ble_eq_true rfl) xs0 k (fun r3 h1 kk => ?_)
  obtain ⟨w2, k⟩ := kk
  refine aw_if_eq (tgt := 22) d_X11_rivals_8 rfl (fun c4 => ?_) (fun c4 => ?_)
  · have k := k.1 c4
    refine aw_iconst (v := (-1)) d_X11_rivals_22 ic_m1 ?_
    exact aw_iret rfl d_X11_rivals_23 ⟨Nat.le_refl _, Nat.le_refl _⟩ ⟨_, rfl, k⟩
  · have k := k.2 c4
    refine aw_aload_n (i := 0) rfl d_X11_rivals_11 0 rfl ?_
    refine aw_getr (k0 := 11) kc_11 (ws_0 w2) (Nat.le_of_ble_eq_true rfl) tw_498 d_X11_rivals_12 rfl (wr_0_11 w2) ?_
    refine aw_iload_n (i := 1) rfl d_X11_rivals_15 1 rfl ?_
    refine aw_Vi 19 [.int x1] [] d_X11_rivals_16 (cV_X3_foundFor (d + 4) 0 0) kc_3 (ws_19 w2) tw_1393 rfl (rr0 (Nat.le_of_ble_eq_true rfl) (Nat.le_of_ble_eq_true rfl)) (Nat.le_of_ble_eq_true rfl) xs0 k (fun r7 h5 kk => ?_)
    obtain ⟨w6, k⟩ := kk
    refine aw_goto (tgt := 23) d_X11_rivals_19 rfl ?_
    exact aw_iret rfl d_X11_rivals_23 ⟨Nat.le_refl _, Nat.le_refl _⟩ ⟨_, rfl, k⟩
theorem t_X11_sure (d : Nat) (h : Hp_) (w : Wf h) (x1 : Int32) (K : Int32 → Hp_ → Prop) (k : Ci (m_X3_hasLost (d + 0) 0 0) [.ref 19, .int x1] h (fun r3 h1 => Wf h1 ∧ ((¬ r3 = 0 → Ci (m_X3_isSure (d + 4) 0 0) [.ref 19, .int x1] h1 (fun r7 h5 => Wf h5 ∧ ((r7 = 0 → K 0 h5) ∧ (¬ r7 = 0 → K 1 h5)))) ∧ (r3 = 0 → K (-1) h1)))) : Ci (m_X11_sure (d + 5) 0 0) [.ref 0, .int x1] h K := by
  refine Ct.of (fun _ _ _ => trivial) pn_X11 (Nat.le_of_ble_eq_true rfl) ?_
  show AW (m_X11_sure (d + 5) 0 0) 0 0 0 [(0, .ref 0), (1, .int x1)] [] h (kI K)
  refine aw_aload_n (i := 0) rfl d_X11_sure_0 0 rfl ?_
  refine aw_getr (k0 := 11) kc_11 (ws_0 w) (Nat.le_of_ble_eq_true rfl) tw_498 d_X11_sure_1 rfl (wr_0_11 w) ?_
  refine aw_iload_n (i := 1) rfl d_X11_sure_4 1 rfl ?_
  refine aw_Vi 19 [.int x1] [] d_X11_sure_5 (cV_X3_hasLost (d + 0) 0 0) kc_3 (ws_19 w) tw_1380 rfl (rr0 (Nat.le_of_ble_eq_true rfl) (Nat.le_of_ble_eq_true rfl)) (Nat.le_of_ble_eq_true rfl) xs0 k (fun r3 h1 kk => ?_)
  obtain ⟨w2, k⟩ := kk
  refine aw_if_ne (tgt := 13) d_X11_sure_8 rfl (fun c4 => ?_) (fun c4 => ?_)
  · have k := k.1 c4
    refine aw_aload_n (i := 0) rfl d_X11_sure_13 0 rfl ?_
    refine aw_getr (k0 := 11) kc_11 (ws_0 w2) (Nat.le_of_ble_eq_true rfl) tw_498 d_X11_sure_14 rfl (wr_0_11 w2) ?_
    refine aw_iload_n (i := 1) rfl d_X11_sure_17 1 rfl ?_
    refine aw_Vi 19 [.int x1] [] d_X11_sure_18 (cV_X3_isSure (d + 4) 0 0) kc_3 (ws_19 w2) tw_1401 rfl (rr0 (Nat.le_of_ble_eq_true rfl) (Nat.le_of_ble_eq_true rfl)) (Nat.le_of_ble_eq_true rfl) xs0 k (fun r7 h5 kk => ?_)
    obtain ⟨w6, k⟩ := kk
    refine aw_if_eq (tgt := 28) d_X11_sure_21 rfl (fun c8 => ?_) (fun c8 => ?_)
    · have k := k.1 c8
      refine aw_iconst (v := 0) d_X11_sure_28 ic_0 ?_
      exact aw_iret rfl d_X11_sure_29 ⟨Nat.le_refl _, Nat.le_refl _⟩ ⟨_, rfl, k⟩
    · have k := k.2 c8
      refine aw_iconst (v := 1) d_X11_sure_24 ic_1 ?_
      refine aw_goto (tgt := 29) d_X11_sure_25 rfl ?_
      exact aw_iret rfl d_X11_sure_29 ⟨Nat.le_refl _, Nat.le_refl _⟩ ⟨_, rfl, k⟩
  · have k := k.2 c4
    refine aw_iconst (v := (-1)) d_X11_sure_11 ic_m1 ?_
    exact aw_iret rfl d_X11_sure_12 ⟨Nat.le_refl _, Nat.le_refl _⟩ ⟨_, rfl, k⟩
end
section
/-! goods: how many marks are like, and the greatest sum -/
noncomputable def lkv : Nat → Int32 → Int32 → Int32 → Int32
  | 0, _, _, n => n
  | r + 1, a, b, n => lkv r (a / 10) (b / 10) (if a - a / 10 * 10 = b - b / 10 * 10 then n + 1 else n)
noncomputable def sbt (s : Int32) (f : Nat) : Int32 := s ||| ((1 : Int32) <<< (Int32.ofNat f &&& 31))
/-- the best of b and what the goods found from f on give -/
noncomputable def fv (g : Nat → Int32) (e : Int32) (nx : Int32 → Int32) (s : Int32) : Nat → Nat → Int32 → Int32
  | 0, _, b => b
  | n + 1, f, b => fv g e nx s n (f + 1) (if ((s >>> (Int32.ofNat f &&& 31)) &&& 1) = 0 ∧ ¬ g f < e then (if b < g f + nx (sbt s f) then g f + nx (sbt s f) else b) else b)
noncomputable def bv (G : Nat → Nat → Int32) (e : Int32) (F : Nat) : Nat → Nat → Int32 → Int32
  | 0, _, _ => 0
  | r + 1, l, s => fv (G l) e (bv G e F r (l + 1)) s F 0 (bv G e F r (l + 1) s)
/-- equal on what is looked at -/
theorem fv_eq {g g' : Nat → Int32} {e : Int32} {nx nx' : Int32 → Int32} {s : Int32} {F : Nat} (hg : ∀ f, f < F → g f = g' f) (hn : ∀ f, f < F → nx (sbt s f) = nx' (sbt s f)) : ∀ (n f : Nat) (b : Int32), f + n ≤ F → fv g e nx s n f b = fv g' e nx' s n f b
  | 0, _, _, _ => rfl
  | n + 1, f, b, l => by
    unfold fv
    rw [hg f (by omega), hn f (by omega)]
    exact fv_eq hg hn n (f + 1) _ (by omega)
theorem bv_eq {G G' : Nat → Nat → Int32} {e : Int32} {F M : Nat} (hG : ∀ l f, l < M → f < F → G l f = G' l f) : ∀ (r l : Nat) (s : Int32), l + r ≤ M → bv G e F r l s = bv G' e F r l s
  | 0, _, _, _ => rfl
  | r + 1, l, s, h => by
    unfold bv
    rw [bv_eq hG r (l + 1) s (by omega)]
    exact fv_eq (F := F) (fun f hf => hG l f (by omega) hf) (fun f _ => bv_eq hG r (l + 1) _ (by omega)) F 0 _ (by omega)
theorem sb_all : (List.range 256).all (fun s => (List.range 8).all (fun f => sbt (Int32.ofNat s) f == Int32.ofNat (s ||| 2 ^ f))) = true := by decide +kernel
theorem sb_in {s : Int32} {F f : Nat} (h0 : 0 ≤ s.toInt) (hs : s.toInt < ((2 ^ F : Nat) : Int)) (hF : F ≤ 8) (hf : f < F) : 0 ≤ (sbt s f).toInt ∧ (sbt s f).toInt < ((2 ^ F : Nat) : Int) := by
  have p8 : 2 ^ F ≤ 2 ^ 8 := Nat.pow_le_pow_right (by omega) hF
  have p8e : 2 ^ 8 = 256 := by decide
  have n := n_nat h0
  have es : s = Int32.ofNat s.toNatClampNeg := Int32.toInt_inj.mp (by rw [on_j (by omega)]; omega)
  have a := List.all_eq_true.mp sb_all s.toNatClampNeg (List.mem_range.mpr (by omega))
  have b := eq_of_beq (List.all_eq_true.mp a f (List.mem_range.mpr (by omega)))
  rw [← es] at b
  have o : s.toNatClampNeg ||| 2 ^ f < 2 ^ F := Nat.or_lt_two_pow (by omega) (Nat.pow_lt_pow_right (by omega) hf)
  rw [b, on_j (by omega)]
  omega
theorem c_alike (d : Nat) (h : Hp_) (x0 x1 : Int32) : Ci (m_X3_alike (d + 0) 0 0) [.int x0, .int x1] h (fun r h' => r = lkv 5 x0 x1 0 ∧ h' = h) := by
  have t1 : (1 : Int32).toInt = 1 := rfl
  have t5 : (5 : Int32).toInt = 5 := rfl
  have lp : ∀ (r : Nat) (x2 x3 x4 x5 : Int32), x5.toInt + r = 5 → 0 ≤ x5.toInt → AW (m_X3_alike (d + 0) 0 0) 0 0 10 [(2, .int x2), (3, .int x3), (4, .int x4), (5, .int x5)] [] h (kI (fun v h' => v = lkv r x3 x4 x2 ∧ h' = h)) := by
    intro r
    induction r with
    | zero =>
      intro x2 x3 x4 x5 e p
      exact t_X3_alike_10 d h x2 x3 x4 x5 _ ⟨fun _ => ⟨rfl, rfl⟩, fun z => absurd (q_le.mpr (by omega)) z⟩
    | succ r ih =>
      intro x2 x3 x4 x5 e p
      have e1 : (x5 + 1).toInt = x5.toInt + 1 := tx_add (by rw [t1]; omega) (by rw [t1]; omega)
      refine t_X3_alike_10 d h x2 x3 x4 x5 _ ⟨fun z => by have := q_le.mp z; omega, fun _ => ⟨fun n => ?_, fun y => ?_⟩⟩
      · have k := ih x2 (x3 / 10) (x4 / 10) (x5 + 1) (by omega) (by omega)
        unfold lkv
        rw [if_neg n]
        exact k
      · have k := ih (x2 + 1) (x3 / 10) (x4 / 10) (x5 + 1) (by omega) (by omega)
        unfold lkv
        rw [if_pos y]
        exact k
  exact t_X3_alike d h x0 x1 _ (lp 5 0 x0 x1 0 (by decide) (by decide))
theorem c_likeM (d : Nat) {h : Hp_} (w : Wf h) (x1 x2 : Int32) (v1 : vp_in x1 8) (v2 : vp_in x2 8) : Ci (m_X12_like (d + 0) 0 0) [.ref 1, .int x1, .int x2] h (fun r h' => r = lkv 5 (h_i h 278 x1.toNatClampNeg) (h_i h 279 x2.toNatClampNeg) 0 ∧ h' = h) := by
  have t1 : (1 : Int32).toInt = 1 := rfl
  have t5 : (5 : Int32).toInt = 5 := rfl
  have lp : ∀ (r : Nat) (x3 x4 x5 x6 : Int32), x6.toInt + r = 5 → 0 ≤ x6.toInt → AW (m_X12_like (d + 0) 0 0) 0 0 21 [(3, .int x3), (4, .int x4), (5, .int x5), (6, .int x6)] [] h (kI (fun v h' => v = lkv r x3 x4 x5 ∧ h' = h)) := by
    intro r
    induction r with
    | zero =>
      intro x3 x4 x5 x6 e p
      exact t_X12_like_21 d h x3 x4 x5 x6 _ ⟨fun _ => ⟨rfl, rfl⟩, fun z => absurd (q_le.mpr (by omega)) z⟩
    | succ r ih =>
      intro x3 x4 x5 x6 e p
      have e1 : (x6 + 1).toInt = x6.toInt + 1 := tx_add (by rw [t1]; omega) (by rw [t1]; omega)
      refine t_X12_like_21 d h x3 x4 x5 x6 _ ⟨fun z => by have := q_le.mp z; omega, fun _ => ⟨fun n => ?_, fun y => ?_⟩⟩
      · have k := ih (x3 / 10) (x4 / 10) x5 (x6 + 1) (by omega) (by omega)
        unfold lkv
        rw [if_neg n, Int32.add_zero]
        exact k
      · have k := ih (x3 / 10) (x4 / 10) (x5 + 1) (x6 + 1) (by omega) (by omega)
        unfold lkv
        rw [if_pos y]
        exact k
  exact t_X12_like d h w x1 x2 _ ⟨v1, v2, lp 5 _ _ 0 0 (by decide) (by decide)⟩
/-- the gains of the class -/
noncomputable def Gn (e : Int32) (L F : Nat) (h : Hp_) : Prop := ∀ i f, i < L → f < F → h_i h 87 (8 * i + f) = if lkv 5 (h_i h 85 i) (h_i h 86 f) 0 < e then 0 else lkv 5 (h_i h 85 i) (h_i h 86 f) 0
theorem i64 {x1 x2 : Int32} {i f : Nat} (e1 : x1.toInt = (i : Int)) (e2 : x2.toInt = (f : Int)) (h1 : i < 8) (h2 : f < 8) : ((x1 * 8) + x2).toNatClampNeg = 8 * i + f ∧ vp_in ((x1 * 8) + x2) 64 := by
  have t8 : (8 : Int32).toInt = 8 := rfl
  have a : (x1 * 8).toInt = x1.toInt * 8 := by rw [tx_mul (by rw [t8]; omega) (by rw [t8]; omega), t8]
  have b : (x1 * 8 + x2).toInt = x1.toInt * 8 + x2.toInt := by rw [tx_add (by omega) (by omega), a]
  have n := n_nat (x := x1 * 8 + x2) (by omega)
  exact ⟨by omega, dp_in (lo := 0) (hi := 63) ⟨by show (0 : Int) ≤ _; omega, by show _ ≤ (63 : Int); omega⟩ (by decide) (by decide)⟩
theorem fg_in (d : Nat) (h0 : Hp_) (L F : Nat) (hL : L ≤ 8) (hF : F ≤ 8) (i : Nat) (hi : i < L) (x1 : Int32) (e1 : x1.toInt = (i : Int)) (K : Hp_ → Prop)
    (O : ∀ h, Iv h → Fr [87999] h0 h → (∀ j f, j < i + 1 → f < F → h_i h 87 (8 * j + f) = if lkv 5 (h_i h0 85 j) (h_i h0 86 f) 0 < h_i h0 19 4 then 0 else lkv 5 (h_i h0 85 j) (h_i h0 86 f) 0) → AW (m_X3_fillGains (d + 1) 0 0) 0 0 2 [(0, .ref 19), (1, .int (x1 + 1))] [] h (kV K)) (eF : (h_i h0 19 3).toInt = (F : Int)) :
    ∀ (n f : Nat) (x2 : Int32) (h : Hp_), x2.toInt = (f : Int) → f + n = F → Iv h → Fr [87999] h0 h → (∀ j g, (j < i ∧ g < F) ∨ (j = i ∧ g < f) → h_i h 87 (8 * j + g) = if lkv 5 (h_i h0 85 j) (h_i h0 86 g) 0 < h_i h0 19 4 then 0 else lkv 5 (h_i h0 85 j) (h_i h0 86 g) 0) → AW (m_X3_fillGains (d + 1) 0 0) 0 0 12 [(0, .ref 19), (1, .int x1), (2, .int x2)] [] h (kV K) := by
  have t1 : (1 : Int32).toInt = 1 := rfl
  intro n
  induction n with
  | zero =>
    intro f x2 h e2 en I Fh P
    have e3 : h_i h 19 3 = h_i h0 19 3 := (Fh.2 19 3 (by decide +kernel)).1
    refine t_X3_fillGains_12 d h I.1 x1 x2 K ⟨fun _ => O h I Fh (fun j g hj hg => P j g ?_), fun z => absurd (q_le.mpr (by rw [e3]; omega)) z⟩
    rcases Nat.lt_or_ge j i with u | u
    · exact Or.inl ⟨u, hg⟩
    · exact Or.inr ⟨by omega, by omega⟩
  | succ n ih =>
    intro f x2 h e2 en I Fh P
    have e3 : h_i h 19 3 = h_i h0 19 3 := (Fh.2 19 3 (by decide +kernel)).1
    have e4 : h_i h 19 4 = h_i h0 19 4 := (Fh.2 19 4 (by decide +kernel)).1
    have a5 : ∀ k, h_i h 85 k = h_i h0 85 k := fun k => fr_i Fh (by decide +kernel) k
    have a6 : ∀ k, h_i h 86 k = h_i h0 86 k := fun k => fr_i Fh (by decide +kernel) k
    have e5 : (x2 + 1).toInt = ((f + 1 : Nat) : Int) := by rw [tx_add (by rw [t1]; omega) (by rw [t1]; omega), t1]; omega
    have n1 := n_nat (x := x1) (by omega)
    have n2 := n_nat (x := x2) (by omega)
    have m1 : x1.toNatClampNeg = i := by omega
    have m2 : x2.toNatClampNeg = f := by omega
    have j := i64 e1 e2 (by omega) (by omega)
    have v1 : vp_in x1 8 := dp_in (lo := 0) (hi := 7) ⟨by show (0 : Int) ≤ _; omega, by show _ ≤ (7 : Int); omega⟩ (by decide) (by decide)
    have v2 : vp_in x2 8 := dp_in (lo := 0) (hi := 7) ⟨by show (0 : Int) ≤ _; omega, by show _ ≤ (7 : Int); omega⟩ (by decide) (by decide)
    refine t_X3_fillGains_12 d h I.1 x1 x2 K ⟨fun z => by have := q_le.mp z; rw [e3] at this; omega, fun _ => ⟨v1, v2, Ci.mono (c_alike d h _ _) (fun r h5 q => ?_)⟩⟩
    obtain ⟨er, eh⟩ := q
    subst eh
    rw [m1, m2, a5, a6] at er
    have st : ∀ v, v = (if lkv 5 (h_i h0 85 i) (h_i h0 86 f) 0 < h_i h0 19 4 then 0 else lkv 5 (h_i h0 85 i) (h_i h0 86 f) 0) → AW (m_X3_fillGains (d + 1) 0 0) 0 0 12 [(0, .ref 19), (1, .int x1), (2, .int (x2 + 1))] [] (h_im h5 87 ((x1 * 8) + x2).toNatClampNeg v) (kV K) := by
      intro v ev
      refine ih (f + 1) (x2 + 1) _ e5 (by omega) (tr_ 87 (by decide +kernel) I _ _ (by decide) (by decide)) (Fh.im (inw_row (by decide +kernel) _)) (fun jj g hg => ?_)
      rw [j.1, h_i_im]
      by_cases c : 87 = 87 ∧ 8 * jj + g = 8 * i + f
      · rw [if_pos c]
        have u : jj = i ∧ g = f := by omega
        rw [u.1, u.2]
        exact ev
      · rw [if_neg c]
        refine P jj g ?_
        rcases hg with u | u
        · exact Or.inl u
        · exact Or.inr ⟨u.1, by
            rcases Nat.lt_or_ge g f with w | w
            · exact w
            · exact absurd ⟨rfl, by omega⟩ c⟩
    refine ⟨I.1, fun z => ⟨j.2, st 0 ?_⟩, fun z => ⟨j.2, st r ?_⟩⟩
    · rw [er, e4] at z
      rw [if_pos z]
    · rw [er, e4] at z
      rw [if_neg z]
      exact er
theorem c_fillGains (d : Nat) {h : Hp_} (I : Iv h) {L F : Nat} (hL : L ≤ 8) (hF : F ≤ 8) (eL : (h_i h 19 2).toInt = (L : Int)) (eF : (h_i h 19 3).toInt = (F : Int)) : Cv (m_X3_fillGains (d + 1) 0 0) [.ref 19] h (fun h' => Iv h' ∧ Fr [87999] h h' ∧ Gn (h_i h 19 4) L F h') := by
  have t1 : (1 : Int32).toInt = 1 := rfl
  have fin : ∀ h', Fr [87999] h h' → (∀ j f, j < L → f < F → h_i h' 87 (8 * j + f) = if lkv 5 (h_i h 85 j) (h_i h 86 f) 0 < h_i h 19 4 then 0 else lkv 5 (h_i h 85 j) (h_i h 86 f) 0) → Gn (h_i h 19 4) L F h' := fun h' f P i g hi hg => by
    rw [fr_i f (a := 85) (by decide +kernel) i, fr_i f (a := 86) (by decide +kernel) g]
    exact P i g hi hg
  have lp : ∀ (n i : Nat) (x1 : Int32) (h' : Hp_), x1.toInt = (i : Int) → i + n = L → Iv h' → Fr [87999] h h' → (∀ j f, j < i → f < F → h_i h' 87 (8 * j + f) = if lkv 5 (h_i h 85 j) (h_i h 86 f) 0 < h_i h 19 4 then 0 else lkv 5 (h_i h 85 j) (h_i h 86 f) 0) → AW (m_X3_fillGains (d + 1) 0 0) 0 0 2 [(0, .ref 19), (1, .int x1)] [] h' (kV (fun h' => Iv h' ∧ Fr [87999] h h' ∧ Gn (h_i h 19 4) L F h')) := by
    intro n
    induction n with
    | zero =>
      intro i x1 h' e1 en I' Fh P
      have e3 : h_i h' 19 2 = h_i h 19 2 := (Fh.2 19 2 (by decide +kernel)).1
      exact t_X3_fillGains_2 d h' I'.1 x1 _ ⟨fun _ => ⟨I', Fh, fin h' Fh (fun j f hj hf => P j f (by omega) hf)⟩, fun z => absurd (q_le.mpr (by rw [e3]; omega)) z⟩
    | succ n ih =>
      intro i x1 h' e1 en I' Fh P
      have e3 : h_i h' 19 2 = h_i h 19 2 := (Fh.2 19 2 (by decide +kernel)).1
      have e5 : (x1 + 1).toInt = ((i + 1 : Nat) : Int) := by rw [tx_add (by rw [t1]; omega) (by rw [t1]; omega), t1]; omega
      refine t_X3_fillGains_2 d h' I'.1 x1 _ ⟨fun z => by have := q_le.mp z; rw [e3] at this; omega, fun _ => ?_⟩
      refine fg_in d h L F hL hF i (by omega) x1 e1 _ (fun h9 I9 F9 P9 => ih (i + 1) (x1 + 1) h9 e5 (by omega) I9 F9 P9) eF F 0 0 h' rfl (by omega) I' Fh (fun j g hg => ?_)
      rcases hg with u | u
      · exact P j g u.1 u.2
      · exact absurd u.2 (by omega)
  exact t_X3_fillGains d h _ (lp L 0 0 h rfl (by omega) I (Fr.rf _ _) (fun j f hj _ => absurd hj (by omega)))
theorem f_le {h : Hp_} {c f : Nat} {n : Int} (I : Iv h) (e : tf c f = (0, n)) : 0 ≤ (h_i h c f).toInt ∧ (h_i h c f).toInt ≤ n := by
  have rg := I.2.1 c f
  rw [e] at rg
  exact ⟨rg.1, rg.2⟩
noncomputable def gG (h : Hp_) : Nat → Nat → Int32 := fun l f => lkv 5 (h_i h 85 l) (h_i h 86 f) 0
theorem i2304 {x2 x3 : Int32} {i : Nat} (e : x2.toInt = (i : Int)) (hi : i ≤ 8) (h0 : 0 ≤ x3.toInt) (h1 : x3.toInt < 256) : ((x2 * 256) + x3).toNatClampNeg = 256 * i + x3.toNatClampNeg ∧ vp_in ((x2 * 256) + x3) 2304 ∧ ((256 * x2) + x3).toNatClampNeg = 256 * i + x3.toNatClampNeg ∧ vp_in ((256 * x2) + x3) 2304 := by
  have t : (256 : Int32).toInt = 256 := rfl
  have a : (x2 * 256).toInt = x2.toInt * 256 := by rw [tx_mul (by rw [t]; omega) (by rw [t]; omega), t]
  have a' : (256 * x2).toInt = 256 * x2.toInt := by rw [tx_mul (by rw [t]; omega) (by rw [t]; omega), t]
  have b : (x2 * 256 + x3).toInt = x2.toInt * 256 + x3.toInt := by rw [tx_add (by omega) (by omega), a]
  have b' : (256 * x2 + x3).toInt = 256 * x2.toInt + x3.toInt := by rw [tx_add (by omega) (by omega), a']
  have n := n_nat (x := x2 * 256 + x3) (by omega)
  have n' := n_nat (x := 256 * x2 + x3) (by omega)
  have m := n_nat (x := x3) h0
  exact ⟨by omega, dp_in (lo := 0) (hi := 2303) ⟨by show (0 : Int) ≤ _; omega, by show _ ≤ (2303 : Int); omega⟩ (by decide) (by decide), by omega, dp_in (lo := 0) (hi := 2303) ⟨by show (0 : Int) ≤ _; omega, by show _ ≤ (2303 : Int); omega⟩ (by decide) (by decide)⟩
theorem p2_8 {F : Nat} (h : F ≤ 8) : 2 ^ F ≤ 256 ∧ 1 ≤ 2 ^ F := by
  have a : 2 ^ F ≤ 2 ^ 8 := Nat.pow_le_pow_right (by omega) h
  have b : 2 ^ 8 = 256 := by decide
  have c : 0 < 2 ^ F := Nat.pos_of_ne_zero (by simp)
  omega
theorem fb_f (d : Nat) {h : Hp_} (I : Iv h) {G : Nat → Nat → Int32} {e : Int32} {F i : Nat} (hF : F ≤ 8) (hi : i < 8) (he : 1 ≤ e.toInt) (nx : Int32 → Int32) (x1 x2 x3 : Int32) (e2 : x2.toInt = (i : Int)) (p0 : 0 ≤ x3.toInt) (p1 : x3.toInt < ((2 ^ F : Nat) : Int)) (eF : (h_i h 19 3).toInt = (F : Int)) (Gh : ∀ f, f < F → h_i h 87 (8 * i + f) = if G i f < e then 0 else G i f) (T : ∀ s : Int32, 0 ≤ s.toInt → s.toInt < ((2 ^ F : Nat) : Int) → h_i h 88 (256 * (i + 1) + s.toNatClampNeg) = nx s) (K : Hp_ → Prop) :
    ∀ (n f : Nat) (x4 : Int32), f + n = F → AW (m_X3_fillBest (d + 1) 0 0) 0 0 28 [(0, .ref 19), (1, .int x1), (2, .int x2), (3, .int (x3 + 1))] [] (h_im h 88 ((x2 * 256) + x3).toNatClampNeg (fv (G i) e nx x3 n f x4)) (kV K) → AW (m_X3_fillBest (d + 1) 0 0) 0 0 52 [(0, .ref 19), (1, .int x1), (2, .int x2), (3, .int x3), (4, .int x4), (5, .int (Int32.ofNat f))] [] h (kV K) := by
  have t1 : (1 : Int32).toInt = 1 := rfl
  have t0 : (0 : Int32).toInt = 0 := rfl
  have p8 := p2_8 hF
  have jj := i2304 e2 (by omega) p0 (by omega)
  intro n
  induction n with
  | zero =>
    intro f x4 en O
    exact t_X3_fillBest_52 d h I.1 x1 x2 x3 x4 (Int32.ofNat f) K ⟨fun _ => ⟨jj.2.1, O⟩, fun z => absurd (q_le.mpr (by rw [eF, on_j (by omega)]; omega)) z⟩
  | succ n ih =>
    intro f x4 en O
    have ef : (Int32.ofNat f).toInt = (f : Int) := on_j (by omega)
    have j := i64 e2 ef hi (by omega)
    have gh := Gh f (by omega)
    unfold fv at O
    have no : ¬ (((x3 >>> (Int32.ofNat f &&& 31)) &&& 1) = 0 ∧ ¬ G i f < e) → AW (m_X3_fillBest (d + 1) 0 0) 0 0 52 [(0, .ref 19), (1, .int x1), (2, .int x2), (3, .int x3), (4, .int x4), (5, .int (Int32.ofNat f + 1))] [] h (kV K) := fun nn => by
      rw [if_neg nn] at O
      rw [on_s (by omega)]
      exact ih (f + 1) x4 (by omega) O
    refine t_X3_fillBest_52 d h I.1 x1 x2 x3 x4 (Int32.ofNat f) K ⟨fun z => by have := q_le.mp z; rw [eF, ef] at this; omega, fun _ => ?_⟩
    refine t_X3_canJoin d h I.1 x2 (Int32.ofNat f) x3 _ ⟨fun nb => ⟨I.1, fun _ => no (fun w => nb w.1), fun w => absurd rfl w⟩, fun fb => ⟨j.2, fun g0 => ⟨I.1, fun _ => no (fun w => ?_), fun w => absurd rfl w⟩, fun g1 => ⟨I.1, fun w => absurd w (by decide), fun _ => ?_⟩⟩⟩
    · rw [j.1, gh, if_neg w.2] at g0
      have u := q_nlt w.2
      have v := q_le.mp g0
      omega
    · have ng : ¬ G i f < e := fun w => by
        rw [j.1, gh, if_pos w] at g1
        exact g1 (q_le.mpr (by omega))
      have sb := sb_in p0 p1 hF (f := f) (by omega)
      have e21 : (x2 + 1).toInt = ((i + 1 : Nat) : Int) := by rw [tx_add (by rw [t1]; omega) (by rw [t1]; omega), t1]; omega
      have k2 := i2304 (x2 := x2 + 1) (x3 := sbt x3 f) e21 (by omega) sb.1 (by omega)
      have er : h_i h 87 ((x2 * 8) + Int32.ofNat f).toNatClampNeg + h_i h 88 (((x2 + 1) * 256) + (x3 ||| ((1 : Int32) <<< (Int32.ofNat f &&& 31)))).toNatClampNeg = G i f + nx (sbt x3 f) := by
        rw [j.1, gh, if_neg ng]
        have k3 := k2.1
        unfold sbt at k3
        rw [k3]
        have k4 := T (sbt x3 f) sb.1 sb.2
        unfold sbt at k4 ⊢
        rw [k4]
      refine t_X3_sumWith d h I.1 x2 (Int32.ofNat f) x3 _ ⟨j.2, k2.2.1, I.1, ?_⟩
      rw [er, on_s (by omega)]
      rw [if_pos ⟨fb, ng⟩] at O
      exact ih (f + 1) _ (by omega) O
noncomputable def Tb (G : Nat → Nat → Int32) (e : Int32) (F L : Nat) (c : Nat) (h : Hp_) (i : Nat) : Prop := ∀ (j : Nat) (s : Int32), i ≤ j → j ≤ L → 0 ≤ s.toInt → s.toInt < ((2 ^ F : Nat) : Int) → h_i h c (256 * j + s.toNatClampNeg) = bv G e F (L - j) j s
theorem fb_s (d : Nat) (h0 : Hp_) {G : Nat → Nat → Int32} {e : Int32} {F L i : Nat} (hF : F ≤ 8) (hL : L ≤ 8) (hi : i < L) (he : 1 ≤ e.toInt) (x1 x2 : Int32) (e1 : x1.toInt = ((2 ^ F : Nat) : Int)) (e2 : x2.toInt = (i : Int)) (eF : (h_i h0 19 3).toInt = (F : Int)) (Gh : ∀ i f, i < L → f < F → h_i h0 87 (8 * i + f) = if G i f < e then 0 else G i f) (K : Hp_ → Prop) (O : ∀ h, Iv h → Fr [88999] h0 h → Tb G e F L 88 h i → AW (m_X3_fillBest (d + 1) 0 0) 0 0 22 [(0, .ref 19), (1, .int x1), (2, .int (x2 + (-1)))] [] h (kV K)) :
    ∀ (m : Nat) (x3 : Int32) (h : Hp_), 0 ≤ x3.toInt → x3.toInt + m = ((2 ^ F : Nat) : Int) → Iv h → Fr [88999] h0 h → Tb G e F L 88 h (i + 1) → (∀ s : Int32, 0 ≤ s.toInt → s.toInt < x3.toInt → h_i h 88 (256 * i + s.toNatClampNeg) = bv G e F (L - i) i s) → AW (m_X3_fillBest (d + 1) 0 0) 0 0 28 [(0, .ref 19), (1, .int x1), (2, .int x2), (3, .int x3)] [] h (kV K) := by
  have t1 : (1 : Int32).toInt = 1 := rfl
  have p8 := p2_8 hF
  intro m
  induction m with
  | zero =>
    intro x3 h p0 p1 I Fh T P
    refine t_X3_fillBest_28 d h I.1 x1 x2 x3 K ⟨fun _ => O h I Fh (fun j s hj hL' s0 s1 => ?_), fun z => absurd (q_le.mpr (by omega)) z⟩
    rcases Nat.lt_or_ge i j with u | u
    · exact T j s u hL' s0 s1
    · have ej : j = i := by omega
      rw [ej]
      exact P s s0 (by omega)
  | succ m ih =>
    intro x3 h p0 p1 I Fh T P
    have e3 : (x3 + 1).toInt = x3.toInt + 1 := tx_add (by rw [t1]; omega) (by rw [t1]; omega)
    have e21 : (x2 + 1).toInt = ((i + 1 : Nat) : Int) := by rw [tx_add (by rw [t1]; omega) (by rw [t1]; omega), t1]; omega
    have k1 := i2304 (x2 := x2 + 1) (x3 := x3) e21 (by omega) p0 (by omega)
    have k0 := i2304 (x2 := x2) (x3 := x3) e2 (by omega) p0 (by omega)
    have hb : h_i h 88 (((x2 + 1) * 256) + x3).toNatClampNeg = bv G e F (L - (i + 1)) (i + 1) x3 := by
      rw [k1.1]
      exact T (i + 1) x3 (Nat.le_refl _) (by omega) p0 (by omega)
    have eb : bv G e F (L - i) i x3 = fv (G i) e (bv G e F (L - (i + 1)) (i + 1)) x3 F 0 (bv G e F (L - (i + 1)) (i + 1) x3) := by
      rw [show L - i = (L - (i + 1)) + 1 by omega]
      rfl
    refine t_X3_fillBest_28 d h I.1 x1 x2 x3 K ⟨fun z => by have := q_le.mp z; omega, fun _ => ⟨k1.2.1, ?_⟩⟩
    rw [hb]
    refine fb_f d I (G := G) (e := e) (F := F) (i := i) hF (by omega) he (bv G e F (L - (i + 1)) (i + 1)) x1 x2 x3 e2 p0 (by omega) (by rw [(Fh.2 19 3 (by decide +kernel)).1]; exact eF) (fun f hf => by rw [fr_i Fh (a := 87) (by decide +kernel)]; exact Gh i f hi hf) (fun s s0 s1 => T (i + 1) s (Nat.le_refl _) (by omega) s0 s1) K F 0 _ (by omega) ?_
    rw [← eb, k0.1]
    have n3 := n_nat (x := x3) p0
    refine ih (x3 + 1) _ (by omega) (by omega) (tr_ 88 (by decide +kernel) I _ _ (by decide) (by decide)) (Fh.im (inw_row (by decide +kernel) _)) (fun j s hj hL' s0 s1 => ?_) (fun s s0 s1 => ?_)
    · have ns := n_nat (x := s) s0
      rw [h_i_im, if_neg (fun c => by have := c.2; omega)]
      exact T j s hj hL' s0 s1
    · have ns := n_nat (x := s) s0
      rw [h_i_im]
      by_cases c : s.toInt = x3.toInt
      · have es : s = x3 := Int32.toInt_inj.mp c
        rw [if_pos ⟨rfl, by rw [es]⟩, es]
      · rw [if_neg (fun c' => by have := c'.2; omega)]
        exact P s s0 (by omega)
theorem sh_all : (List.range 9).all (fun F => ((1 : Int32) <<< (Int32.ofNat F &&& 31)).toInt == ((2 ^ F : Nat) : Int)) = true := by decide +kernel
theorem fb_i (d : Nat) (h0 hA : Hp_) {G : Nat → Nat → Int32} {e : Int32} {F L : Nat} (hF : F ≤ 8) (hL : L ≤ 8) (he : 1 ≤ e.toInt) (y1 : Int32) (ex1 : y1.toInt = ((2 ^ F : Nat) : Int)) (eF : (h_i h0 19 3).toInt = (F : Int)) (Gh : ∀ i f, i < L → f < F → h_i h0 87 (8 * i + f) = if G i f < e then 0 else G i f) (FA : Fr [88999] hA h0) :
    ∀ (r : Nat) (x2 : Int32) (h' : Hp_), x2.toInt = (r : Int) - 1 → r ≤ L → Iv h' → Fr [88999] h0 h' → Tb G e F L 88 h' r → AW (m_X3_fillBest (d + 1) 0 0) 0 0 22 [(0, .ref 19), (1, .int y1), (2, .int x2)] [] h' (kV (fun h' => Iv h' ∧ Fr [88999] hA h' ∧ Tb G e F L 88 h' 0))
  | 0, x2, h', ee, _, I', Fh, T => t_X3_fillBest_22 d h' _ x2 _ ⟨fun _ => ⟨I', FA.tr Fh, T⟩, fun z => absurd (q_lt.mpr (show x2.toInt < 0 by rw [ee]; decide)) z⟩
  | r + 1, x2, h', ee, rl, I', Fh, T => by
    have er : x2.toInt = (r : Int) := by rw [ee]; exact (show ((r : Int) + 1) - 1 = (r : Int) from Int.add_sub_cancel _ _)
    have tm : (-1 : Int32).toInt = -1 := rfl
    have lr : (r : Int) ≤ 8 := Int.ofNat_le.mpr (Nat.le_trans (Nat.le_of_succ_le rl) hL)
    have nr : (0 : Int) ≤ (r : Int) := Int.natCast_nonneg r
    have e4 : (x2 + (-1)).toInt = (r : Int) - 1 := by
      rw [tx_add (by rw [tm, er]; exact Int.le_trans (by decide) (Int.add_le_add_right nr (-1))) (by rw [tm, er]; exact Int.lt_of_le_of_lt (Int.add_le_add_right lr (-1)) (by decide)), tm, er]
      rfl
    refine t_X3_fillBest_22 d h' _ x2 _ ⟨fun z => absurd (q_lt.mp z) (by rw [er]; exact Int.not_lt.mpr nr), fun _ => ?_⟩
    exact fb_s d h0 (G := G) (e := e) (F := F) (L := L) (i := r) hF hL rl he y1 x2 ex1 er eF Gh _ (fun h9 I9 F9 T9 => fb_i d h0 hA hF hL he y1 ex1 eF Gh FA r (x2 + (-1)) h9 e4 (Nat.le_of_succ_le rl) I9 F9 T9) (2 ^ F) 0 h' (by decide) (Int.zero_add _) I' Fh T (fun s s0 s1 => absurd s1 (Int.not_lt.mpr s0))
theorem c_fillBest (d : Nat) {h : Hp_} (I : Iv h) {L F : Nat} (hL : L ≤ 8) (hF : F ≤ 8) (he : 1 ≤ (h_i h 19 4).toInt) (eL : (h_i h 19 2).toInt = (L : Int)) (eF : (h_i h 19 3).toInt = (F : Int)) (Gh : Gn (h_i h 19 4) L F h) : Cv (m_X3_fillBest (d + 1) 0 0) [.ref 19] h (fun h' => Iv h' ∧ Fr [88999] h h' ∧ Tb (gG h) (h_i h 19 4) F L 88 h' 0) := by
  have t1 : (1 : Int32).toInt = 1 := rfl
  have tm : (-1 : Int32).toInt = -1 := rfl
  have p8 := p2_8 hF
  refine t_X3_fillBest d h I.1 _ (Cv.mono (s_J7_fill d h 88 2304 0 (ws_88 I.1) (by decide)) (fun h1 q => ?_))
  have I1 : Iv h1 := by rw [q]; exact I.iw (fun k => by rw [tfa_tf (show tfa 88 = some rtop by decide +kernel)]; exact rtop_in _) (by decide) (by decide)
  have F1 : Fr [88999] h h1 := by rw [q]; exact (Fr.rf _ _).iw (by decide +kernel)
  have Z1 : ∀ k, k < 2304 → h_i h1 88 k = 0 := fun k hk => by rw [q, h_i_iw, if_pos rfl]; unfold fl_; rw [if_pos hk]
  have e3 : h_i h1 19 3 = h_i h 19 3 := (F1.2 19 3 (by decide +kernel)).1
  have e2 : h_i h1 19 2 = h_i h 19 2 := (F1.2 19 2 (by decide +kernel)).1
  have e3n : h_i h1 19 3 = Int32.ofNat F := Int32.toInt_inj.mp (by rw [e3, on_j (by omega)]; exact eF)
  have ex1 : ((1 : Int32) <<< ((h_i h1 19 3) &&& 31)).toInt = ((2 ^ F : Nat) : Int) := by
    rw [e3n]
    exact eq_of_beq (List.all_eq_true.mp sh_all F (List.mem_range.mpr (by omega)))
  have e2L : (h_i h1 19 2).toInt = (L : Int) := by rw [e2]; exact eL
  generalize ((1 : Int32) <<< ((h_i h1 19 3) &&& 31)) = y1 at ex1 ⊢
  have ex2 : ((h_i h1 19 2) - 1).toInt = (L : Int) - 1 := by rw [tx_sub (by rw [t1]; omega) (by rw [t1]; omega), t1, e2L]
  refine ⟨I1.1, fb_i d h1 h hF hL he y1 ex1 (by rw [e3]; exact eF) (fun i f hi hf => by rw [fr_i F1 (a := 87) (by decide +kernel)]; exact Gh i f hi hf) F1 L _ h1 ex2 (Nat.le_refl _) I1 (Fr.rf _ _) (fun j s hj hl s0 s1 => ?_)⟩
  have ns := n_nat (x := s) s0
  rw [Z1 _ (by omega), show L - j = 0 by omega]
  rfl
/-- the greatest sum, by the class's goods -/
noncomputable def bX (h : Hp_) : Int32 := bv (gG h) (h_i h 19 4) (h_i h 19 3).toNatClampNeg (h_i h 19 2).toNatClampNeg 0 0
noncomputable def Gx (h : Hp_) : Prop := (1 ≤ (h_i h 19 4).toInt) ∧ (h_i h 19 5 = 0 → h_i h 88 0 = bX h)
theorem bX_fr {ws : List Nat} {h h' : Hp_} (f : Fr ws h h') (o : (off ws 85 && off ws 86 && (!inw ws 19 2 && !inw ws 19 3 && !inw ws 19 4)) = true) : bX h' = bX h := by
  simp only [Bool.and_eq_true, Bool.not_eq_true'] at o
  unfold bX gG
  rw [(f.2 19 2 o.2.1.1).1, (f.2 19 3 o.2.1.2).1, (f.2 19 4 o.2.2).1, show h_i h' 85 = h_i h 85 from funext (fun k => fr_i f o.1.1 k), show h_i h' 86 = h_i h 86 from funext (fun k => fr_i f o.1.2 k)]
theorem c_solve (d : Nat) {h : Hp_} (I : Iv h) (g : Gx h) : Cv (m_X3_solve (d + 3) 0 0) [.ref 19] h (fun h' => Iv h' ∧ Fr [19005, 87999, 88999, 89999, 90999, 91999] h h' ∧ h_i h' 19 5 = 0 ∧ h_i h' 88 0 = bX h) := by
  have b2 := f_le (c := 19) (f := 2) (n := 8) I (by decide +kernel)
  have b3 := f_le (c := 19) (f := 3) (n := 8) I (by decide +kernel)
  have n2 := n_nat (x := h_i h 19 2) b2.1
  have n3 := n_nat (x := h_i h 19 3) b3.1
  refine t_X3_solve d h I.1 _ ⟨fun z => ⟨I, Fr.rf _ _, z, g.2 z⟩, fun _ => ?_⟩
  refine Cv.mono (c_fillGains d I (L := (h_i h 19 2).toNatClampNeg) (F := (h_i h 19 3).toNatClampNeg) (by omega) (by omega) n2.symm n3.symm) (fun h2 q => ?_)
  obtain ⟨I2, F2, G2⟩ := q
  have e2 : h_i h2 19 2 = h_i h 19 2 := (F2.2 19 2 (by decide +kernel)).1
  have e3 : h_i h2 19 3 = h_i h 19 3 := (F2.2 19 3 (by decide +kernel)).1
  have e4 : h_i h2 19 4 = h_i h 19 4 := (F2.2 19 4 (by decide +kernel)).1
  refine ⟨I2.1, Cv.mono (c_fillBest d I2 (L := (h_i h 19 2).toNatClampNeg) (F := (h_i h 19 3).toNatClampNeg) (by omega) (by omega) (by rw [e4]; exact g.1) (by rw [e2]; exact n2.symm) (by rw [e3]; exact n3.symm) (by rw [e4]; exact G2)) (fun h5 q => ?_)⟩
  obtain ⟨I5, F5, T5⟩ := q
  have z5 : h_i h5 88 0 = bX h := by
    have t := T5 0 0 (Nat.le_refl _) (Nat.zero_le _) (by decide) (by have p := (p2_8 (F := (h_i h 19 3).toNatClampNeg) (by omega)).2; show (0 : Int) < _; omega)
    have u : bX h2 = bX h := bX_fr F2 (by decide +kernel)
    rw [← u]
    unfold bX
    rw [e2, e3]
    exact t
  refine ⟨I5.1, Ct.mono (hc_X3_fillChoices d [.ref 19] h5 ⟨rfl, trivial⟩ I5 (fun _ y => (nomatch y))) (fun v h8 k => ?_)⟩
  obtain ⟨I8, F8, _, e8⟩ := k
  refine ⟨e8, I8.1, Ct.mono (hc_X3_fillFirst d [.ref 19] h8 ⟨rfl, trivial⟩ I8 (fun _ y => (nomatch y))) (fun v h11 k => ?_)⟩
  obtain ⟨I11, F11, _, e11⟩ := k
  refine ⟨e11, I11.1, I11.im (by rw [show tf 19 5 = (0, 1) by decide +kernel]; exact ⟨by decide, by decide⟩) (by decide), ((((F2.more (b := [19005, 87999, 88999, 89999, 90999, 91999]) (by decide +kernel)).tr (F5.more (by decide +kernel))).tr (F8.more (by decide +kernel))).tr (F11.more (by decide +kernel))).im (by decide +kernel), im_at, ?_⟩
  rw [im_ne (by decide), fr_i F11 (a := 88) (by decide +kernel), fr_i F8 (a := 88) (by decide +kernel)]
  exact z5
theorem Gx.fr {ws : List Nat} {h h' : Hp_} (g : Gx h) (f : Fr ws h h') (o : (off ws 85 && off ws 86 && (!inw ws 19 2 && !inw ws 19 3 && !inw ws 19 4) && (!inw ws 19 5 && off ws 88)) = true) : Gx h' := by
  rw [Bool.and_eq_true] at o
  have u := bX_fr f o.1
  have o1 := o.1
  have o2 := o.2
  simp only [Bool.and_eq_true, Bool.not_eq_true'] at o1 o2
  refine ⟨by rw [(f.2 19 4 o1.2.2).1]; exact g.1, fun z => ?_⟩
  rw [(f.2 19 5 o2.1).1] at z
  rw [fr_i f o2.2 0, u]
  exact g.2 z
/-! what class and reference keep alike; what the law's loop keeps -/
noncomputable def rl : List ((Nat × Nat) × Nat) := [((19, 2), 101), ((19, 3), 102), ((19, 4), 103)]
theorem rl_F : Rlf rl HF := fun q hq => by
  have z : rl.all (fun q => h_i HF q.1.1 q.1.2 == h_i HF 1 q.2) = true := by decide +kernel
  exact eq_of_beq (List.all_eq_true.mp z q hq)
/-- the marks of the goods are alike; what the class keeps of its sums is right -/
noncomputable def Ex (h : Hp_) : Prop := (∀ k : Nat, k < 8 → h_i h 85 k = h_i h 278 k ∧ h_i h 86 k = h_i h 279 k) ∧ Gx h
noncomputable def exg (ws : List Nat) : Bool := off ws 85 && off ws 86 && off ws 278 && off ws 279
noncomputable def exo (ws : List Nat) : Bool := exg ws && (off ws 85 && off ws 86 && (!inw ws 19 2 && !inw ws 19 3 && !inw ws 19 4) && (!inw ws 19 5 && off ws 88))
theorem ex_F : Ex HF := ⟨fun k hk => by
  have z : (List.range 8).all (fun k => h_i HF 85 k == h_i HF 278 k && h_i HF 86 k == h_i HF 279 k) = true := by decide +kernel
  have y := List.all_eq_true.mp z k (List.mem_range.mpr hk)
  rw [Bool.and_eq_true] at y
  exact ⟨eq_of_beq y.1, eq_of_beq y.2⟩, by
  refine ⟨?_, fun z => ?_⟩
  · rw [show h_i HF 19 4 = 3 by decide +kernel]
    decide
  · rw [show h_i HF 19 5 = 1 by decide +kernel] at z
    exact absurd z (by decide)⟩
theorem Ex.rows {ws : List Nat} {h h' : Hp_} (e : ∀ k : Nat, k < 8 → h_i h 85 k = h_i h 278 k ∧ h_i h 86 k = h_i h 279 k) (f : Fr ws h h') (o : exg ws = true) : ∀ k : Nat, k < 8 → h_i h' 85 k = h_i h' 278 k ∧ h_i h' 86 k = h_i h' 279 k := fun k hk => by
  unfold exg at o
  simp only [Bool.and_eq_true] at o
  rw [fr_i f o.1.1.1 k, fr_i f o.1.1.2 k, fr_i f o.1.2 k, fr_i f o.2 k]
  exact e k hk
theorem Ex.fr {ws : List Nat} {h h' : Hp_} (e : Ex h) (f : Fr ws h h') (o : exo ws = true) : Ex h' := by
  unfold exo at o
  rw [Bool.and_eq_true] at o
  exact ⟨Ex.rows e.1 f o.1, e.2.fr f o.2⟩
theorem Ex.mf {W : List Nat} {h h' : Hp_} (e : Ex h) (f : Mf W h h') (o : exo W = true) : Ex h' := by
  unfold exo exg at o
  simp only [Bool.and_eq_true, Bool.not_eq_true'] at o
  obtain ⟨⟨⟨⟨a1, a2⟩, _⟩, _⟩, ⟨⟨_, ⟨⟨b2, b3⟩, b4⟩⟩, ⟨b5, b8⟩⟩⟩ := o
  have r5 : h_i h' 85 = h_i h 85 := funext (fun k => (f.2.2.2 85 k (by decide) (off_inw a1 k)).1)
  have r6 : h_i h' 86 = h_i h 86 := funext (fun k => (f.2.2.2 86 k (by decide) (off_inw a2 k)).1)
  have u : bX h' = bX h := by
    unfold bX gG
    rw [(f.2.2.2 19 2 (by decide) b2).1, (f.2.2.2 19 3 (by decide) b3).1, (f.2.2.2 19 4 (by decide) b4).1, r5, r6]
  refine ⟨fun k hk => ?_, by rw [(f.2.2.2 19 4 (by decide) b4).1]; exact e.2.1, fun z => ?_⟩
  · rw [r5, r6, f.2.1 278 (by decide) (by decide) k, f.2.1 279 (by decide) (by decide) k]
    exact e.1 k hk
  · rw [(f.2.2.2 19 5 (by decide) b5).1] at z
    rw [(f.2.2.2 88 0 (by decide) (off_inw b8 0)).1, u]
    exact e.2.2 z
/-- the men, and what this row wants besides -/
noncomputable def Mef (h : Hp_) : Prop := Mn h ∧ Ex h
noncomputable def Li (N : Nat) (h : Hp_) : Prop := Iv h ∧ J2 h ∧ h_sh h 2 = some (3, 1) ∧ (∃ c, h_r h 0 15 = some c ∧ h_sh h c = some (3, N)) ∧ Rlf rl h ∧ Mef h
theorem Li.z {N : Nat} {h : Hp_} (L : Li N h) : Li0 N h := ⟨L.1, L.2.1, L.2.2.1, L.2.2.2.1⟩
theorem Li0.li {N : Nat} {h : Hp_} (L : Li0 N h) (R : Rlf rl h) (m : Mef h) : Li N h := ⟨L.1, L.2.1, L.2.2.1, L.2.2.2, R, m⟩
theorem Mn.fr {ws : List Nat} {h h' : Hp_} (m : Mn h) (f : Fr ws h h') (o : (!inw ws 0 7 && off ws 15) = true) : Mn h' := fun k hk hm => by
  rw [Bool.and_eq_true, Bool.not_eq_true'] at o
  rw [(f.2 15 k (off_inw o.2 k)).2.2]
  exact m k hk (by rw [(f.2 0 7 o.1).1] at hm; exact hm)
theorem Mef.fr {ws : List Nat} {h h' : Hp_} (m : Mef h) (f : Fr ws h h') (o : (!inw ws 0 7 && off ws 15 && exo ws) = true) : Mef h' := by
  rw [Bool.and_eq_true] at o
  exact ⟨m.1.fr f o.1, m.2.fr f o.2⟩
theorem mn_F : Mn HF := fun k hk hm => by
  rw [show h_i HF 0 7 = 0 by decide +kernel] at hm
  have z : (0 : Int32).toInt = 0 := rfl
  omega
theorem li_F : Li 0 HF := li0_F.li rl_F ⟨mn_F, ex_F⟩
theorem Li.fr {N : Nat} {ws : List Nat} {h h' : Hp_} (L : Li N h) (I : Iv h') (f : Fr ws h h') (o : ((jso ws && !inw ws 0 15) && rl.all (fun q => !inw ws q.1.1 q.1.2 && !inw ws 1 q.2) && (!inw ws 0 7 && off ws 15 && exo ws)) = true) : Li N h' := by
  rw [Bool.and_eq_true, Bool.and_eq_true (jso ws && !inw ws 0 15)] at o
  exact (L.z.fr I f o.1.1).li (L.2.2.2.2.1.fr f o.1.2) (L.2.2.2.2.2.fr f o.2)
theorem Li.sr {N : Nat} {h h' : Hp_} (L : Li N h) (I : Iv h') (J : J2 h') (s : Sr h h') : Li N h' := (L.z.sn I J s.sn).li (L.2.2.2.2.1.fr s (by decide +kernel)) (L.2.2.2.2.2.fr s (by decide +kernel))
theorem Mn.mf {h h' : Hp_} (m : Mn h) (f : Mf wsX h h') : Mn h' := fun k hk hm => by
  rw [(f.2.2.2 15 k (by decide) (off_inw (by decide +kernel) k)).2]
  exact m k hk (by rw [(f.2.2.2 0 7 (by decide) (by decide +kernel)).1] at hm; exact hm)
theorem Mef.mf {h h' : Hp_} (m : Mef h) (f : Mf wsX h h') : Mef h' := ⟨m.1.mf f, m.2.mf f (by decide +kernel)⟩
theorem Mef.con {h h' : Hp_} {x1 x2 x3 r : Int32} (m : Mef h) (k : Cy x1 x2 x3 h r h') : Mef h' := ⟨k.2.2.1 m.1, m.2.mf k.1.2.1 (by decide +kernel)⟩
theorem Li.con2 {N : Nat} {h h1 h2 : Hp_} {x1 x2 x3 r1 r2 : Int32} (L : Li N h) (k1 : Cy x1 x2 x3 h r1 h1) (k2 : Iv h2 ∧ J2 h2 ∧ Sn h1 h2 ∧ ocm (h_i h1 1 7) x1 x2 x3 r2 (h_i h2 1 7) ∧ Cw (okm (h_i h1 1 7) x1 x2 x3) (h_i h1 1 7) x1 h1 h2) : Li N h2 := ((L.z.con k1.1).sn k2.1 k2.2.1 k2.2.2.1).li ((L.2.2.2.2.1.mf k1.1.2.1 (by decide +kernel)).fr k2.2.2.1 (by decide +kernel)) ((L.2.2.2.2.2.con k1).fr k2.2.2.1 (by decide +kernel))
theorem Li.tick2 {N N' : Nat} {h h1 h2 : Hp_} {x r1 r2 : Int32} (L : Li N h) (k1 : Iv h1 ∧ Mf wsX h h1 ∧ (∃ c', h_r h1 0 15 = some c' ∧ h_sh h1 c' = some (3, N')) ∧ otk (h_i h 0 0) x r1 (h_i h1 0 0)) (k2 : Iv h2 ∧ J2 h2 ∧ Fr wsT h1 h2 ∧ otk (h_i h1 1 0) x r2 (h_i h2 1 0)) : Li N' h2 := ((L.z.tick k1).st k2.1 k2.2.1 k2.2.2.1).li ((L.2.2.2.2.1.mf k1.2.1 (by decide +kernel)).fr k2.2.2.1 (by decide +kernel)) ((L.2.2.2.2.2.mf k1.2.1).fr k2.2.2.1 (by decide +kernel))
end
