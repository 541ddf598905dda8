section
/-! ===== BEGIN words of one list among another's, by their places ===== -/
/-! ===== END ===== -/

/-! ===== BEGIN exceptions that leave a method, and their catching by the caller (launches without stack traces) ===== -/
section VXA
/-! The laws vx_back, vx_callV, vx_callS, vx_callSW, vx_throw0, vx_throwS follow proofs of the library, with one case more: JvmDerived/Free/Laws.lean (Back.of_free), Shelf42/LK1.lean (callV, callS), Shelf/KitTraced.lean (throwNew0V, throwNewS). -/
/-- where a method has thrown q: the kind by its name, the cell, what was written, the world -/
noncomputable def vx_T (XC : String → State → State → Prop) (st : State) (q : Addr) (t : State) (mc ms : Nat) (free : Addr → Prop) : Prop :=
  ∃ (E : String) (ce : Cell) (L : List Loc), XC E st t ∧ t.heap[q]? = some ce ∧ ce.vm = .none ∧ st.vm.findClass E = some ce.cls ∧ st.WarmedH t.vm ∧ st.sameButNew ({ t with vm := st.vm } : State) L mc ms ∧ ∀ z ∈ L, free z.base
noncomputable def vx_Q (Qc : Array Value → State → Outcome → State → Prop) (XC : String → State → State → Prop) (mc ms : Nat) (free : Addr → Prop) : Array Value → State → Outcome → State → Prop := fun a st o t =>
  (Qc a st o t ∧ ∃ L, FrameEnd st o t L mc ms ∧ ∀ q ∈ L, free q.base) ∨ ∃ q, o = .threw q ∧ vx_T XC st q t mc ms free
/-- a callee that returns or throws -/
noncomputable def vx_Met (l : Launch) (y : MethodName) (ws : List Cond) (rm : Room) (Pc : Array Value → State → Prop) (Qc : Array Value → State → Outcome → State → Prop) (XC : String → State → State → Prop) (mc ms : Nat) (free : Addr → Prop) : Prop :=
  MetFree l y (headSpec ws rm) Pc (fun _ _ _ _ _ => True) (vx_Q Qc XC mc ms free)
noncomputable def vx_Post (XC : String → State → State → Prop) (mc ms : Nat) (free : Addr → Prop) : Pt → Array Value → Addr → Pt → Prop := fun A a q B =>
  ∃ (g : JFrame) (mk : MethodId) (t : State) (L : List Loc) (E : String) (ce : Cell), B.U.heap = t.heap ∧ B.U.vm = t.vm ∧ XC E (A.U.calling g mk a) t ∧ t.heap[q]? = some ce ∧ ce.vm = .none ∧ A.U.vm.findClass E = some ce.cls ∧ B.locs = A.locs ++ L ∧ (∀ z ∈ L, free z.base) ∧ B.cells = A.cells + mc ∧ B.slots = A.slots + ms
noncomputable def vx_Back (l : Launch) (R : Room) (p : Program) (e : Env) (below : List Frame) (s : State) (sargs : Array Value) (y : MethodName) (len W9 : Nat)
    (Pre : Pt → Array Value → Prop) (Post : Pt → Array Value → Option Value → Pt → Prop) (PostX : Pt → Array Value → Addr → Pt → Prop) : Prop :=
  ∀ (m : MethodId) (meth : Method) (c : Code) (A : Pt) (g : JFrame) (ig : Instr) (mk : MethodId) (a : Array Value),
    Stand p l e R s m sargs below meth c A.U A.locs A.cells A.slots → g.method = m → g.locals.size = c.maxLocals → decode c.code g.pc = .ok (ig, len) →
    2 * g.monitorRoom + (g.stack.map fun v => v.category).sum ≤ W9 → A.U.methodNamed? y = some mk → Pre A a →
    (∃ (v : Option Value) (B : Pt), Stand p l e R s m sargs below meth c B.U B.locs B.cells B.slots ∧ Post A a v B ∧
      Steps p.tables e below (doInvoke e (A.U.setTop g) [] mk a).1 (B.U.setTop { g with pc := g.pc + len, stack := v.toList ++ g.stack })) ∨
    (∃ (q : Addr) (B : Pt), Stand p l e R s m sargs below meth c B.U B.locs B.cells B.slots ∧ PostX A a q B ∧
      Steps p.tables e below (doInvoke e (A.U.setTop g) [] mk a).1 ((B.U.setTop g).pushFrame (.throwing q)))
section Payer
variable {l : Launch} {R : Room} {p : Program} {e : Env} {below : List Frame} {s : State} {sargs : Array Value} {y : MethodName} {len W9 : Nat}
theorem vx_back {ws : List Cond} {rm : Room} {Pc : Array Value → State → Prop} {Qc : Array Value → State → Outcome → State → Prop} {XC : String → State → State → Prop} {mc ms : Nat} {free : Addr → Prop} {bytes : ByteArray} {maxL : Nat} {ret : Option FieldType}
    (hM : vx_Met l y ws rm Pc Qc XC mc ms free) (hblind : FrameBlind Pc) (hrc : rm.cells = mc) (hrs : rm.slots = ms)
    (hframes : rm.frames + 1 ≤ R.frames) (hlocals : W9 + (maxL + 11) + rm.locals ≤ R.locals)
    (hws : ∀ w ∈ ws, ∀ a' U, s.WarmedH U.vm → w.before a' U = true) (hcode : Cond.code y bytes maxL ret ∈ ws) (hinit : ∀ a' U, s.WarmedH U.vm → (Cond.initialized y.cls).before a' U = true) :
    vx_Back l R p e below s sargs y len W9 (PreOf R mc ms Pc) (PostOf Qc mc ms free) (vx_Post XC mc ms free) := by
  intro m meth c A g ig mk a X hg hsize hdg hW hn hp
  have h1 : (headSpec ws rm).pre.before a A.U = true := atoms_intro fun w hw => hws w hw _ _ X.warmed
  have h2 : (Cond.code y bytes maxL ret).before a A.U = true := hws _ hcode _ _ X.warmed
  have h3 : (Cond.initialized y.cls).before a A.U = true := hinit _ _ X.warmed
  have h4 : A.cells + (headSpec ws rm).room.cells ≤ R.cells := by rw [show (headSpec ws rm).room.cells = mc from hrc]; exact hp.1
  have h5 : A.slots + (headSpec ws rm).room.slots ≤ R.slots := by rw [show (headSpec ws rm).room.slots = ms from hrs]; exact hp.2.1
  have hPc : Pc a (A.U.calling g mk a) := hblind _ _ _ _ hp.2.2
  obtain ⟨U, Ls, c0, s0⟩ := A
  dsimp only [Pt.U, Pt.locs, Pt.cells, Pt.slots] at h1 h2 h3 h4 h5 X hn hPc ⊢
  obtain ⟨methY, cY, hmY, hcY, -, hlY, -, -, -, -⟩ := Cond.code_spec hn h2
  obtain ⟨kY, hkY, -⟩ := className_of_methodNamed hn
  have hinitY : kY.init = .initialized := Cond.initialized_spec (findClass_of_methodNamed hn) hkY h3
  have h : At U g.method c below := by rw [hg]; exact X.here
  have hlocals9 : W9 + (maxL + 11) + (headSpec ws rm).room.locals ≤ R.locals := hlocals
  have happ : (headSpec ws rm).appliesLoose y e.platform (U.calling g mk a) = true :=
    Spec.appliesLoose_calling (g := g) h hdg hn hkY hinitY
      (X.room_calling (g := g) (R' := (headSpec ws rm).room) hsize hmY hcY hframes (by rw [hlY]; omega) h4 h5) h1
  obtain ⟨mid, hmid⟩ := h.above
  have hfr : (U.setTop g).frames = (.java g :: mid) ++ below := by rw [State.frames_setTop' g h.top, hmid]; rfl
  obtain ⟨o, s₂, hsteps, -, hend, hq⟩ := Steps.callFree hM p X.admits X.cas X.clock (acts := []) hfr happ hPc trivial
  have hq' : vx_Q Qc XC mc ms free a (U.calling g mk a) o s₂ := hq
  rw [State.frames_setTop' g h.top] at hend
  obtain ⟨g₀, hg0⟩ := Option.isSome_iff_exists.mp h.top
  obtain ⟨r, hr⟩ := State.topJava?_eq_some.mp hg0
  have hr' : (({ U with heap := s₂.heap, slotsUsed := s₂.slotsUsed } : State).setVm s₂.vm).frames = .java g₀ :: r := hr
  rcases hq' with ⟨hqc, L, hfe, hL⟩ | ⟨q, rfl, E, ce, L, hx, hce, hcv, hcl, hW₂, hsm, hL⟩
  · obtain ⟨⟨v, rfl⟩, hW₂, e2, q2, q3, q4, q5, q6⟩ := id hfe
    have e3 : s₂ = ({ (U.calling g mk a).setFrames s₂.frames with heap := s₂.heap, slotsUsed := s₂.slotsUsed } : State).setVm s₂.vm := by
      have : s₂ = ({ s₂ with vm := (U.calling g mk a).vm } : State).setVm s₂.vm := rfl
      rw [e2] at this
      exact this
    obtain ⟨c₂, i₂, len₂, hc₂, hd₂, hf₂⟩ := hend
    have hW' : U.WarmedH s₂.vm := hW₂
    have hcc : c₂ = c := by
      have h1 : s₂.code? g.method = U.code? g.method := by
        rw [State.code?_eq, State.code?_eq, hW'.alike.method?]
      exact Option.some.inj (hc₂.symm.trans (h1.trans h.code))
    subst hcc
    have hlen : len₂ = len := by rw [hdg] at hd₂; cases hd₂; rfl
    subst hlen
    have hs₂ : s₂ = (({ U with heap := s₂.heap, slotsUsed := s₂.slotsUsed } : State).setVm s₂.vm).setTop { g with pc := g.pc + len₂, stack := v.toList ++ g.stack } := by
      refine e3.trans ?_
      rw [hf₂, State.calling_eq h.top, State.setFrames_setFrames, State.setTop_of_frames _ hr', hr]
      rfl
    have hsame : U.sameButNew ({ U with heap := s₂.heap, slotsUsed := s₂.slotsUsed } : State) L mc ms := by
      refine ⟨?_, q2, q3, q4, q5, q6⟩
      obtain ⟨t, ht, -⟩ := State.frames_cons hr
      show ({ U with heap := s₂.heap, slotsUsed := s₂.slotsUsed } : State) = { U.setFrames U.frames with heap := s₂.heap, slotsUsed := s₂.slotsUsed }
      rw [State.setFrames_self ht]
    subst hg
    refine Or.inl ⟨v, ⟨(({ U with heap := s₂.heap, slotsUsed := s₂.slotsUsed } : State).setVm s₂.vm), Ls ++ L, c0 + mc, s0 + ms⟩,
      ⟨X.admits, X.cas, X.clock, X.frames, X.room, X.hears, X.method, X.code, (X.here.setHeapUsed s₂.heap s₂.slotsUsed).setVm hW'.alike, X.tail, State.WarmedH.trans X.warmed hW', X.limits, X.bytes, X.same.trans (hsame.setVm s.vm)⟩,
      ⟨g, mk, s₂, L, rfl, rfl, hqc, rfl, hL, rfl, rfl⟩, ?_⟩
    show Steps p.tables e below _ ((({ U with heap := s₂.heap, slotsUsed := s₂.slotsUsed } : State).setVm s₂.vm).setTop { g with pc := g.pc + len₂, stack := v.toList ++ g.stack })
    rw [← hs₂]
    exact hsteps
  · obtain ⟨e2, q2, q3, q4, q5, q6⟩ := id hsm
    have e3 : s₂ = ({ (U.calling g mk a).setFrames s₂.frames with heap := s₂.heap, slotsUsed := s₂.slotsUsed } : State).setVm s₂.vm := by
      have : s₂ = ({ s₂ with vm := (U.calling g mk a).vm } : State).setVm s₂.vm := rfl
      rw [e2] at this
      exact this
    have hf₂ : s₂.frames = .throwing q :: .java g :: U.frames.tail := hend
    have hW' : U.WarmedH s₂.vm := hW₂
    have hs₂ : s₂ = ((({ U with heap := s₂.heap, slotsUsed := s₂.slotsUsed } : State).setVm s₂.vm).setTop g).pushFrame (.throwing q) := by
      refine e3.trans ?_
      rw [hf₂, State.calling_eq h.top, State.setFrames_setFrames, State.pushFrame, State.frames_setTop _ hr', State.setTop_of_frames _ hr', State.setFrames_setFrames, hr]
      rfl
    have hsame : U.sameButNew ({ U with heap := s₂.heap, slotsUsed := s₂.slotsUsed } : State) L mc ms := by
      refine ⟨?_, q2, q3, q4, q5, q6⟩
      obtain ⟨t, ht, -⟩ := State.frames_cons hr
      show ({ U with heap := s₂.heap, slotsUsed := s₂.slotsUsed } : State) = { U.setFrames U.frames with heap := s₂.heap, slotsUsed := s₂.slotsUsed }
      rw [State.setFrames_self ht]
    subst hg
    refine Or.inr ⟨q, ⟨(({ U with heap := s₂.heap, slotsUsed := s₂.slotsUsed } : State).setVm s₂.vm), Ls ++ L, c0 + mc, s0 + ms⟩,
      ⟨X.admits, X.cas, X.clock, X.frames, X.room, X.hears, X.method, X.code, (X.here.setHeapUsed s₂.heap s₂.slotsUsed).setVm hW'.alike, X.tail, State.WarmedH.trans X.warmed hW', X.limits, X.bytes, X.same.trans (hsame.setVm s.vm)⟩,
      ⟨g, mk, s₂, L, E, ce, rfl, rfl, hx, hce, hcv, hcl, rfl, hL, rfl, rfl⟩, ?_⟩
    show Steps p.tables e below _ (((({ U with heap := s₂.heap, slotsUsed := s₂.slotsUsed } : State).setVm s₂.vm).setTop g).pushFrame (.throwing q))
    rw [← hs₂]
    exact hsteps
end Payer
section Calls
variable {p : Program} {l : Launch} {e : Env} {R : Room} {s : State} {m : MethodId} {args : Array Value} {below : List Frame} {meth : Method} {c : Code} {T : State} {locs : List Loc} {cells slots : Nat}
theorem vx_callV (X : Stand p l e R s m args below meth c T locs cells slots) (hexec : p.tables.exec = Jvm.exec) {own C : String} {index : Nat} {y : MethodName} {bytes : ByteArray} {maxL : Nat} {ret : Option FieldType}
    (hown : s.vm.findClass own = some m.cls) (hlink : (Cond.methodLink own index y).before args s = true) (hinst : (Cond.instanceMethod y).before args s = true) (hsel : (Cond.selects C y y).before args s = true)
    (hcode : (Cond.code y bytes maxL ret).before args s = true) (hy : y.cls ≠ "java/lang/invoke/MethodHandle" ∧ y.cls ≠ "java/lang/invoke/VarHandle")
    {W9 : Nat} {Pre : Pt → Array Value → Prop} {Post : Pt → Array Value → Option Value → Pt → Prop} {PostX : Pt → Array Value → Addr → Pt → Prop} (hK : vx_Back l R p e below s args y 3 W9 Pre Post PostX)
    {b : Addr} {cellB : Cell} (hcell : T.heap[b]? = some cellB) (hobj : cellB.vm.isStatics = false) (hcls : s.vm.findClass C = some cellB.cls)
    {g : JFrame} (hg : g.method = m) (hsize : g.locals.size = c.maxLocals) {argsL rest : List Value} (hlen : ∀ sig, parseMethodDescriptor y.desc = some sig → argsL.length = sig.parameters.length)
    (hstack : g.stack = argsL.reverse ++ .ref b :: rest) (hW : 2 * g.monitorRoom + (rest.map fun v => v.category).sum ≤ W9) (hdg : decode c.code g.pc = .ok (.invokevirtual index, 3))
    (hpre : ∀ vm₁, s.WarmedH vm₁ → Pre ⟨T.setVm vm₁, locs, cells, slots⟩ (Value.ref b :: argsL).toArray) :
    (∃ (v : Option Value) (vm₁ : Vm) (B : Pt), s.WarmedH vm₁ ∧ Stand p l e R s m args below meth c B.U B.locs B.cells B.slots ∧ Post ⟨T.setVm vm₁, locs, cells, slots⟩ (Value.ref b :: argsL).toArray v B ∧
      ∀ target, Steps p.tables e below (B.U.setTop { g with pc := g.pc + 3, stack := v.toList ++ rest }) target → Steps p.tables e below (T.setTop g) target) ∨
    (∃ (q : Addr) (vm₁ : Vm) (B : Pt), s.WarmedH vm₁ ∧ Stand p l e R s m args below meth c B.U B.locs B.cells B.slots ∧ PostX ⟨T.setVm vm₁, locs, cells, slots⟩ (Value.ref b :: argsL).toArray q B ∧
      Steps p.tables e below (T.setTop g) ((B.U.setTop { g with stack := rest }).pushFrame (.throwing q))) := by
  obtain ⟨mk, methM, hnamed, hmethM, hstM, habM⟩ := Cond.instanceMethod_spec hinst
  obtain ⟨methM', cM, hmethM', -, -, -, -, -, -, hsigM⟩ := Cond.code_spec hnamed hcode
  cases hmethM.symm.trans hmethM'
  obtain ⟨c2, r2, m2, q1, q2, q3, q4, kP, hkP, hkPi⟩ := Cond.selects_spec hsel
  cases hcls.symm.trans q1
  cases (State.methodFound?_of_named hnamed hy).symm.trans q2
  cases hnamed.symm.trans q3
  have hselP : selectMethod e.platform s.vm cellB.cls mk = .method mk := by rw [Launch.admits_selectMethod X.admits]; exact q4
  obtain ⟨vm₁, X₁, hstep₁⟩ := X.invokevirtual hexec hown hlink hnamed hmethM hstM hkP hkPi hy (a := b) (cell := cellB) hcell
    (fun z h => by rw [h] at hobj; cases hobj) hselP hmethM habM hkP hkPi (g := g) hg (argsL := argsL) (rest := rest) (hlen _ hsigM) hstack hdg
  rcases hK m meth c ⟨T.setVm vm₁, locs, cells, slots⟩ { g with stack := rest } (.invokevirtual index) mk (Value.ref b :: argsL).toArray X₁ hg hsize hdg hW (X₁.named hnamed) (hpre vm₁ X₁.warmed) with ⟨v, B, X', hpost, hsteps⟩ | ⟨q, B, X', hpost, hsteps⟩
  · exact Or.inl ⟨v, vm₁, B, X₁.warmed, X', hpost, fun target h => hstep₁ _ fun acts => by rw [doInvoke_state]; exact hsteps.trans h⟩
  · exact Or.inr ⟨q, vm₁, B, X₁.warmed, X', hpost, hstep₁ _ fun acts => by rw [doInvoke_state]; exact hsteps⟩
theorem vx_callS (X : Stand p l e R s m args below meth c T locs cells slots) (hexec : p.tables.exec = Jvm.exec) {own : String} {index : Nat} {y : MethodName} {bytes : ByteArray} {maxL : Nat} {ret : Option FieldType}
    (hown : s.vm.findClass own = some m.cls) (hlink : (Cond.methodLink own index y).before args s = true) (hstat : (Cond.static y).before args s = true) (hinit : (Cond.initialized y.cls).before args s = true)
    (hcode : (Cond.code y bytes maxL ret).before args s = true) (hy : y.cls ≠ "java/lang/invoke/MethodHandle" ∧ y.cls ≠ "java/lang/invoke/VarHandle")
    {W9 : Nat} {Pre : Pt → Array Value → Prop} {Post : Pt → Array Value → Option Value → Pt → Prop} {PostX : Pt → Array Value → Addr → Pt → Prop} (hK : vx_Back l R p e below s args y 3 W9 Pre Post PostX)
    {g : JFrame} (hg : g.method = m) (hsize : g.locals.size = c.maxLocals) {argsL rest : List Value} (hlen : ∀ sig, parseMethodDescriptor y.desc = some sig → argsL.length = sig.parameters.length)
    (hstack : g.stack = argsL.reverse ++ rest) (hW : 2 * g.monitorRoom + (rest.map fun v => v.category).sum ≤ W9) (hdg : decode c.code g.pc = .ok (.invokestatic index, 3))
    (hpre : ∀ vm₁, s.WarmedH vm₁ → Pre ⟨T.setVm vm₁, locs, cells, slots⟩ argsL.toArray) :
    (∃ (v : Option Value) (vm₁ : Vm) (B : Pt), s.WarmedH vm₁ ∧ Stand p l e R s m args below meth c B.U B.locs B.cells B.slots ∧ Post ⟨T.setVm vm₁, locs, cells, slots⟩ argsL.toArray v B ∧
      ∀ target, Steps p.tables e below (B.U.setTop { g with pc := g.pc + 3, stack := v.toList ++ rest }) target → Steps p.tables e below (T.setTop g) target) ∨
    (∃ (q : Addr) (vm₁ : Vm) (B : Pt), s.WarmedH vm₁ ∧ Stand p l e R s m args below meth c B.U B.locs B.cells B.slots ∧ PostX ⟨T.setVm vm₁, locs, cells, slots⟩ argsL.toArray q B ∧
      Steps p.tables e below (T.setTop g) ((B.U.setTop { g with stack := rest }).pushFrame (.throwing q))) := by
  obtain ⟨mk, hnamed⟩ := Cond.code_named hcode
  obtain ⟨methM, cM, hmethM, -, -, -, -, -, -, hsigM⟩ := Cond.code_spec hnamed hcode
  have hstatic : methM.isStatic = true := Cond.static_spec hnamed hmethM hstat
  obtain ⟨kP, hkP, -⟩ := className_of_methodNamed hnamed
  have hinitP : kP.init = .initialized := Cond.initialized_spec (findClass_of_methodNamed hnamed) hkP hinit
  obtain ⟨vm₁, X₁, hstep₁⟩ := X.invokestatic hexec hown hlink hnamed hmethM hstatic hkP hinitP hy (g := g) hg (argsL := argsL) (rest := rest) (hlen _ hsigM) hstack hdg
  rcases hK m meth c ⟨T.setVm vm₁, locs, cells, slots⟩ { g with stack := rest } (.invokestatic index) mk argsL.toArray X₁ hg hsize hdg hW (X₁.named hnamed) (hpre vm₁ X₁.warmed) with ⟨v, B, X', hpost, hsteps⟩ | ⟨q, B, X', hpost, hsteps⟩
  · exact Or.inl ⟨v, vm₁, B, X₁.warmed, X', hpost, fun target h => hstep₁ _ fun acts => by rw [doInvoke_state]; exact hsteps.trans h⟩
  · exact Or.inr ⟨q, vm₁, B, X₁.warmed, X', hpost, hstep₁ _ fun acts => by rw [doInvoke_state]; exact hsteps⟩
end Calls
theorem vx_cls {s : State} {T : State} {vm₁ : Vm} {E : String} {k : ClassId} (hW : s.WarmedH vm₁) (h : (T.setVm vm₁).vm.findClass E = some k) : s.vm.findClass E = some k := by
  have h1 : vm₁.findClass E = some k := h
  rw [hW.alike.findClass] at h1
  exact h1
/-- the method's frame g, with q thrown over it -/
noncomputable def vx_W (p : Program) (l : Launch) (e : Env) (R : Room) (s : State) (m : MethodId) (args : Array Value) (below : List Frame) (meth : Method) (c : Code) (H : Heap) (locs : List Loc) (cells slots : Nat) (Q : State → Prop) (g : JFrame) (q : Addr) : Prop :=
  ∀ T : State, T.heap = H → Stand p l e R s m args below meth c T locs cells slots → ∃ t, Steps p.tables e below ((T.setTop g).pushFrame (.throwing q)) t ∧ Q t
noncomputable def vx_Run (p : Program) (l : Launch) (e : Env) (R : Room) (s : State) (m : MethodId) (args : Array Value) (below : List Frame) (meth : Method) (c : Code) (H : Heap) (locs : List Loc) (cells slots mc ms : Nat) (g : JFrame) (rest : List Value) (Qa : State → Outcome → State → Prop) (XC : String → State → State → Prop) (free : Addr → Prop) : Prop :=
  ∀ T : State, T.heap = H → Stand p l e R s m args below meth c T locs cells slots →
    (∃ (v : Option Value) (st₀ t T' : State) (L : List Loc), st₀.heap = H ∧ Stand p l e R s m args below meth c T' (locs ++ L) (cells + mc) (slots + ms) ∧ (∀ q ∈ L, free q.base) ∧ T'.heap = t.heap ∧ T'.vm = t.vm ∧ Qa st₀ (.returned v) t ∧
      Goes p e below T g T' { g with pc := g.pc + 3, stack := v.toList ++ rest }) ∨
    (∃ (q : Addr) (st₀ t T' : State) (L : List Loc) (E : String) (ce : Cell), st₀.heap = H ∧ Stand p l e R s m args below meth c T' (locs ++ L) (cells + mc) (slots + ms) ∧ (∀ z ∈ L, free z.base) ∧ T'.heap = t.heap ∧ T'.vm = t.vm ∧ XC E st₀ t ∧ t.heap[q]? = some ce ∧ ce.vm = .none ∧ s.vm.findClass E = some ce.cls ∧
      Steps p.tables e below (T.setTop g) ((T'.setTop { g with stack := rest }).pushFrame (.throwing q)))
section Runs
variable {p : Program} {l : Launch} {e : Env} {R : Room} {s : State} {m : MethodId} {args : Array Value} {below : List Frame} {meth : Method} {c : Code} {H : Heap} {locs : List Loc} {cells slots : Nat}
variable {y : MethodName} {bytes cc : ByteArray} {maxL nL mc ms n index : Nat} {ret : Option FieldType} {ws : List Cond} {rm : Room} {Pc : Array Value → State → Prop} {Qc : Array Value → State → Outcome → State → Prop} {XC : String → State → State → Prop} {free : Addr → Prop} {Ts : List Cond} {own C : String} {b : Addr} {As rest : List Value} {g : JFrame}
theorem vx_callBack (cb : CallB R s args own index y bytes maxL ret ws rm mc ms n) (hM : vx_Met l y ws rm Pc Qc XC mc ms free) (hbl : FrameBlind Pc) : vx_Back l R p e below s args y 3 8 (PreOf R mc ms Pc) (PostOf Qc mc ms free) (vx_Post XC mc ms free) := by
  obtain ⟨hrc, hrs, hfr, hlo, hws, hcw, -, hini, -⟩ := cb
  exact vx_back (bytes := bytes) (maxL := maxL) (ret := ret) hM hbl hrc hrs hfr hlo hws hcw (fun a' U hW => word_at hW (Or.inl (by first | rfl | simp [Cond.onTables, Cond.keeps, Cond.steady])) hini)
theorem vx_runV (S : CallFix p m c cc nL s args Ts own) (hM : vx_Met l y ws rm Pc Qc XC mc ms free) (cw : CallW R s args own C index y bytes maxL ret ws rm mc ms n) (hp : PreV s H C b Pc As)
    (hg : g.method = m) (hn : As.length = n) (hsize : g.locals.size = nL) (hstack : g.stack = As.reverse ++ .ref b :: rest) (hW : 2 * g.monitorRoom + (rest.map fun v => v.category).sum ≤ 8) (hdg : decode cc g.pc = .ok (.invokevirtual index, 3)) (hf : cells + mc ≤ R.cells ∧ slots + ms ≤ R.slots) :
    vx_Run p l e R s m args below meth c H locs cells slots mc ms g rest (Qc (Value.ref b :: As).toArray) XC free := by
  have hK : vx_Back l R p e below s args y 3 8 (PreOf R mc ms Pc) (PostOf Qc mc ms free) (vx_Post XC mc ms free) := vx_callBack cw.1 hM hp.1
  obtain ⟨⟨-, -, -, -, -, -, hcode, -, hy, hlen, hl⟩, hin, hse⟩ := cw
  obtain ⟨hx, hb, hml, ho, -⟩ := S
  obtain ⟨-, ⟨cellB, hcB, hoB, hclB⟩, hPc⟩ := hp
  intro T hT X
  rcases vx_callV X hx (C := C) (bytes := bytes) (maxL := maxL) (ret := ret) ho hl hin hse hcode hy hK (by rw [hT]; exact hcB) hoB hclB hg (hsize.trans hml.symm) (argsL := As) (rest := rest) (fun sig h => hn.trans (hlen sig h)) hstack hW (by rw [hb]; exact hdg)
    (fun vm₁ hW₁ => ⟨hf.1, hf.2, hPc (T.setVm vm₁) hT hW₁⟩) with ⟨v, vm₁, ⟨U', l2, c2, s2⟩, hW₁, X', ⟨g', mk, t, L, e1, e2, hq, h1, hL, h2, h3⟩, st⟩ | ⟨q, vm₁, ⟨U', l2, c2, s2⟩, hW₁, X', ⟨g', mk, t, L, E, ce, e1, e2, hq, hce, hcv, hcl, h1, hL, h2, h3⟩, st⟩
  · dsimp only [Pt.U, Pt.locs, Pt.cells, Pt.slots] at X' e1 e2 h1 h2 h3 st
    subst h1; subst h2; subst h3
    exact Or.inl ⟨v, (T.setVm vm₁).calling g' mk (Value.ref b :: As).toArray, t, U', L, hT, X', hL, e1, e2, hq, st⟩
  · dsimp only [Pt.U, Pt.locs, Pt.cells, Pt.slots] at X' e1 e2 h1 h2 h3 st hcl
    subst h1; subst h2; subst h3
    exact Or.inr ⟨q, (T.setVm vm₁).calling g' mk (Value.ref b :: As).toArray, t, U', L, E, ce, hT, X', hL, e1, e2, hq, hce, hcv, vx_cls hW₁ hcl, st⟩
end Runs
section Rows
variable {p : Program} {l : Launch} {e : Env} {R : Room} {s : State} {m : MethodId} {args : Array Value} {below : List Frame} {meth : Method} {c : Code} {H : Heap} {locs : List Loc} {cells slots : Nat} {Q : State → Prop}
variable {mc ms : Nat} {free : Addr → Prop} {A0 A1 : Nat → Prop} {H0 : Heap} {a : Array Value} {pc : Nat} {ls : Array Slot} {st0 rest : List Value}
/-- caught by the row x of this method's table; the rows ahead don't take it -/
theorem vx_catch {own name : String} {E : String} {ce : Cell} {q : Addr} (hown : s.vm.findClass own = some m.cls) (pre : List ExceptionTableEntry) (x : ExceptionTableEntry) (suf : List ExceptionTableEntry) (hsplit : c.exceptionTable.toList = pre ++ x :: suf)
    (hpass : ∀ z ∈ pre, covers z pc = false ∨ (z.catchType ≠ 0 ∧ ∃ nm : String, (Cond.classLink own z.catchType nm).before args s = true ∧ va_Nc E nm s)) (hx : covers x pc = true) (h0 : x.catchType ≠ 0)
    (hlink : (Cond.classLink own x.catchType name).before args s = true) (hcast : (Cond.castable E name).before args s = true) (hcell : H[q]? = some ce) (hv : ce.vm = .none) (hcl : s.vm.findClass E = some ce.cls)
    (kk : W p l e R s m args below meth c H locs cells slots Q (F0 m x.handlerPc ls [.ref q])) : vx_W p l e R s m args below meth c H locs cells slots Q (F0 m pc ls rest) q := by
  intro T hT X
  have hpl : e.platform.magicAccessors = ({} : Platform).magicAccessors := by rw [X.admits.platform]
  obtain ⟨c3, c4, hc3, hc4, hasg⟩ := Cond.castable_spec hcast
  cases Option.some.inj (hc3.symm.trans hcl)
  obtain ⟨c5, hc5, hcl5⟩ := Cond.classLink_spec hown hlink e.platform hpl
  cases Option.some.inj (hc4.symm.trans hc5)
  obtain ⟨vm', X', st⟩ := Jvm.Stand.thenCaughtThrough X q (g := F0 m pc ls rest) rfl (Steps.refl _) (by rw [hT]; exact hcell) (by rw [hv]; rfl) (by obtain ⟨k9, h9, -⟩ := Vm.findClass_spec hcl; exact ⟨k9, h9⟩) pre x suf hsplit
    (fun z hz => by
      rcases hpass z hz with h | ⟨hz0, nm, hl1, hn1⟩
      · exact Or.inl h
      · obtain ⟨c6, hc6, hcl6⟩ := Cond.classLink_spec hown hl1 e.platform hpl
        obtain ⟨a8, b8, h1, h2, h3⟩ := hn1
        cases Option.some.inj (h1.symm.trans hcl)
        cases Option.some.inj (h2.symm.trans hc6)
        exact Or.inr ⟨hz0, _, hcl6, h3⟩) hx (Or.inr ⟨h0, c4, hcl5, hasg⟩)
  obtain ⟨t, a1, b1⟩ := kk (T.setVm vm') hT X'
  exact ⟨t, st.trans a1, b1⟩
end Rows
section Ends
variable {p : Program} {l : Launch} {e : Env} {R : Room} {s : State} {m : MethodId} {args : Array Value} {below : List Frame} {meth : Method} {c : Code} {H : Heap} {locs : List Loc} {cells slots : Nat} {Q : State → Prop}
variable {mc ms : Nat} {free : Addr → Prop} {A0 A1 : Nat → Prop} {H0 : Heap} {a : Array Value} {ls : Array Slot} {st0 rest : List Value}
variable {Qc : Array Value → State → Outcome → State → Prop} {XC : String → State → State → Prop}
/-- what a body that may throw owes at its end -/
noncomputable def vx_MQ (below : List Frame) (Qc : Array Value → State → Outcome → State → Prop) (XC : String → State → State → Prop) (a : Array Value) (s : State) (mc ms : Nat) (free : Addr → Prop) : State → Prop := fun t =>
  ∃ o, t.status = .running ∧ Ended t below o ∧ vx_Q Qc XC mc ms free a s o t
theorem vx_ret {g : JFrame} {mc ms : Nat} (k : W p l e R s m args below meth c H locs cells slots (MQ below Qc args s mc ms free) g) : W p l e R s m args below meth c H locs cells slots (vx_MQ below Qc XC args s mc ms free) g := by
  intro T hT X
  obtain ⟨t, a1, o, b1, b2, b3, b4⟩ := k T hT X
  exact ⟨t, a1, o, b1, b2, Or.inl ⟨b3, b4⟩⟩
theorem vx_frame {U : State} {k n : Nat} (h : s.sameButNew ({ U with vm := s.vm } : State) locs k n) : s.heap.size ≤ U.heap.size ∧ ∀ q : Nat, q < s.heap.size → (∀ z ∈ locs, z.base ≠ q) → U.heap[q]? = s.heap[q]? := by
  obtain ⟨-, h2, -, -, -, h6⟩ := h
  refine ⟨h2, fun q hq hz => ?_⟩
  obtain ⟨c9, e1, e2, e3, e4⟩ := h6 q _ (Array.getElem?_eq_getElem hq)
  have hs : c9.slots = (s.heap[q]).slots := Array.ext_getElem? fun i => e4 i fun hm => hz _ hm rfl
  have h9 : c9 = s.heap[q] := by
    rw [hs] at e2
    exact e2
  have e5 : U.heap[q]? = some c9 := e1
  rw [e5, h9, Array.getElem?_eq_getElem hq]
/-- the words of a throw but the four that speak of the heap -/
noncomputable def vx_no (w : Cond) : Bool := decide (w ≠ .isRef (.static Bundle.tN "UNASSIGNED_STACK" Bundle.steD)) && decide (w ≠ .isRef (.static Bundle.tN "SUPPRESSED_SENTINEL" Bundle.listD)) && decide (w ≠ .laysStatic Bundle.tN "UNASSIGNED_STACK" Bundle.steD) && decide (w ≠ .laysStatic Bundle.tN "SUPPRESSED_SENTINEL" Bundle.listD)
noncomputable def vx_at0 (own : String) (ic : Nat) (X : String) (names : List String) : List Cond := (Bundle.ownAtoms0 own ic X names).filter vx_no
noncomputable def vx_atS (own : String) (ic : Nat) (X : String) (names : List String) : List Cond := (Bundle.ownAtoms own ic X names).filter vx_no
/-- a word that the tables alone decide, or a good one -/
noncomputable def vx_ot (w : Cond) : Bool := w.onTables || goodWord w
theorem vx_ot_at {args a' : Array Value} {s U : State} {w : Cond} (hW : s.WarmedH U.vm) (hvm : s.vm = U.vm) (hg : vx_ot w = true) (h : w.before args s = true) : w.before a' U = true := by
  simp only [vx_ot, Bool.or_eq_true] at hg
  rcases hg with hg | hg
  · exact va_tabs hg hvm h
  · exact word_at hW (good_of_word hg) h
theorem vx_own {args : Array Value} {s : State} {L : List Cond} (h1 : ∀ w ∈ L.filter vx_no, w.before args s = true)
    (hU : (Cond.isRef (.static Bundle.tN "UNASSIGNED_STACK" Bundle.steD)).before args s = true) (hN : (Cond.isRef (.static Bundle.tN "SUPPRESSED_SENTINEL" Bundle.listD)).before args s = true)
    (lU : (Cond.laysStatic Bundle.tN "UNASSIGNED_STACK" Bundle.steD).before args s = true) (lN : (Cond.laysStatic Bundle.tN "SUPPRESSED_SENTINEL" Bundle.listD).before args s = true) : ∀ w ∈ L, w.before args s = true := by
  intro w hw
  by_cases e1 : w = .isRef (.static Bundle.tN "UNASSIGNED_STACK" Bundle.steD)
  · rw [e1]; exact hU
  · by_cases e2 : w = .isRef (.static Bundle.tN "SUPPRESSED_SENTINEL" Bundle.listD)
    · rw [e2]; exact hN
    · by_cases e3 : w = .laysStatic Bundle.tN "UNASSIGNED_STACK" Bundle.steD
      · rw [e3]; exact lU
      · by_cases e4 : w = .laysStatic Bundle.tN "SUPPRESSED_SENTINEL" Bundle.listD
        · rw [e4]; exact lN
        · exact h1 w (List.mem_filter.mpr ⟨hw, by unfold vx_no; rw [decide_eq_true e1, decide_eq_true e2, decide_eq_true e3, decide_eq_true e4]; rfl⟩)
/-- where a static field lies, its kind's statics cell in H -/
noncomputable def vx_L (C n d : String) (A : Nat → Prop) (U : State) (H : Heap) : Prop := ∃ (c : ClassId) (k : Class) (i : Nat) (f : Field) (a : Nat) (cell : Cell), U.vm.findClass C = some c ∧ U.fieldFound? C n d = some (c, k, i, f) ∧ f.isStatic = true ∧ k.statics = some a ∧ H[a]? = some cell ∧ cell.vm.isStatics = true ∧ cell.cls = c ∧ f.slot < cell.slots.size ∧ k.staticTypes[f.slot]? = some f.type ∧ ¬ A a
theorem vx_L.moved {C n d : String} {A : Nat → Prop} {u U : State} {H : Heap} (hvm : u.vm.Alike U.vm) (h : vx_L C n d A u H) : vx_L C n d A U H := by
  obtain ⟨c, k, i, f, a, cell, h1, h2, h3, h4, h5, h6, h7, h8, h9, h10⟩ := h
  obtain ⟨k', hi', he⟩ := State.fieldFound?_setVm hvm h2
  exact ⟨c, k', i, f, a, cell, by rw [hvm.findClass]; exact h1, hi', h3, by rw [he]; exact h4, h5, h6, h7, h8, by rw [he]; exact h9, h10⟩
theorem vx_L.kept {C n d : String} {A : Nat → Prop} {U : State} {H H1 : Heap} (h : vx_L C n d A U H) (hq : ∀ a : Nat, a < H.size → ¬ A a → H1[a]? = H[a]?) : vx_L C n d A U H1 := by
  obtain ⟨c, k, i, f, a, cell, h1, h2, h3, h4, h5, h6, h7, h8, h9, h10⟩ := h
  exact ⟨c, k, i, f, a, cell, h1, h2, h3, h4, by rw [hq a (Array.getElem?_eq_some_iff.mp h5).1 h10]; exact h5, h6, h7, h8, h9, h10⟩
theorem vx_L.narrow {C n d : String} {A B : Nat → Prop} {U : State} {H : Heap} (h : vx_L C n d A U H) (hAB : ∀ q, B q → A q) : vx_L C n d B U H := by
  obtain ⟨c, k, i, f, a, cell, h1, h2, h3, h4, h5, h6, h7, h8, h9, h10⟩ := h
  exact ⟨c, k, i, f, a, cell, h1, h2, h3, h4, h5, h6, h7, h8, h9, fun z => h10 (hAB _ z)⟩
theorem vx_L.word {C n d : String} {A : Nat → Prop} {s : State} {args : Array Value} (h : vx_L C n d A s s.heap) : (Cond.laysStatic C n d).before args s = true := by
  obtain ⟨c, k, i, f, a, cell, h1, h2, h3, h4, h5, h6, h7, h8, h9, -⟩ := h
  show (Cond.laysStatic C n d).holds args s none s [] = true
  exact Cond.laysStatic_of h1 h2 h3 h4 h5 h6 h7 h8 h9
/-- .. and what it holds: null or some reference -/
noncomputable def vx_Zq (C n d : String) (A : Nat → Prop) (U : State) (H : Heap) : Prop := va_Zq C n d A U H ∧ vx_L C n d A U H
theorem vx_Zq.moved {C n d : String} {A : Nat → Prop} {u U : State} {H : Heap} (hvm : u.vm.Alike U.vm) (h : vx_Zq C n d A u H) : vx_Zq C n d A U H := ⟨va_Zq.moved hvm h.1, vx_L.moved hvm h.2⟩
theorem vx_Zq.kept {C n d : String} {A : Nat → Prop} {U : State} {H H1 : Heap} (h : vx_Zq C n d A U H) (hq : ∀ a : Nat, a < H.size → ¬ A a → H1[a]? = H[a]?) : vx_Zq C n d A U H1 := ⟨va_Zq.kept h.1 hq, vx_L.kept h.2 hq⟩
theorem vx_Zq.narrow {C n d : String} {A B : Nat → Prop} {U : State} {H : Heap} (h : vx_Zq C n d A U H) (hAB : ∀ q, B q → A q) : vx_Zq C n d B U H := ⟨va_Zq.narrow h.1 hAB, vx_L.narrow h.2 hAB⟩
theorem vx_Zqof {args : Array Value} {s : State} {C n d : String} {A : Nat → Prop} (hl : (Cond.laysStatic C n d).before args s = true) (hini : (Cond.initialized C).before args s = true) (h : (Cond.isRef (.static C n d)).before args s = true) (hA : ∀ a : Nat, a < s.heap.size → ¬ A a) : vx_Zq C n d A s s.heap := by
  refine ⟨va_Zqof hl hini h hA, ?_⟩
  obtain ⟨c, k, i, f, a, cell, h1, h2, h3, h4, h5, h6, h7, h8, h9⟩ := Cond.laysStatic_spec hl
  exact ⟨c, k, i, f, a, cell, h1, h2, h3, h4, h5, h6, h7, h8, h9, hA a (Array.getElem?_eq_some_iff.mp h5).1⟩
theorem vx_isRef {C n d : String} {v : Value} {A : Nat → Prop} {s : State} {args : Array Value} (h : va_Z C n d v A s s.heap) (hv : v.isRef = true) : (Cond.isRef (.static C n d)).before args s = true := by
  obtain ⟨cf, kf, fi, f, a, cell, h1, h2, h3, h4, h5, h6, h7, -⟩ := h
  have he : (Term.static C n d).eval args s none [] s = some v := by
    simp [Term.eval, State.fieldNamed?, h1, h2, h4, h5, h6, h7]
  simp only [Cond.before, Cond.holds, Cond.value, he]
  cases v <;> simp_all [Value.isRef]
theorem vx_isRefq {C n d : String} {A : Nat → Prop} {s : State} {args : Array Value} (h : va_Zq C n d A s s.heap) : (Cond.isRef (.static C n d)).before args s = true := by
  rcases h with h | ⟨t, h⟩
  · exact vx_isRef h rfl
  · exact vx_isRef h rfl
/-- the same frame, seen from here: as if the method were called anew in this heap -/
theorem vx_rebase {T : State} (X : Stand p l e R s m args below meth c T locs cells slots) {R' : Room} (hf : R'.frames ≤ R.frames) (hl : R'.locals ≤ R.locals) (hc : cells + R'.cells ≤ R.cells) (hs : slots + R'.slots ≤ R.slots) :
    Stand p l e R' ((T.setVm s.vm).setFrames (.invoking m args :: below)) m args below meth c T [] 0 0 := by
  have htop : (T.setVm s.vm).topJava?.isSome := X.here.top
  have hF : ((T.setVm s.vm).setFrames (.invoking m args :: below)).frames = .invoking m args :: below := State.frames_setFrames _ (State.cur_lt_of_top htop)
  obtain ⟨g₀, hg0⟩ := Option.isSome_iff_exists.mp htop
  obtain ⟨r, hr⟩ := State.topJava?_eq_some.mp hg0
  have hl9 : e.platform.stackLimits (T.setVm s.vm).me = e.platform.stackLimits s.me := X.limits
  have hb9 : (T.setVm s.vm).me.stackBytes = s.me.stackBytes := X.bytes
  refine ⟨X.admits, X.cas, X.clock, hF, ?_, X.hears, X.method, X.code, X.here, X.tail, X.warmed, ?_, ?_, ?_⟩
  · have h := X.room
    have hU : ((T.setVm s.vm).setFrames (.invoking m args :: below)).localsInUse = s.localsInUse := by
      rw [State.localsInUse_invoking hF (meth := meth) (c := c) X.method X.code, State.localsInUse_invoking X.frames X.method X.code]
    simp only [State.hasRoom, Bool.and_eq_true, decide_eq_true_eq] at h ⊢
    obtain ⟨⟨⟨⟨h1, h2, h3, h4, h5, h6⟩, h7⟩, h8⟩, h9⟩ := h
    rw [X.frames, List.length_cons] at h2 h3
    have q1 := X.heapSize
    have q2 := X.used
    simp only [hF, hU, List.length_cons, State.stackLimits_setFrames, State.stackBytes_setFrames, hl9, hb9]
    refine ⟨⟨⟨⟨by omega, by omega, by omega, by omega, by omega, h6⟩, ?_⟩, ?_⟩, X.book⟩
    · show T.heap.size + R'.cells ≤ e.platform.maxCells
      omega
    · show T.slotsUsed + R'.slots ≤ e.platform.maxSlots
      omega
  · rw [State.stackLimits_setFrames]; rfl
  · rw [State.stackBytes_setFrames]; rfl
  · refine ⟨?_, Nat.le_refl _, Nat.le_refl _, ?_, ?_, fun a c9 h9 => ⟨c9, h9, rfl, rfl, fun _ _ => rfl⟩⟩
    · obtain ⟨t, ht, -⟩ := State.frames_cons hr
      show T.setVm s.vm = { ((T.setVm s.vm).setFrames (.invoking m args :: below)).setFrames (T.setVm s.vm).frames with heap := T.heap, slotsUsed := T.slotsUsed }
      rw [State.setFrames_setFrames, State.setFrames_self ht]
      rfl
    · show T.slotsUsed = T.slotsUsed + ((T.heap.toList.drop T.heap.size).map (·.slots.size)).sum
      rw [List.drop_eq_nil_of_le (Nat.le_of_eq Array.length_toList)]
      rfl
    · show ((T.heap.toList.drop T.heap.size).map (·.slots.size)).sum ≤ 0
      rw [List.drop_eq_nil_of_le (Nat.le_of_eq Array.length_toList)]
      exact Nat.le_refl _
/-- 'throw new E()': new; dup; invokespecial; athrow -/
theorem vx_throw0 {cc : ByteArray} {pc : Nat} (hexec : p.tables.exec = Jvm.exec) (hb : c.code = cc) (hl : l.stackTraces = false) {own cls : String} {names : List String} {ik ic mc ms : Nat} {A : Nat → Prop}
    (hown : s.vm.findClass own = some m.cls) (hcls : Bundle.fit cls = true) (hnames : ∀ n ∈ names, Bundle.fit n = true)
    (hk : (Cond.classLink own ik cls).before args s = true) (hini : (Cond.initialized cls).before args s = true) (hat : ∀ w ∈ vx_at0 own ic cls names, w.before args s = true)
    (hgood : ∀ w ∈ Cond.classLink own ik cls :: Cond.initialized cls :: vx_at0 own ic cls names, vx_ot w = true)
    (hU : vx_Zq Bundle.tN "UNASSIGNED_STACK" Bundle.steD A s s.heap) (hN : vx_Zq Bundle.tN "SUPPRESSED_SENTINEL" Bundle.listD A s s.heap) (hS : va_S A s.heap H locs) (hsize : ls.size = c.maxLocals)
    (d0 : decode cc pc = .ok (.new ik, 3)) (d3 : decode cc (pc + 3) = .ok (.dup, 1)) (d4 : decode cc (pc + 4) = .ok (.invokespecial ic, 3)) (d7 : decode cc (pc + 7) = .ok (.athrow, 1))
    (hout : ∀ x ∈ c.exceptionTable.toList, covers x (pc + 7) = false)
    (hRframes : names.length + 3 < R.frames) (hRlocals : (rest.map fun v => v.category).sum + (13 * (names.length + 1) + 42) ≤ R.locals) (hRcells : cells + 1 ≤ R.cells) (hRslots : slots + 6 ≤ R.slots) (hlocks : meth.locks = false)
    (hx : ∀ t : State, s.vm.Alike t.vm → H.size ≤ t.heap.size → (∀ q : Nat, q < H.size → t.heap[q]? = H[q]?) → XC cls s t)
    (hf : ∀ z ∈ locs, free z.base) (hc : cells + 1 ≤ mc) (hs : slots + 6 ≤ ms) :
    W p l e R s m args below meth c H locs cells slots (vx_MQ below Qc XC args s mc ms free) (F0 m pc ls rest) := by
  intro T hT X
  have htr : e.platform.stackTraces = false := (show e.platform.stackTraces = l.stackTraces by rw [X.admits.platform]).trans hl
  have Y := vx_rebase X (R' := { frames := R.frames, locals := R.locals, cells := 1, slots := 6 }) (Nat.le_refl _) (Nat.le_refl _) hRcells hRslots
  obtain ⟨s', hA⟩ : ∃ z, z = (T.setVm s.vm).setFrames (.invoking m args :: below) := ⟨_, rfl⟩
  rw [← hA] at Y
  have hvm : s'.vm = s.vm := by rw [hA]; rfl
  have hhp : s'.heap = H := by rw [hA]; exact hT
  have hW0 : s.WarmedH s'.vm := by rw [hvm]; exact State.WarmedH.refl s
  have hat' : ∀ w ∈ vx_at0 own ic cls names, w.before args s' = true := fun w hw => vx_ot_at hW0 hvm.symm (hgood w (List.mem_cons_of_mem _ (List.mem_cons_of_mem _ hw))) (hat w hw)
  have hk' : (Cond.classLink own ik cls).before args s' = true := vx_ot_at hW0 hvm.symm (hgood _ List.mem_cons_self) hk
  have hini' : (Cond.initialized cls).before args s' = true := vx_ot_at hW0 hvm.symm (hgood _ (List.mem_cons_of_mem _ List.mem_cons_self)) hini
  have hU' : vx_Zq Bundle.tN "UNASSIGNED_STACK" Bundle.steD A s' s'.heap := by rw [hhp]; exact vx_Zq.moved hW0.alike (hU.kept hS.2.1)
  have hN' : vx_Zq Bundle.tN "SUPPRESSED_SENTINEL" Bundle.listD A s' s'.heap := by rw [hhp]; exact vx_Zq.moved hW0.alike (hN.kept hS.2.1)
  have h : ∀ w ∈ Bundle.ownAtoms0 own ic cls names, w.before args s' = true := vx_own hat' (vx_isRefq hU'.1) (vx_isRefq hN'.1) hU'.2.word hN'.2.word
  have hown' : s'.vm.findClass own = some m.cls := by rw [hvm]; exact hown
  have hins : (Cond.instantiable cls 6).before args s' = true := h _ (by simp [Bundle.ownAtoms0])
  obtain ⟨vm₁, cX, kX, hfX, hkX, -, -, X₁, st1⟩ := Y.newCold hexec (own := own) (C := cls) (index := ik) (n := 6) hown' hk' hins hini'
    (g := F0 m pc ls rest) rfl (by rw [hb]; exact d0) (Nat.le_refl _) (Nat.le_refl _)
  generalize hT1 : (T.setVm vm₁).pushCell { cls := cX, slots := kX.instanceTypes.map defaultValue, vm := .none } = T1 at X₁ st1
  have hcat : (Value.ref T.heap.size).category = 1 := rfl
  have hcellA : T1.heap[T.heap.size]? = some (freshCell cX kX) := by rw [← hT1]; exact State.heap_pushCell_size _ _
  have d3' : decode c.code (pc + 3) = .ok (.dup, 1) := by rw [hb]; exact d3
  obtain ⟨U, hsteps, hrun, hend, hW, hsame, ce, hce, hO⟩ := X₁.ctorThrow0 hexec htr (own := own) (cls := cls) (names := names) (ic := ic) hown' hcls hnames h (fun x hx => nomatch hx) hfX hkX hcellA (by rw [hhp, hT]; exact Nat.le_refl _)
    (g := { method := m, pc := pc + 4, locals := ls, stack := .ref T.heap.size :: .ref T.heap.size :: rest, locked := none }) rfl hsize rfl rfl (rest := rest) rfl
    (by rw [hb]; exact d4) (by rw [hb]; exact d7) hout hRframes (by simp only [List.map_cons, List.sum_cons, hcat]; omega) hlocks
  obtain ⟨f1, f2⟩ := vx_frame hsame
  rw [hhp] at f1 f2
  have hWs : s.WarmedH U.vm := State.WarmedH.trans hW0 hW
  have hcl : s.vm.findClass cls = some ce.cls := by
    have h9 := hO.cls
    rw [hvm] at h9
    exact h9
  have hall : s.sameButNew ({ U with vm := s.vm } : State) locs mc ms := by
    subst hA
    obtain ⟨e1, e2⟩ := hsame
    rw [State.setFrames_setFrames] at e1
    have h2 : (T.setVm s.vm).sameButNew ({ U with vm := s.vm } : State) [] (0 + 1) (0 + 6) := ⟨e1, e2⟩
    have h3 := X.same.trans h2
    rw [List.append_nil] at h3
    exact h3.mono hc hs
  refine ⟨U, ?_, .threw T.heap.size, hrun, hend, Or.inr ⟨T.heap.size, rfl, cls, ce, locs, hx U hWs.alike f1 (fun q hq => f2 q hq (fun z hz => nomatch hz)), hce, hO.vm, hcl, hWs, hall, hf⟩⟩
  refine st1 _ ?_
  show Steps p.tables e below (T1.setTop { method := m, pc := pc + 3, locals := ls, stack := .ref T.heap.size :: rest, locked := none }) _
  jvm_step X₁.here [X₁.here.top, hexec, d3', Value.category]
  exact hsteps
/-- 'throw new E("text")': new; dup; ldc; invokespecial; athrow -/
theorem vx_throwS {cc : ByteArray} {pc : Nat} (hexec : p.tables.exec = Jvm.exec) (hb : c.code = cc) (hl : l.stackTraces = false) {own cls text : String} {names : List String} {ik is ic mc ms sa : Nat} {A : Nat → Prop}
    (hown : s.vm.findClass own = some m.cls) (hcls : Bundle.fit cls = true) (hnames : ∀ n ∈ names, Bundle.fit n = true)
    (hk : (Cond.classLink own ik cls).before args s = true) (hini : (Cond.initialized cls).before args s = true) (hstr : vk_R own is text sa s) (hat : ∀ w ∈ vx_atS own ic cls names, w.before args s = true)
    (hgood : ∀ w ∈ Cond.classLink own ik cls :: Cond.initialized cls :: vx_atS own ic cls names, vx_ot w = true)
    (hU : vx_Zq Bundle.tN "UNASSIGNED_STACK" Bundle.steD A s s.heap) (hN : vx_Zq Bundle.tN "SUPPRESSED_SENTINEL" Bundle.listD A s s.heap) (hS : va_S A s.heap H locs) (hsize : ls.size = c.maxLocals)
    (d0 : decode cc pc = .ok (.new ik, 3)) (d3 : decode cc (pc + 3) = .ok (.dup, 1)) (d4 : decode cc (pc + 4) = .ok (.ldc is, 2)) (d6 : decode cc (pc + 6) = .ok (.invokespecial ic, 3)) (d9 : decode cc (pc + 9) = .ok (.athrow, 1))
    (hout : ∀ x ∈ c.exceptionTable.toList, covers x (pc + 9) = false)
    (hRframes : names.length + 3 < R.frames) (hRlocals : (rest.map fun v => v.category).sum + (13 * (names.length + 1) + 43) ≤ R.locals) (hRcells : cells + 1 ≤ R.cells) (hRslots : slots + 6 ≤ R.slots) (hlocks : meth.locks = false)
    (hx : ∀ t : State, s.vm.Alike t.vm → H.size ≤ t.heap.size → (∀ q : Nat, q < H.size → t.heap[q]? = H[q]?) → XC cls s t)
    (hf : ∀ z ∈ locs, free z.base) (hc : cells + 1 ≤ mc) (hs : slots + 6 ≤ ms) :
    W p l e R s m args below meth c H locs cells slots (vx_MQ below Qc XC args s mc ms free) (F0 m pc ls rest) := by
  intro T hT X
  have htr : e.platform.stackTraces = false := (show e.platform.stackTraces = l.stackTraces by rw [X.admits.platform]).trans hl
  have Y := vx_rebase X (R' := { frames := R.frames, locals := R.locals, cells := 1, slots := 6 }) (Nat.le_refl _) (Nat.le_refl _) hRcells hRslots
  obtain ⟨s', hA⟩ : ∃ z, z = (T.setVm s.vm).setFrames (.invoking m args :: below) := ⟨_, rfl⟩
  rw [← hA] at Y
  have hvm : s'.vm = s.vm := by rw [hA]; rfl
  have hhp : s'.heap = H := by rw [hA]; exact hT
  have hW0 : s.WarmedH s'.vm := by rw [hvm]; exact State.WarmedH.refl s
  have hat' : ∀ w ∈ vx_atS own ic cls names, w.before args s' = true := fun w hw => vx_ot_at hW0 hvm.symm (hgood w (List.mem_cons_of_mem _ (List.mem_cons_of_mem _ hw))) (hat w hw)
  have hk' : (Cond.classLink own ik cls).before args s' = true := vx_ot_at hW0 hvm.symm (hgood _ List.mem_cons_self) hk
  have hini' : (Cond.initialized cls).before args s' = true := vx_ot_at hW0 hvm.symm (hgood _ (List.mem_cons_of_mem _ List.mem_cons_self)) hini
  have hU' : vx_Zq Bundle.tN "UNASSIGNED_STACK" Bundle.steD A s' s'.heap := by rw [hhp]; exact vx_Zq.moved hW0.alike (hU.kept hS.2.1)
  have hN' : vx_Zq Bundle.tN "SUPPRESSED_SENTINEL" Bundle.listD A s' s'.heap := by rw [hhp]; exact vx_Zq.moved hW0.alike (hN.kept hS.2.1)
  have h : ∀ w ∈ Bundle.ownAtoms own ic cls names, w.before args s' = true := vx_own hat' (vx_isRefq hU'.1) (vx_isRefq hN'.1) hU'.2.word hN'.2.word
  have hown' : s'.vm.findClass own = some m.cls := by rw [hvm]; exact hown
  have hins : (Cond.instantiable cls 6).before args s' = true := h _ (by simp [Bundle.ownAtoms])
  obtain ⟨vm₁, cX, kX, hfX, hkX, -, -, X₁, st1⟩ := Y.newCold hexec (own := own) (C := cls) (index := ik) (n := 6) hown' hk' hins hini'
    (g := F0 m pc ls rest) rfl (by rw [hb]; exact d0) (Nat.le_refl _) (Nat.le_refl _)
  generalize hT1 : (T.setVm vm₁).pushCell { cls := cX, slots := kX.instanceTypes.map defaultValue, vm := .none } = T1 at X₁ st1
  have hcat : (Value.ref T.heap.size).category = 1 := rfl
  have hcellA : T1.heap[T.heap.size]? = some (freshCell cX kX) := by rw [← hT1]; exact State.heap_pushCell_size _ _
  have d3' : decode c.code (pc + 3) = .ok (.dup, 1) := by rw [hb]; exact d3
  have d4' : decode c.code (pc + 4) = .ok (.ldc is, 2) := by rw [hb]; exact d4
  have hstr' : vk_R own is text sa s' := vk_R.warm hW0 hstr
  obtain ⟨U, hsteps, hrun, hend, hW, hsame, ce, hce, hO⟩ := X₁.ctorThrowS hexec htr (own := own) (cls := cls) (names := names) (ic := ic) hown' hcls hnames h (fun x hx => nomatch hx) hfX hkX hcellA (by rw [hhp, hT]; exact Nat.le_refl _) (msg := .ref sa) rfl
    (g := { method := m, pc := pc + 6, locals := ls, stack := .ref sa :: .ref T.heap.size :: .ref T.heap.size :: rest, locked := none }) rfl hsize rfl rfl (rest := rest) rfl
    (by rw [hb]; exact d6) (by rw [hb]; exact d9) hout hRframes (by simp only [List.map_cons, List.sum_cons, hcat]; omega) hlocks
  obtain ⟨f1, f2⟩ := vx_frame hsame
  rw [hhp] at f1 f2
  have hWs : s.WarmedH U.vm := State.WarmedH.trans hW0 hW
  have hcl : s.vm.findClass cls = some ce.cls := by
    have h9 := hO.cls
    rw [hvm] at h9
    exact h9
  have hall : s.sameButNew ({ U with vm := s.vm } : State) locs mc ms := by
    subst hA
    obtain ⟨e1, e2⟩ := hsame
    rw [State.setFrames_setFrames] at e1
    have h2 : (T.setVm s.vm).sameButNew ({ U with vm := s.vm } : State) [] (0 + 1) (0 + 6) := ⟨e1, e2⟩
    have h3 := X.same.trans h2
    rw [List.append_nil] at h3
    exact h3.mono hc hs
  refine ⟨U, ?_, .threw T.heap.size, hrun, hend, Or.inr ⟨T.heap.size, rfl, cls, ce, locs, hx U hWs.alike f1 (fun q hq => f2 q hq (fun z hz => nomatch hz)), hce, hO.vm, hcl, hWs, hall, hf⟩⟩
  refine st1 _ ?_
  show Steps p.tables e below (T1.setTop { method := m, pc := pc + 3, locals := ls, stack := .ref T.heap.size :: rest, locked := none }) _
  jvm_step X₁.here [X₁.here.top, hexec, d3', Value.category]
  exact X₁.ldcString hexec (own := own) (text := text) (index := is) (a := sa) hown' hstr'.1 hstr'.2
    (g := { method := m, pc := pc + 4, locals := ls, stack := .ref T.heap.size :: .ref T.heap.size :: rest, locked := none }) rfl d4' _ hsteps
end Ends
section Bodies
variable {l : Launch}
theorem vx_ofW {y : MethodName} {ws ws' : List Cond} {rm : Room} {Pc : Array Value → State → Prop} {Qc : Array Value → State → Outcome → State → Prop} {XC : String → State → State → Prop} {mc ms : Nat} {free : Addr → Prop} {cc : ByteArray} {maxL : Nat} {ret : Option FieldType}
    (hy : plainName y.cls = true) (hw : ws = Cond.code y cc maxL ret :: ws')
    (body : ∀ p e s m args below meth c s₁, BodyLoose p l y (headSpec ws rm) cc maxL ret e s m args below meth c s₁ → c.maxLocals = maxL → (∀ x ∈ c.exceptionTable.toList, False) → Pc args s →
      W p l e (headSpec ws rm).room s m args below meth c s.heap [] 0 0 (vx_MQ below Qc XC args s mc ms free) (entryFrame m args maxL)) : vx_Met l y ws rm Pc Qc XC mc ms free := by
  refine MetFree.of_bodyS (code := cc) (maxLocals := maxL) (ret := ret) hy ?_ ?_
  · intro args s m h hn
    obtain ⟨meth, c, h1, h2, h3, h4, h5, h6, -, -⟩ := Cond.code_spec hn (atoms_spec (ws := ws) h _ (by rw [hw]; exact List.mem_cons_self))
    exact ⟨meth, c, h1, h2, h3, h4, h5, h6⟩
  · intro p e s m args below meth c s₁ B hml hP _
    have hh0 : s₁.heap = s.heap := by rw [B.state]; rfl
    have ht : ∀ x ∈ c.exceptionTable.toList, False := by
      obtain ⟨meth9, c9, h1, h2, -, -, -, -, h7, -⟩ := Cond.code_spec B.named (atoms_spec (ws := ws) B.pre _ (by rw [hw]; exact List.mem_cons_self))
      cases Option.some.inj (h1.symm.trans B.method)
      cases Option.some.inj (h2.symm.trans (Stand.of_body B).code)
      intro x hx
      rw [Array.isEmpty_iff.mp h7] at hx
      cases hx
    obtain ⟨t, a1, o, b1, b2, b3⟩ := body p e s m args below meth c s₁ B hml ht hP s₁ hh0 (Stand.of_body B)
    exact ⟨t, o, a1, b1, b2, b3⟩
/-- the table of a body with handlers -/
theorem vx_table {p : Program} {x y : MethodName} {S : Spec} {cc bytes : ByteArray} {maxL maxL' : Nat} {ret ret' : Option FieldType} {e : Env} {s s₁ : State} {m : MethodId} {args : Array Value} {below : List Frame} {meth : Method} {c : Code} {hh : List (Nat × Nat × Nat × Nat)}
    (B : BodyLoose p l y S cc maxL ret e s m args below meth c s₁) (h : (Cond.codeWith y bytes maxL' ret' hh).before args s = true) : c.exceptionTable.toList = tableOf hh := by
  obtain ⟨m9, meth9, c9, hn9, h1, h2, -, -, h6, -⟩ := Cond.codeWith_spec h
  cases Option.some.inj (hn9.symm.trans B.named)
  cases Option.some.inj (h1.symm.trans B.method)
  cases Option.some.inj (h2.symm.trans (Stand.of_body B).code)
  rw [← h6, table_eq]
end Bodies
end VXA
/-! ===== END ===== -/
/-! ===== BEGIN a static call of a method with an exception table ===== -/
section VXS
variable {p : Program} {l : Launch} {e : Env} {R : Room} {s : State} {m : MethodId} {args : Array Value} {below : List Frame} {meth : Method} {c : Code} {T : State} {H : Heap} {locs : List Loc} {cells slots : Nat}
noncomputable abbrev vx_CSW (R : Room) (s : State) (args : Array Value) (own : String) (index : Nat) (y : MethodName) (bytes : ByteArray) (maxL : Nat) (ret : Option FieldType) (hh : List (Nat × Nat × Nat × Nat)) (ws : List Cond) (rm : Room) (mc ms n : Nat) : Prop :=
  (rm.cells = mc ∧ rm.slots = ms ∧ rm.frames + 1 ≤ R.frames ∧ 8 + (maxL + 11) + rm.locals ≤ R.locals ∧ (∀ w ∈ ws, ∀ (a' : Array Value) (U : State), s.WarmedH U.vm → w.before a' U = true) ∧ Cond.codeWith y bytes maxL ret hh ∈ ws) ∧
  (Cond.codeWith y bytes maxL ret hh).before args s = true ∧ (Cond.initialized y.cls).before args s = true ∧ (y.cls ≠ "java/lang/invoke/MethodHandle" ∧ y.cls ≠ "java/lang/invoke/VarHandle") ∧
  (∀ sig, parseMethodDescriptor y.desc = some sig → n = sig.parameters.length) ∧ (Cond.methodLink own index y).before args s = true ∧ (Cond.static y).before args s = true
theorem vx_callSW (X : Stand p l e R s m args below meth c T locs cells slots) (hexec : p.tables.exec = Jvm.exec) {own : String} {index : Nat} {y : MethodName} {bytes : ByteArray} {maxL : Nat} {ret : Option FieldType} {hh : List (Nat × Nat × Nat × Nat)}
    (hown : s.vm.findClass own = some m.cls) (hlink : (Cond.methodLink own index y).before args s = true) (hstat : (Cond.static y).before args s = true) (hinit : (Cond.initialized y.cls).before args s = true)
    (hcode : (Cond.codeWith y bytes maxL ret hh).before args s = true) (hy : y.cls ≠ "java/lang/invoke/MethodHandle" ∧ y.cls ≠ "java/lang/invoke/VarHandle")
    {W9 : Nat} {Pre : Pt → Array Value → Prop} {Post : Pt → Array Value → Option Value → Pt → Prop} (hK : Back l R p e below s args y 3 W9 Pre Post)
    {g : JFrame} (hg : g.method = m) (hsize : g.locals.size = c.maxLocals) {argsL rest : List Value} (hlen : ∀ sig, parseMethodDescriptor y.desc = some sig → argsL.length = sig.parameters.length)
    (hstack : g.stack = argsL.reverse ++ rest) (hW : 2 * g.monitorRoom + (rest.map fun v => v.category).sum ≤ W9) (hdg : decode c.code g.pc = .ok (.invokestatic index, 3))
    (hpre : ∀ vm₁, s.WarmedH vm₁ → Pre ⟨T.setVm vm₁, locs, cells, slots⟩ argsL.toArray) :
    ∃ (v : Option Value) (vm₁ : Vm) (B : Pt), s.WarmedH vm₁ ∧ Stand p l e R s m args below meth c B.U B.locs B.cells B.slots ∧ Post ⟨T.setVm vm₁, locs, cells, slots⟩ argsL.toArray v B ∧
      ∀ target, Steps p.tables e below (B.U.setTop { g with pc := g.pc + 3, stack := v.toList ++ rest }) target → Steps p.tables e below (T.setTop g) target := by
  obtain ⟨mk, methM, cM, hnamed, hmethM, -, -, -, -, -, -, hsigM⟩ := Cond.codeWith_spec hcode
  have hstatic : methM.isStatic = true := Cond.static_spec hnamed hmethM hstat
  obtain ⟨kP, hkP, -⟩ := className_of_methodNamed hnamed
  have hinitP : kP.init = .initialized := Cond.initialized_spec (findClass_of_methodNamed hnamed) hkP hinit
  obtain ⟨vm₁, X₁, hstep₁⟩ := X.invokestatic hexec hown hlink hnamed hmethM hstatic hkP hinitP hy (g := g) hg (argsL := argsL) (rest := rest) (hlen _ hsigM) hstack hdg
  obtain ⟨v, B, X', hpost, hsteps⟩ := hK m meth c ⟨T.setVm vm₁, locs, cells, slots⟩ { g with stack := rest } (.invokestatic index) mk argsL.toArray X₁ hg hsize hdg hW (X₁.named hnamed) (hpre vm₁ X₁.warmed)
  exact ⟨v, vm₁, B, X₁.warmed, X', hpost, fun target h => hstep₁ _ fun acts => by rw [doInvoke_state]; exact hsteps.trans h⟩
theorem vx_runSW {y : MethodName} {bytes cc : ByteArray} {maxL nL mc ms n index : Nat} {ret : Option FieldType} {hh : List (Nat × Nat × Nat × Nat)} {ws : List Cond} {rm : Room} {Pc : Array Value → State → Prop} {Qc : Array Value → State → Outcome → State → Prop} {free : Addr → Prop} {Ts : List Cond} {own : String} {As rest : List Value} {g : JFrame}
    (S : CallFix p m c cc nL s args Ts own) (hM : Met l y ws rm Pc Qc mc ms free) (cw : vx_CSW R s args own index y bytes maxL ret hh ws rm mc ms n) (hp : PreS s H Pc As)
    (hg : g.method = m) (hn : As.length = n) (hsize : g.locals.size = nL) (hstack : g.stack = As.reverse ++ rest) (hW : 2 * g.monitorRoom + (rest.map fun v => v.category).sum ≤ 8) (hdg : decode cc g.pc = .ok (.invokestatic index, 3)) (hf : cells + mc ≤ R.cells ∧ slots + ms ≤ R.slots) :
    va_Run p l e R s m args below meth c H locs cells slots mc ms g rest (Qc As.toArray) (free) := by
  obtain ⟨⟨hrc, hrs, hfr, hlo, hws, hcw⟩, hcode, hini, hy, hlen, hl, hstt⟩ := cw
  have hK : Back l R p e below s args y 3 8 (PreOf R mc ms Pc) (PostOf Qc mc ms free) := va_backW (hh := hh) (bytes := bytes) (maxL := maxL) (ret := ret) hM hp.1 hrc hrs hfr hlo hws hcw (fun a' U hW => word_at hW (Or.inl (by first | rfl | simp [Cond.onTables, Cond.keeps, Cond.steady])) hini)
  obtain ⟨hx, hb, hml, ho, -⟩ := S
  intro T hT X
  obtain ⟨v, vm₁, ⟨U', l2, c2, s2⟩, hW₁, X', ⟨g', mk, t, L, e1, e2, hq, h1, hL, h2, h3⟩, st⟩ := vx_callSW X hx (hh := hh) (bytes := bytes) (maxL := maxL) (ret := ret) ho hl hstt hini hcode hy hK hg (hsize.trans hml.symm) (argsL := As) (rest := rest) (fun sig h => hn.trans (hlen sig h)) hstack hW (by rw [hb]; exact hdg)
    (fun vm₁ hW₁ => ⟨hf.1, hf.2, hp.2 (T.setVm vm₁) hT hW₁⟩)
  dsimp only [Pt.U, Pt.locs, Pt.cells, Pt.slots] at X' e1 e2 h1 h2 h3 st
  subst h1; subst h2; subst h3
  exact ⟨v, (T.setVm vm₁).calling g' mk As.toArray, t, U', L, hT, X', hL, e1, e2, hq, st⟩
/-- not caught here, past rows that name other classes: it goes on to the caller -/
theorem vx_outP {p : Program} {l : Launch} {e : Env} {R : Room} {s : State} {m : MethodId} {args : Array Value} {below : List Frame} {meth : Method} {c : Code} {H : Heap} {locs : List Loc} {cells slots : Nat} {free : Addr → Prop} {ls : Array Slot} {rest : List Value} {Qc : Array Value → State → Outcome → State → Prop} {XC : String → State → State → Prop}
    {pc : Nat} {own E : String} {ce : Cell} {q : Addr} {mc ms : Nat} (hown : s.vm.findClass own = some m.cls) (hlocks : meth.locks = false)
    (hpass : ∀ z ∈ c.exceptionTable.toList, covers z pc = false ∨ (z.catchType ≠ 0 ∧ ∃ nm : String, (Cond.classLink own z.catchType nm).before args s = true ∧ va_Nc E nm s)) (hcell : H[q]? = some ce) (hv : ce.vm = .none) (hcl : s.vm.findClass E = some ce.cls)
    (hx : ∀ t : State, t.heap = H → s.vm.Alike t.vm → XC E s t) (hf : ∀ z ∈ locs, free z.base) (hc : cells ≤ mc) (hs : slots ≤ ms) :
    vx_W p l e R s m args below meth c H locs cells slots (vx_MQ below Qc XC args s mc ms free) (F0 m pc ls rest) q := by
  intro T hT X
  have hpl : e.platform.magicAccessors = ({} : Platform).magicAccessors := by rw [X.admits.platform]
  obtain ⟨vm', hW', X', st⟩ := Jvm.Stand.outThrough X hlocks q (g := F0 m pc ls rest) rfl rfl rfl (cell := ce) (by rw [hT]; exact hcell) (by rw [hv]; rfl)
    (by obtain ⟨k9, h9, -⟩ := Vm.findClass_spec hcl; exact ⟨k9, h9⟩) (fun z hz => by
      rcases hpass z hz with h | ⟨hz0, nm, hl1, hn1⟩
      · exact Or.inl h
      · obtain ⟨c6, hc6, hcl6⟩ := Cond.classLink_spec hown hl1 e.platform hpl
        obtain ⟨a8, b8, h1, h2, h3⟩ := hn1
        cases Option.some.inj (h1.symm.trans hcl)
        cases Option.some.inj (h2.symm.trans hc6)
        exact Or.inr ⟨hz0, _, hcl6, h3⟩)
  obtain ⟨g₀, hfr⟩ := X'.frames_eq
  have hcell9 : ((T.setVm vm').setFrames (.throwing q :: below)).heap[q]? = some ce := by
    show T.heap[q]? = some ce
    rw [hT]; exact hcell
  have hend : Ended ((T.setVm vm').setFrames (.throwing q :: below)) below (.threw q) := State.frames_setFrames _ (State.cur_lt_of_frames hfr)
  refine ⟨(T.setVm vm').setFrames (.throwing q :: below), ?_, .threw q, X'.here.running, hend, Or.inr ⟨q, rfl, E, ce, locs, hx _ hT (X'.ends _).1.alike, hcell9, hv, hcl, (X'.ends _).1, (X'.ends _).2.mono hc hs, hf⟩⟩
  rw [X.pushThrowing_eq]
  exact st
end VXS
/-! ===== END ===== -/
/-! ===== BEGIN methods with a table of their own: called by a name, returning or throwing ===== -/
section VXH
/-! vx_backW, vx_callVX, vx_callSX, vx_callVW, vx_runVW, vx_runVX, vx_runSX, vx_ofWH follow the same proofs as their sisters above (Free/Laws.lean, Shelf42/LK1.lean); vx_outP calls Shelf42/NT130.lean (outThrough). -/
section
variable {l : Launch} {R : Room} {p : Program} {e : Env} {below : List Frame} {s : State} {sargs : Array Value} {y : MethodName} {len W9 : Nat}
theorem vx_backW {ws : List Cond} {rm : Room} {Pc : Array Value → State → Prop} {Qc : Array Value → State → Outcome → State → Prop} {XC : String → State → State → Prop} {mc ms : Nat} {free : Addr → Prop} {bytes : ByteArray} {maxL : Nat} {ret : Option FieldType} {hh : List (Nat × Nat × Nat × Nat)}
    (hM : vx_Met l y ws rm Pc Qc XC mc ms free) (hblind : FrameBlind Pc) (hrc : rm.cells = mc) (hrs : rm.slots = ms)
    (hframes : rm.frames + 1 ≤ R.frames) (hlocals : W9 + (maxL + 11) + rm.locals ≤ R.locals)
    (hws : ∀ w ∈ ws, ∀ a' U, s.WarmedH U.vm → w.before a' U = true) (hcode : Cond.codeWith y bytes maxL ret hh ∈ ws) (hinit : ∀ a' U, s.WarmedH U.vm → (Cond.initialized y.cls).before a' U = true) :
    vx_Back l R p e below s sargs y len W9 (PreOf R mc ms Pc) (PostOf Qc mc ms free) (vx_Post XC mc ms free) := by
  intro m meth c A g ig mk a X hg hsize hdg hW hn hp
  have h1 : (headSpec ws rm).pre.before a A.U = true := atoms_intro fun w hw => hws w hw _ _ X.warmed
  have h2 : (Cond.codeWith y bytes maxL ret hh).before a A.U = true := hws _ hcode _ _ X.warmed
  have h3 : (Cond.initialized y.cls).before a A.U = true := hinit _ _ X.warmed
  have h4 : A.cells + (headSpec ws rm).room.cells ≤ R.cells := by rw [show (headSpec ws rm).room.cells = mc from hrc]; exact hp.1
  have h5 : A.slots + (headSpec ws rm).room.slots ≤ R.slots := by rw [show (headSpec ws rm).room.slots = ms from hrs]; exact hp.2.1
  have hPc : Pc a (A.U.calling g mk a) := hblind _ _ _ _ hp.2.2
  obtain ⟨U, Ls, c0, s0⟩ := A
  dsimp only [Pt.U, Pt.locs, Pt.cells, Pt.slots] at h1 h2 h3 h4 h5 X hn hPc ⊢
  obtain ⟨m9, methY, cY, hn9, hmY, hcY, -, hlY, -⟩ := Cond.codeWith_spec h2
  cases Option.some.inj (hn9.symm.trans hn)
  obtain ⟨kY, hkY, -⟩ := className_of_methodNamed hn
  have hinitY : kY.init = .initialized := Cond.initialized_spec (findClass_of_methodNamed hn) hkY h3
  have h : At U g.method c below := by rw [hg]; exact X.here
  have hlocals9 : W9 + (maxL + 11) + (headSpec ws rm).room.locals ≤ R.locals := hlocals
  have happ : (headSpec ws rm).appliesLoose y e.platform (U.calling g mk a) = true :=
    Spec.appliesLoose_calling (g := g) h hdg hn hkY hinitY
      (X.room_calling (g := g) (R' := (headSpec ws rm).room) hsize hmY hcY hframes (by rw [hlY]; omega) h4 h5) h1
  obtain ⟨mid, hmid⟩ := h.above
  have hfr : (U.setTop g).frames = (.java g :: mid) ++ below := by rw [State.frames_setTop' g h.top, hmid]; rfl
  obtain ⟨o, s₂, hsteps, -, hend, hq⟩ := Steps.callFree hM p X.admits X.cas X.clock (acts := []) hfr happ hPc trivial
  have hq' : vx_Q Qc XC mc ms free a (U.calling g mk a) o s₂ := hq
  rw [State.frames_setTop' g h.top] at hend
  obtain ⟨g₀, hg0⟩ := Option.isSome_iff_exists.mp h.top
  obtain ⟨r, hr⟩ := State.topJava?_eq_some.mp hg0
  have hr' : (({ U with heap := s₂.heap, slotsUsed := s₂.slotsUsed } : State).setVm s₂.vm).frames = .java g₀ :: r := hr
  rcases hq' with ⟨hqc, L, hfe, hL⟩ | ⟨q, rfl, E, ce, L, hx, hce, hcv, hcl, hW₂, hsm, hL⟩
  · obtain ⟨⟨v, rfl⟩, hW₂, e2, q2, q3, q4, q5, q6⟩ := id hfe
    have e3 : s₂ = ({ (U.calling g mk a).setFrames s₂.frames with heap := s₂.heap, slotsUsed := s₂.slotsUsed } : State).setVm s₂.vm := by
      have : s₂ = ({ s₂ with vm := (U.calling g mk a).vm } : State).setVm s₂.vm := rfl
      rw [e2] at this
      exact this
    obtain ⟨c₂, i₂, len₂, hc₂, hd₂, hf₂⟩ := hend
    have hW' : U.WarmedH s₂.vm := hW₂
    have hcc : c₂ = c := by
      have h1 : s₂.code? g.method = U.code? g.method := by
        rw [State.code?_eq, State.code?_eq, hW'.alike.method?]
      exact Option.some.inj (hc₂.symm.trans (h1.trans h.code))
    subst hcc
    have hlen : len₂ = len := by rw [hdg] at hd₂; cases hd₂; rfl
    subst hlen
    have hs₂ : s₂ = (({ U with heap := s₂.heap, slotsUsed := s₂.slotsUsed } : State).setVm s₂.vm).setTop { g with pc := g.pc + len₂, stack := v.toList ++ g.stack } := by
      refine e3.trans ?_
      rw [hf₂, State.calling_eq h.top, State.setFrames_setFrames, State.setTop_of_frames _ hr', hr]
      rfl
    have hsame : U.sameButNew ({ U with heap := s₂.heap, slotsUsed := s₂.slotsUsed } : State) L mc ms := by
      refine ⟨?_, q2, q3, q4, q5, q6⟩
      obtain ⟨t, ht, -⟩ := State.frames_cons hr
      show ({ U with heap := s₂.heap, slotsUsed := s₂.slotsUsed } : State) = { U.setFrames U.frames with heap := s₂.heap, slotsUsed := s₂.slotsUsed }
      rw [State.setFrames_self ht]
    subst hg
    refine Or.inl ⟨v, ⟨(({ U with heap := s₂.heap, slotsUsed := s₂.slotsUsed } : State).setVm s₂.vm), Ls ++ L, c0 + mc, s0 + ms⟩,
      ⟨X.admits, X.cas, X.clock, X.frames, X.room, X.hears, X.method, X.code, (X.here.setHeapUsed s₂.heap s₂.slotsUsed).setVm hW'.alike, X.tail, State.WarmedH.trans X.warmed hW', X.limits, X.bytes, X.same.trans (hsame.setVm s.vm)⟩,
      ⟨g, mk, s₂, L, rfl, rfl, hqc, rfl, hL, rfl, rfl⟩, ?_⟩
    show Steps p.tables e below _ ((({ U with heap := s₂.heap, slotsUsed := s₂.slotsUsed } : State).setVm s₂.vm).setTop { g with pc := g.pc + len₂, stack := v.toList ++ g.stack })
    rw [← hs₂]
    exact hsteps
  · obtain ⟨e2, q2, q3, q4, q5, q6⟩ := id hsm
    have e3 : s₂ = ({ (U.calling g mk a).setFrames s₂.frames with heap := s₂.heap, slotsUsed := s₂.slotsUsed } : State).setVm s₂.vm := by
      have : s₂ = ({ s₂ with vm := (U.calling g mk a).vm } : State).setVm s₂.vm := rfl
      rw [e2] at this
      exact this
    have hf₂ : s₂.frames = .throwing q :: .java g :: U.frames.tail := hend
    have hW' : U.WarmedH s₂.vm := hW₂
    have hs₂ : s₂ = ((({ U with heap := s₂.heap, slotsUsed := s₂.slotsUsed } : State).setVm s₂.vm).setTop g).pushFrame (.throwing q) := by
      refine e3.trans ?_
      rw [hf₂, State.calling_eq h.top, State.setFrames_setFrames, State.pushFrame, State.frames_setTop _ hr', State.setTop_of_frames _ hr', State.setFrames_setFrames, hr]
      rfl
    have hsame : U.sameButNew ({ U with heap := s₂.heap, slotsUsed := s₂.slotsUsed } : State) L mc ms := by
      refine ⟨?_, q2, q3, q4, q5, q6⟩
      obtain ⟨t, ht, -⟩ := State.frames_cons hr
      show ({ U with heap := s₂.heap, slotsUsed := s₂.slotsUsed } : State) = { U.setFrames U.frames with heap := s₂.heap, slotsUsed := s₂.slotsUsed }
      rw [State.setFrames_self ht]
    subst hg
    refine Or.inr ⟨q, ⟨(({ U with heap := s₂.heap, slotsUsed := s₂.slotsUsed } : State).setVm s₂.vm), Ls ++ L, c0 + mc, s0 + ms⟩,
      ⟨X.admits, X.cas, X.clock, X.frames, X.room, X.hears, X.method, X.code, (X.here.setHeapUsed s₂.heap s₂.slotsUsed).setVm hW'.alike, X.tail, State.WarmedH.trans X.warmed hW', X.limits, X.bytes, X.same.trans (hsame.setVm s.vm)⟩,
      ⟨g, mk, s₂, L, E, ce, rfl, rfl, hx, hce, hcv, hcl, rfl, hL, rfl, rfl⟩, ?_⟩
    show Steps p.tables e below _ (((({ U with heap := s₂.heap, slotsUsed := s₂.slotsUsed } : State).setVm s₂.vm).setTop g).pushFrame (.throwing q))
    rw [← hs₂]
    exact hsteps
end
variable {p : Program} {l : Launch} {e : Env} {R : Room} {s : State} {m : MethodId} {args : Array Value} {below : List Frame} {meth : Method} {c : Code} {T : State} {H : Heap} {locs : List Loc} {cells slots : Nat}
theorem vx_callVX (X : Stand p l e R s m args below meth c T locs cells slots) (hexec : p.tables.exec = Jvm.exec) {own C : String} {index : Nat} {y : MethodName} {bytes : ByteArray} {maxL : Nat} {ret : Option FieldType} {hh : List (Nat × Nat × Nat × Nat)}
    (hown : s.vm.findClass own = some m.cls) (hlink : (Cond.methodLink own index y).before args s = true) (hinst : (Cond.instanceMethod y).before args s = true) (hsel : (Cond.selects C y y).before args s = true)
    (hcode : (Cond.codeWith y bytes maxL ret hh).before args s = true) (hy : y.cls ≠ "java/lang/invoke/MethodHandle" ∧ y.cls ≠ "java/lang/invoke/VarHandle")
    {W9 : Nat} {Pre : Pt → Array Value → Prop} {Post : Pt → Array Value → Option Value → Pt → Prop} {PostX : Pt → Array Value → Addr → Pt → Prop} (hK : vx_Back l R p e below s args y 3 W9 Pre Post PostX)
    {b : Addr} {cellB : Cell} (hcell : T.heap[b]? = some cellB) (hobj : cellB.vm.isStatics = false) (hcls : s.vm.findClass C = some cellB.cls)
    {g : JFrame} (hg : g.method = m) (hsize : g.locals.size = c.maxLocals) {argsL rest : List Value} (hlen : ∀ sig, parseMethodDescriptor y.desc = some sig → argsL.length = sig.parameters.length)
    (hstack : g.stack = argsL.reverse ++ .ref b :: rest) (hW : 2 * g.monitorRoom + (rest.map fun v => v.category).sum ≤ W9) (hdg : decode c.code g.pc = .ok (.invokevirtual index, 3))
    (hpre : ∀ vm₁, s.WarmedH vm₁ → Pre ⟨T.setVm vm₁, locs, cells, slots⟩ (Value.ref b :: argsL).toArray) :
    (∃ (v : Option Value) (vm₁ : Vm) (B : Pt), s.WarmedH vm₁ ∧ Stand p l e R s m args below meth c B.U B.locs B.cells B.slots ∧ Post ⟨T.setVm vm₁, locs, cells, slots⟩ (Value.ref b :: argsL).toArray v B ∧
      ∀ target, Steps p.tables e below (B.U.setTop { g with pc := g.pc + 3, stack := v.toList ++ rest }) target → Steps p.tables e below (T.setTop g) target) ∨
    (∃ (q : Addr) (vm₁ : Vm) (B : Pt), s.WarmedH vm₁ ∧ Stand p l e R s m args below meth c B.U B.locs B.cells B.slots ∧ PostX ⟨T.setVm vm₁, locs, cells, slots⟩ (Value.ref b :: argsL).toArray q B ∧
      Steps p.tables e below (T.setTop g) ((B.U.setTop { g with stack := rest }).pushFrame (.throwing q))) := by
  obtain ⟨mk, methM, hnamed, hmethM, hstM, habM⟩ := Cond.instanceMethod_spec hinst
  obtain ⟨m8, methM', cM, hn8, hmethM', -, -, -, -, -, -, hsigM⟩ := Cond.codeWith_spec hcode
  cases Option.some.inj (hn8.symm.trans hnamed)
  cases hmethM.symm.trans hmethM'
  obtain ⟨c2, r2, m2, q1, q2, q3, q4, kP, hkP, hkPi⟩ := Cond.selects_spec hsel
  cases hcls.symm.trans q1
  cases (State.methodFound?_of_named hnamed hy).symm.trans q2
  cases hnamed.symm.trans q3
  have hselP : selectMethod e.platform s.vm cellB.cls mk = .method mk := by rw [Launch.admits_selectMethod X.admits]; exact q4
  obtain ⟨vm₁, X₁, hstep₁⟩ := X.invokevirtual hexec hown hlink hnamed hmethM hstM hkP hkPi hy (a := b) (cell := cellB) hcell
    (fun z h => by rw [h] at hobj; cases hobj) hselP hmethM habM hkP hkPi (g := g) hg (argsL := argsL) (rest := rest) (hlen _ hsigM) hstack hdg
  rcases hK m meth c ⟨T.setVm vm₁, locs, cells, slots⟩ { g with stack := rest } (.invokevirtual index) mk (Value.ref b :: argsL).toArray X₁ hg hsize hdg hW (X₁.named hnamed) (hpre vm₁ X₁.warmed) with ⟨v, B, X', hpost, hsteps⟩ | ⟨q, B, X', hpost, hsteps⟩
  · exact Or.inl ⟨v, vm₁, B, X₁.warmed, X', hpost, fun target h => hstep₁ _ fun acts => by rw [doInvoke_state]; exact hsteps.trans h⟩
  · exact Or.inr ⟨q, vm₁, B, X₁.warmed, X', hpost, hstep₁ _ fun acts => by rw [doInvoke_state]; exact hsteps⟩
theorem vx_callSX (X : Stand p l e R s m args below meth c T locs cells slots) (hexec : p.tables.exec = Jvm.exec) {own : String} {index : Nat} {y : MethodName} {bytes : ByteArray} {maxL : Nat} {ret : Option FieldType} {hh : List (Nat × Nat × Nat × Nat)}
    (hown : s.vm.findClass own = some m.cls) (hlink : (Cond.methodLink own index y).before args s = true) (hstat : (Cond.static y).before args s = true) (hinit : (Cond.initialized y.cls).before args s = true)
    (hcode : (Cond.codeWith y bytes maxL ret hh).before args s = true) (hy : y.cls ≠ "java/lang/invoke/MethodHandle" ∧ y.cls ≠ "java/lang/invoke/VarHandle")
    {W9 : Nat} {Pre : Pt → Array Value → Prop} {Post : Pt → Array Value → Option Value → Pt → Prop} {PostX : Pt → Array Value → Addr → Pt → Prop} (hK : vx_Back l R p e below s args y 3 W9 Pre Post PostX)
    {g : JFrame} (hg : g.method = m) (hsize : g.locals.size = c.maxLocals) {argsL rest : List Value} (hlen : ∀ sig, parseMethodDescriptor y.desc = some sig → argsL.length = sig.parameters.length)
    (hstack : g.stack = argsL.reverse ++ rest) (hW : 2 * g.monitorRoom + (rest.map fun v => v.category).sum ≤ W9) (hdg : decode c.code g.pc = .ok (.invokestatic index, 3))
    (hpre : ∀ vm₁, s.WarmedH vm₁ → Pre ⟨T.setVm vm₁, locs, cells, slots⟩ argsL.toArray) :
    (∃ (v : Option Value) (vm₁ : Vm) (B : Pt), s.WarmedH vm₁ ∧ Stand p l e R s m args below meth c B.U B.locs B.cells B.slots ∧ Post ⟨T.setVm vm₁, locs, cells, slots⟩ argsL.toArray v B ∧
      ∀ target, Steps p.tables e below (B.U.setTop { g with pc := g.pc + 3, stack := v.toList ++ rest }) target → Steps p.tables e below (T.setTop g) target) ∨
    (∃ (q : Addr) (vm₁ : Vm) (B : Pt), s.WarmedH vm₁ ∧ Stand p l e R s m args below meth c B.U B.locs B.cells B.slots ∧ PostX ⟨T.setVm vm₁, locs, cells, slots⟩ argsL.toArray q B ∧
      Steps p.tables e below (T.setTop g) ((B.U.setTop { g with stack := rest }).pushFrame (.throwing q))) := by
  obtain ⟨mk, methM, cM, hnamed, hmethM, -, -, -, -, -, -, hsigM⟩ := Cond.codeWith_spec hcode
  have hstatic : methM.isStatic = true := Cond.static_spec hnamed hmethM hstat
  obtain ⟨kP, hkP, -⟩ := className_of_methodNamed hnamed
  have hinitP : kP.init = .initialized := Cond.initialized_spec (findClass_of_methodNamed hnamed) hkP hinit
  obtain ⟨vm₁, X₁, hstep₁⟩ := X.invokestatic hexec hown hlink hnamed hmethM hstatic hkP hinitP hy (g := g) hg (argsL := argsL) (rest := rest) (hlen _ hsigM) hstack hdg
  rcases hK m meth c ⟨T.setVm vm₁, locs, cells, slots⟩ { g with stack := rest } (.invokestatic index) mk argsL.toArray X₁ hg hsize hdg hW (X₁.named hnamed) (hpre vm₁ X₁.warmed) with ⟨v, B, X', hpost, hsteps⟩ | ⟨q, B, X', hpost, hsteps⟩
  · exact Or.inl ⟨v, vm₁, B, X₁.warmed, X', hpost, fun target h => hstep₁ _ fun acts => by rw [doInvoke_state]; exact hsteps.trans h⟩
  · exact Or.inr ⟨q, vm₁, B, X₁.warmed, X', hpost, hstep₁ _ fun acts => by rw [doInvoke_state]; exact hsteps⟩
theorem vx_callVW (X : Stand p l e R s m args below meth c T locs cells slots) (hexec : p.tables.exec = Jvm.exec) {own C : String} {index : Nat} {y : MethodName} {bytes : ByteArray} {maxL : Nat} {ret : Option FieldType} {hh : List (Nat × Nat × Nat × Nat)}
    (hown : s.vm.findClass own = some m.cls) (hlink : (Cond.methodLink own index y).before args s = true) (hinst : (Cond.instanceMethod y).before args s = true) (hsel : (Cond.selects C y y).before args s = true)
    (hcode : (Cond.codeWith y bytes maxL ret hh).before args s = true) (hy : y.cls ≠ "java/lang/invoke/MethodHandle" ∧ y.cls ≠ "java/lang/invoke/VarHandle")
    {W9 : Nat} {Pre : Pt → Array Value → Prop} {Post : Pt → Array Value → Option Value → Pt → Prop} (hK : Back l R p e below s args y 3 W9 Pre Post)
    {b : Addr} {cellB : Cell} (hcell : T.heap[b]? = some cellB) (hobj : cellB.vm.isStatics = false) (hcls : s.vm.findClass C = some cellB.cls)
    {g : JFrame} (hg : g.method = m) (hsize : g.locals.size = c.maxLocals) {argsL rest : List Value} (hlen : ∀ sig, parseMethodDescriptor y.desc = some sig → argsL.length = sig.parameters.length)
    (hstack : g.stack = argsL.reverse ++ .ref b :: rest) (hW : 2 * g.monitorRoom + (rest.map fun v => v.category).sum ≤ W9) (hdg : decode c.code g.pc = .ok (.invokevirtual index, 3))
    (hpre : ∀ vm₁, s.WarmedH vm₁ → Pre ⟨T.setVm vm₁, locs, cells, slots⟩ (Value.ref b :: argsL).toArray) :
    ∃ (v : Option Value) (vm₁ : Vm) (B : Pt), s.WarmedH vm₁ ∧ Stand p l e R s m args below meth c B.U B.locs B.cells B.slots ∧ Post ⟨T.setVm vm₁, locs, cells, slots⟩ (Value.ref b :: argsL).toArray v B ∧
      ∀ target, Steps p.tables e below (B.U.setTop { g with pc := g.pc + 3, stack := v.toList ++ rest }) target → Steps p.tables e below (T.setTop g) target := by
  obtain ⟨mk, methM, hnamed, hmethM, hstM, habM⟩ := Cond.instanceMethod_spec hinst
  obtain ⟨m8, methM', cM, hn8, hmethM', -, -, -, -, -, -, hsigM⟩ := Cond.codeWith_spec hcode
  cases Option.some.inj (hn8.symm.trans hnamed)
  cases hmethM.symm.trans hmethM'
  obtain ⟨c2, r2, m2, q1, q2, q3, q4, kP, hkP, hkPi⟩ := Cond.selects_spec hsel
  cases hcls.symm.trans q1
  cases (State.methodFound?_of_named hnamed hy).symm.trans q2
  cases hnamed.symm.trans q3
  have hselP : selectMethod e.platform s.vm cellB.cls mk = .method mk := by rw [Launch.admits_selectMethod X.admits]; exact q4
  obtain ⟨vm₁, X₁, hstep₁⟩ := X.invokevirtual hexec hown hlink hnamed hmethM hstM hkP hkPi hy (a := b) (cell := cellB) hcell
    (fun z h => by rw [h] at hobj; cases hobj) hselP hmethM habM hkP hkPi (g := g) hg (argsL := argsL) (rest := rest) (hlen _ hsigM) hstack hdg
  obtain ⟨v, B, X', hpost, hsteps⟩ := hK m meth c ⟨T.setVm vm₁, locs, cells, slots⟩ { g with stack := rest } (.invokevirtual index) mk (Value.ref b :: argsL).toArray X₁ hg hsize hdg hW (X₁.named hnamed) (hpre vm₁ X₁.warmed)
  exact ⟨v, vm₁, B, X₁.warmed, X', hpost, fun target h => hstep₁ _ fun acts => by rw [doInvoke_state]; exact hsteps.trans h⟩
noncomputable abbrev vx_CVW (R : Room) (s : State) (args : Array Value) (own C : String) (index : Nat) (y : MethodName) (bytes : ByteArray) (maxL : Nat) (ret : Option FieldType) (hh : List (Nat × Nat × Nat × Nat)) (ws : List Cond) (rm : Room) (mc ms n : Nat) : Prop :=
  (rm.cells = mc ∧ rm.slots = ms ∧ rm.frames + 1 ≤ R.frames ∧ 8 + (maxL + 11) + rm.locals ≤ R.locals ∧ (∀ w ∈ ws, ∀ (a' : Array Value) (U : State), s.WarmedH U.vm → w.before a' U = true) ∧ Cond.codeWith y bytes maxL ret hh ∈ ws) ∧
  (Cond.codeWith y bytes maxL ret hh).before args s = true ∧ (Cond.initialized y.cls).before args s = true ∧ (y.cls ≠ "java/lang/invoke/MethodHandle" ∧ y.cls ≠ "java/lang/invoke/VarHandle") ∧
  (∀ sig, parseMethodDescriptor y.desc = some sig → n = sig.parameters.length) ∧ (Cond.methodLink own index y).before args s = true ∧ (Cond.instanceMethod y).before args s = true ∧ (Cond.selects C y y).before args s = true
theorem vx_runVW {y : MethodName} {bytes cc : ByteArray} {maxL nL mc ms n index : Nat} {ret : Option FieldType} {hh : List (Nat × Nat × Nat × Nat)} {ws : List Cond} {rm : Room} {Pc : Array Value → State → Prop} {Qc : Array Value → State → Outcome → State → Prop} {free : Addr → Prop} {Ts : List Cond} {own C : String} {b : Addr} {As rest : List Value} {g : JFrame}
    (S : CallFix p m c cc nL s args Ts own) (hM : Met l y ws rm Pc Qc mc ms free) (cw : vx_CVW R s args own C index y bytes maxL ret hh ws rm mc ms n) (hp : PreV s H C b Pc As)
    (hg : g.method = m) (hn : As.length = n) (hsize : g.locals.size = nL) (hstack : g.stack = As.reverse ++ .ref b :: rest) (hW : 2 * g.monitorRoom + (rest.map fun v => v.category).sum ≤ 8) (hdg : decode cc g.pc = .ok (.invokevirtual index, 3)) (hf : cells + mc ≤ R.cells ∧ slots + ms ≤ R.slots) :
    va_Run p l e R s m args below meth c H locs cells slots mc ms g rest (Qc (Value.ref b :: As).toArray) free := by
  obtain ⟨⟨hrc, hrs, hfr, hlo, hws, hcw⟩, hcode, hini, hy, hlen, hl, hin, hse⟩ := cw
  have hK : Back l R p e below s args y 3 8 (PreOf R mc ms Pc) (PostOf Qc mc ms free) := va_backW (hh := hh) (bytes := bytes) (maxL := maxL) (ret := ret) hM hp.1 hrc hrs hfr hlo hws hcw (fun a' U hW => word_at hW (Or.inl (by first | rfl | simp [Cond.onTables, Cond.keeps, Cond.steady])) hini)
  obtain ⟨hx, hb, hml, ho, -⟩ := S
  obtain ⟨-, ⟨cellB, hcB, hoB, hclB⟩, hPc⟩ := hp
  intro T hT X
  obtain ⟨v, vm₁, ⟨U', l2, c2, s2⟩, hW₁, X', ⟨g', mk, t, L, e1, e2, hq, h1, hL, h2, h3⟩, st⟩ := vx_callVW X hx (C := C) (hh := hh) (bytes := bytes) (maxL := maxL) (ret := ret) ho hl hin hse hcode hy hK (by rw [hT]; exact hcB) hoB hclB hg (hsize.trans hml.symm) (argsL := As) (rest := rest) (fun sig h => hn.trans (hlen sig h)) hstack hW (by rw [hb]; exact hdg)
    (fun vm₁ hW₁ => ⟨hf.1, hf.2, hPc (T.setVm vm₁) hT hW₁⟩)
  dsimp only [Pt.U, Pt.locs, Pt.cells, Pt.slots] at X' e1 e2 h1 h2 h3 st
  subst h1; subst h2; subst h3
  exact ⟨v, (T.setVm vm₁).calling g' mk (Value.ref b :: As).toArray, t, U', L, hT, X', hL, e1, e2, hq, st⟩
section
variable {y : MethodName} {bytes cc : ByteArray} {maxL nL mc ms n index : Nat} {ret : Option FieldType} {ws : List Cond} {rm : Room} {Pc : Array Value → State → Prop} {Qc : Array Value → State → Outcome → State → Prop} {XC : String → State → State → Prop} {free : Addr → Prop} {Ts : List Cond} {own C : String} {b : Addr} {As rest : List Value} {g : JFrame}
theorem vx_runVX {hh : List (Nat × Nat × Nat × Nat)} (S : CallFix p m c cc nL s args Ts own) (hM : vx_Met l y ws rm Pc Qc XC mc ms free) (cw : vx_CVW R s args own C index y bytes maxL ret hh ws rm mc ms n) (hp : PreV s H C b Pc As)
    (hg : g.method = m) (hn : As.length = n) (hsize : g.locals.size = nL) (hstack : g.stack = As.reverse ++ .ref b :: rest) (hW : 2 * g.monitorRoom + (rest.map fun v => v.category).sum ≤ 8) (hdg : decode cc g.pc = .ok (.invokevirtual index, 3)) (hf : cells + mc ≤ R.cells ∧ slots + ms ≤ R.slots) :
    vx_Run p l e R s m args below meth c H locs cells slots mc ms g rest (Qc (Value.ref b :: As).toArray) XC free := by
  obtain ⟨⟨hrc, hrs, hfr, hlo, hws, hcw⟩, hcode, hini, hy, hlen, hl, hin, hse⟩ := cw
  have hK : vx_Back l R p e below s args y 3 8 (PreOf R mc ms Pc) (PostOf Qc mc ms free) (vx_Post XC mc ms free) := vx_backW (hh := hh) (bytes := bytes) (maxL := maxL) (ret := ret) hM hp.1 hrc hrs hfr hlo hws hcw (fun a' U hW => word_at hW (Or.inl (by first | rfl | simp [Cond.onTables, Cond.keeps, Cond.steady])) hini)
  obtain ⟨hx, hb, hml, ho, -⟩ := S
  obtain ⟨-, ⟨cellB, hcB, hoB, hclB⟩, hPc⟩ := hp
  intro T hT X
  rcases vx_callVX X hx (C := C) (hh := hh) (bytes := bytes) (maxL := maxL) (ret := ret) ho hl hin hse hcode hy hK (by rw [hT]; exact hcB) hoB hclB hg (hsize.trans hml.symm) (argsL := As) (rest := rest) (fun sig h => hn.trans (hlen sig h)) hstack hW (by rw [hb]; exact hdg)
    (fun vm₁ hW₁ => ⟨hf.1, hf.2, hPc (T.setVm vm₁) hT hW₁⟩) with ⟨v, vm₁, ⟨U', l2, c2, s2⟩, hW₁, X', ⟨g', mk, t, L, e1, e2, hq, h1, hL, h2, h3⟩, st⟩ | ⟨q, vm₁, ⟨U', l2, c2, s2⟩, hW₁, X', ⟨g', mk, t, L, E, ce, e1, e2, hq, hce, hcv, hcl, h1, hL, h2, h3⟩, st⟩
  · dsimp only [Pt.U, Pt.locs, Pt.cells, Pt.slots] at X' e1 e2 h1 h2 h3 st
    subst h1; subst h2; subst h3
    exact Or.inl ⟨v, (T.setVm vm₁).calling g' mk (Value.ref b :: As).toArray, t, U', L, hT, X', hL, e1, e2, hq, st⟩
  · dsimp only [Pt.U, Pt.locs, Pt.cells, Pt.slots] at X' e1 e2 h1 h2 h3 st hcl
    subst h1; subst h2; subst h3
    exact Or.inr ⟨q, (T.setVm vm₁).calling g' mk (Value.ref b :: As).toArray, t, U', L, E, ce, hT, X', hL, e1, e2, hq, hce, hcv, vx_cls hW₁ hcl, st⟩
theorem vx_runSX {hh : List (Nat × Nat × Nat × Nat)} (S : CallFix p m c cc nL s args Ts own) (hM : vx_Met l y ws rm Pc Qc XC mc ms free) (cw : vx_CSW R s args own index y bytes maxL ret hh ws rm mc ms n) (hp : PreS s H Pc As)
    (hg : g.method = m) (hn : As.length = n) (hsize : g.locals.size = nL) (hstack : g.stack = As.reverse ++ rest) (hW : 2 * g.monitorRoom + (rest.map fun v => v.category).sum ≤ 8) (hdg : decode cc g.pc = .ok (.invokestatic index, 3)) (hf : cells + mc ≤ R.cells ∧ slots + ms ≤ R.slots) :
    vx_Run p l e R s m args below meth c H locs cells slots mc ms g rest (Qc As.toArray) XC free := by
  obtain ⟨⟨hrc, hrs, hfr, hlo, hws, hcw⟩, hcode, hini, hy, hlen, hl, hstt⟩ := cw
  have hK : vx_Back l R p e below s args y 3 8 (PreOf R mc ms Pc) (PostOf Qc mc ms free) (vx_Post XC mc ms free) := vx_backW (hh := hh) (bytes := bytes) (maxL := maxL) (ret := ret) hM hp.1 hrc hrs hfr hlo hws hcw (fun a' U hW => word_at hW (Or.inl (by first | rfl | simp [Cond.onTables, Cond.keeps, Cond.steady])) hini)
  obtain ⟨hx, hb, hml, ho, -⟩ := S
  intro T hT X
  rcases vx_callSX X hx (hh := hh) (bytes := bytes) (maxL := maxL) (ret := ret) ho hl hstt hini hcode hy hK hg (hsize.trans hml.symm) (argsL := As) (rest := rest) (fun sig h => hn.trans (hlen sig h)) hstack hW (by rw [hb]; exact hdg)
    (fun vm₁ hW₁ => ⟨hf.1, hf.2, hp.2 (T.setVm vm₁) hT hW₁⟩) with ⟨v, vm₁, ⟨U', l2, c2, s2⟩, hW₁, X', ⟨g', mk, t, L, e1, e2, hq, h1, hL, h2, h3⟩, st⟩ | ⟨q, vm₁, ⟨U', l2, c2, s2⟩, hW₁, X', ⟨g', mk, t, L, E, ce, e1, e2, hq, hce, hcv, hcl, h1, hL, h2, h3⟩, st⟩
  · dsimp only [Pt.U, Pt.locs, Pt.cells, Pt.slots] at X' e1 e2 h1 h2 h3 st
    subst h1; subst h2; subst h3
    exact Or.inl ⟨v, (T.setVm vm₁).calling g' mk As.toArray, t, U', L, hT, X', hL, e1, e2, hq, st⟩
  · dsimp only [Pt.U, Pt.locs, Pt.cells, Pt.slots] at X' e1 e2 h1 h2 h3 st hcl
    subst h1; subst h2; subst h3
    exact Or.inr ⟨q, (T.setVm vm₁).calling g' mk As.toArray, t, U', L, E, ce, hT, X', hL, e1, e2, hq, hce, hcv, vx_cls hW₁ hcl, st⟩
end
end VXH
theorem vx_ofWH {l : Launch} {y : MethodName} {ws ws' : List Cond} {rm : Room} {Pc : Array Value → State → Prop} {Qc : Array Value → State → Outcome → State → Prop} {XC : String → State → State → Prop} {mc ms : Nat} {free : Addr → Prop} {cc : ByteArray} {maxL : Nat} {ret : Option FieldType} {hh : List (Nat × Nat × Nat × Nat)}
    (hy : plainName y.cls = true) (hw : ws = Cond.codeWith y cc maxL ret hh :: ws')
    (body : ∀ p e s m args below meth c s₁, BodyLoose p l y (headSpec ws rm) cc maxL ret e s m args below meth c s₁ → c.maxLocals = maxL → Pc args s →
      W p l e (headSpec ws rm).room s m args below meth c s.heap [] 0 0 (vx_MQ below Qc XC args s mc ms free) (entryFrame m args maxL)) : vx_Met l y ws rm Pc Qc XC mc ms free := by
  refine MetFree.of_bodyS (code := cc) (maxLocals := maxL) (ret := ret) hy ?_ ?_
  · intro args s m h hn
    obtain ⟨m9, meth, c, hn9, h1, h2, h3, h4, -, h5, h6, -⟩ := Cond.codeWith_spec (atoms_spec (ws := ws) h _ (by rw [hw]; exact List.mem_cons_self))
    cases hn.symm.trans hn9
    exact ⟨meth, c, h1, h2, h3, h4, h5, h6⟩
  · intro p e s m args below meth c s₁ B hml hP _
    have hh0 : s₁.heap = s.heap := by rw [B.state]; rfl
    obtain ⟨t, a1, o, b1, b2, b3⟩ := body p e s m args below meth c s₁ B hml hP s₁ hh0 (Stand.of_body B)
    exact ⟨t, o, a1, b1, b2, b3⟩
/-! ===== END ===== -/
end
section
/-! the throw whose first constructor passes its text on by index 13 -/
noncomputable abbrev b13 : ByteArray := ⟨#[0x2a, 0x2b, 0xb7, 0x00, 0x0d, 0xb1]⟩
theorem b13_0 : decode b13 0 = .ok (.aload_n 0, 1) := by decide +kernel
theorem b13_1 : decode b13 1 = .ok (.aload_n 1, 1) := by decide +kernel
theorem b13_2 : decode b13 2 = .ok (.invokespecial 13, 3) := by decide +kernel
theorem b13_5 : decode b13 5 = .ok (.return_, 1) := by decide +kernel
/-- the words of the object's own kind -/
noncomputable def o13 (own : String) (ic : Nat) (E : String) : List Cond := [.methodLink own ic (Bundle.initS E), .instantiable E 6, .selects E Bundle.tFill0 Bundle.tFill0, .selects E Bundle.tFill Bundle.tFill, .castable E E,
  .lays E Bundle.tN "cause" "Ljava/lang/Throwable;", .lays E Bundle.tN "stackTrace" Bundle.steD, .lays E Bundle.tN "suppressedExceptions" Bundle.listD, .lays E Bundle.tN "detailMessage" "Ljava/lang/String;", .lays E Bundle.tN "backtrace" "Ljava/lang/Object;",
  .isRef (.static Bundle.tN "UNASSIGNED_STACK" Bundle.steD), .isRef (.static Bundle.tN "SUPPRESSED_SENTINEL" Bundle.listD), .fieldLink Bundle.tN 198 Bundle.tN "backtrace" "Ljava/lang/Object;", .lays Bundle.tN Bundle.tN "backtrace" "Ljava/lang/Object;"]
noncomputable def a13 (own : String) (ic : Nat) (E F : String) (up : List String) : List Cond := Bundle.throwableAtoms ++ (Bundle.throwableSAtoms ++ (Bundle.passSAtoms E F 13 b13 ++ (Bundle.chainSAtoms F up ++ o13 own ic E)))
theorem a13_t {own E F : String} {ic : Nat} {up : List String} {w : Cond} (h : w ∈ Bundle.throwableAtoms) : w ∈ a13 own ic E F up := List.mem_append_left _ h
theorem a13_s {own E F : String} {ic : Nat} {up : List String} {w : Cond} (h : w ∈ Bundle.throwableSAtoms) : w ∈ a13 own ic E F up := List.mem_append_right _ (List.mem_append_left _ h)
theorem a13_p {own E F : String} {ic : Nat} {up : List String} {w : Cond} (h : w ∈ Bundle.passSAtoms E F 13 b13) : w ∈ a13 own ic E F up := List.mem_append_right _ (List.mem_append_right _ (List.mem_append_left _ h))
theorem a13_c {own E F : String} {ic : Nat} {up : List String} {w : Cond} (h : w ∈ Bundle.chainSAtoms F up) : w ∈ a13 own ic E F up := List.mem_append_right _ (List.mem_append_right _ (List.mem_append_right _ (List.mem_append_left _ h)))
theorem a13_o {own E F : String} {ic : Nat} {up : List String} {w : Cond} (h : w ∈ o13 own ic E) : w ∈ a13 own ic E F up := List.mem_append_right _ (List.mem_append_right _ (List.mem_append_right _ (List.mem_append_right _ h)))
theorem ch13 {args : Array Value} {s : State} {pl : Platform} (hpl : pl.magicAccessors = ({} : Platform).magicAccessors) {top : MethodId} (htop : s.methodNamed? (Bundle.initS Bundle.tN) = some top) {own E F : String} {ic : Nat} {up : List String} (hE : Bundle.fit E = true) (hF : Bundle.fit F = true) (hup : ∀ n ∈ up, Bundle.fit n = true) (h : ∀ w ∈ a13 own ic E F up, w.before args s = true) :
    ∃ (P : PassC) (Ps : List PassC), Ps.length = up.length + 1 ∧ (∀ Q, Q ∈ P :: Ps → Q.LinksS pl s) ∧ s.methodNamed? (Bundle.initS E) = some P.m ∧ P.sup = firstOf top (Ps.map (·.toPassT)) ∧ PassesOn top (Ps.map (·.toPassT)) := by
  obtain ⟨P, k1, k2, k3⟩ := PassC.ofS_atoms (args := args) (s := s) hpl (X := E) (Y := F) (Bundle.fit_spec hE).1 (Bundle.fit_spec hF).2 b13_0 b13_1 b13_2 b13_5 (fun w hw => h w (a13_p hw))
  obtain ⟨P2, Ps, j1, j2, j3, j4, j5, j6⟩ := Bundle.chainS (args := args) hpl htop up F hF hup (fun w hw => h w (a13_c hw))
  exact ⟨P, P2 :: Ps, congrArg (· + 1) j1, List.forall_mem_cons.mpr ⟨k1, List.forall_mem_cons.mpr ⟨j2, j3⟩⟩, k2, Option.some.inj (k3.symm.trans j4), j5, j6⟩
section T13
variable {p : Program} {l : Launch} {e : Env} {R : Room} {s : State} {m : MethodId} {args : Array Value} {below : List Frame} {meth : Method} {c : Code} {T : State} {locs : List Loc} {cells slots : Nat}
set_option maxHeartbeats 1000000 in
theorem ct13 (X : Stand p l e R s m args below meth c T locs cells slots) (hexec : p.tables.exec = Jvm.exec) (htr : e.platform.stackTraces = false) {own E F : String} {up : List String} {ic : Nat} (hown : s.vm.findClass own = some m.cls) (hE : Bundle.fit E = true) (hF : Bundle.fit F = true) (hup : ∀ n ∈ up, Bundle.fit n = true) (h : ∀ w ∈ a13 own ic E F up, w.before args s = true)
    (hlocs : ∀ x ∈ locs, ∀ cell, s.heap[x.base]? = some cell → cell.vm.isStatics = false) {a : Addr} {cX : ClassId} {kX : Class} (hfX : s.vm.findClass E = some cX) (hkX : s.vm.classes[cX]? = some kX) (hcell : T.heap[a]? = some (freshCell cX kX)) (hnew : s.heap.size ≤ a) {msg : Value} (hmsg : msg.isRef = true)
    {g : JFrame} (hg : g.method = m) (hsize : g.locals.size = c.maxLocals) (hlocked : g.locked = none) (hentered : g.entered = []) {rest : List Value} (hstack : g.stack = msg :: .ref a :: .ref a :: rest)
    (d1 : decode c.code g.pc = .ok (.invokespecial ic, 3)) (d2 : decode c.code (g.pc + 3) = .ok (.athrow, 1)) (hout : ∀ x ∈ c.exceptionTable.toList, covers x (g.pc + 3) = false)
    (hRf : up.length + 1 + 3 < R.frames) (hRl : 2 * g.monitorRoom + ((Value.ref a :: rest).map fun v => v.category).sum + (13 * (up.length + 1 + 1) + 42) ≤ R.locals) (hlocks : meth.locks = false) :
    ∃ U : State, Steps p.tables e below (T.setTop g) U ∧ U.status = .running ∧ Ended U below (.threw a) ∧ s.WarmedH U.vm ∧ s.sameButNew ({ U with vm := s.vm } : State) locs cells slots ∧
      ∃ ce, U.heap[a]? = some ce ∧ ce.vm = .none ∧ s.vm.findClass E = some ce.cls := by
  have hpl : e.platform.magicAccessors = ({} : Platform).magicAccessors := by rw [X.admits.platform]
  have ho : ∀ w, w ∈ o13 own ic E → w.holds args s none s [] = true := fun w hw => h w (a13_o hw)
  obtain ⟨Th, Z0, L, -, Y⟩ := ThrowableC.of_atoms (args := args) (by rw [X.admits.platform]) (by rw [X.admits.platform]) hpl (fun w hw => h w (a13_t hw))
  obtain ⟨Z, M, LZ, LM, hnZ⟩ := Init0T.ofS_atoms (args := args) hpl L Y (fun w hw => h w (a13_s hw))
  obtain ⟨P, Ps, hlen, hLs, hPm, hlk1, hlk⟩ := ch13 (args := args) hpl hnZ hE hF hup h
  have hfound : s.vm.findClass E = some P.m.cls := findClass_of_methodNamed hPm
  cases Option.some.inj (hfX.symm.trans hfound)
  obtain ⟨c1, k9, hc1, hk, hord, -⟩ := Cond.instantiable_spec (ho (.instantiable E 6) (by simp [o13]))
  cases Option.some.inj (hc1.symm.trans hfound)
  cases Option.some.inj (hkX.symm.trans hk)
  have sel : ∀ (y : MethodName) (f : MethodId), Cond.selects E y y ∈ o13 own ic E → s.methodNamed? y = some f → s.methodFound? y.cls y.name y.desc = some f → selectMethod e.platform s.vm P.m.cls f = .method f := fun y f hm hn hfd => by
    obtain ⟨c2, r2, m2, q1, q2, q3, q4, -⟩ := Cond.selects_spec (ho _ hm)
    cases Option.some.inj (q1.symm.trans hfound)
    cases Option.some.inj (q2.symm.trans hfd)
    cases Option.some.inj (q3.symm.trans hn)
    rw [Launch.admits_selectMethod X.admits]
    exact q4
  have hs0 := sel Bundle.tFill0 Th.fill0 (by simp [o13]) Y.fill0 (State.methodFound?_of_named Y.fill0 (by decide))
  have hs1 := sel Bundle.tFill Th.fill (by simp [o13]) Y.fill (State.methodFound?_of_named Y.fill (by decide))
  obtain ⟨cS0, hcS0, hiss⟩ := Y.statics
  obtain ⟨u0, hu0⟩ := Cond.staticRefV Y.unassigned L.unassignedStatic L.statics hcS0 hiss (ho (.isRef (.static Bundle.tN "UNASSIGNED_STACK" Bundle.steD)) (by simp [o13]))
  obtain ⟨sen, hsen⟩ := Cond.staticRefV Y.sentinel L.sentinelStatic L.statics hcS0 hiss (ho (.isRef (.static Bundle.tN "SUPPRESSED_SENTINEL" Bundle.listD)) (by simp [o13]))
  obtain ⟨ci9, i9, fB, r1, r2, r3, r4, -, hnB, htB, hffB⟩ := Cond.ownField (t := .object "java/lang/Object") Y.found L.cls (by decide +kernel) (ho (.fieldLink Bundle.tN 198 Bundle.tN "backtrace" "Ljava/lang/Object;") (by simp [o13])) (ho (.lays Bundle.tN Bundle.tN "backtrace" "Ljava/lang/Object;") (by simp [o13])) e.platform hpl
  obtain ⟨cS, hcS, heS, -, hkeep⟩ := X.same.2.2.2.2.2 Th.aS cS0 hcS0
  have hno : ∀ i, (⟨Th.aS, i⟩ : Loc) ∉ locs := fun i hmem => Bool.noConfusion ((hlocs _ hmem cS0 hcS0).symm.trans hiss)
  have hkn : cS.vm ≠ .unknown := by
    rw [heS]
    intro hu
    rw [show cS0.vm = .unknown from hu] at hiss
    cases hiss
  have hne : Th.aS ≠ a := Nat.ne_of_lt (Nat.lt_of_lt_of_le (Array.getElem?_eq_some_iff.mp hcS0).1 hnew)
  obtain ⟨iM, hffM⟩ := Y.msg
  obtain ⟨tyC, dC, q1, q2⟩ := Cond.laysAt hfound hk Y.cause (ho (.lays E Bundle.tN "cause" "Ljava/lang/Throwable;") (by simp [o13]))
  obtain ⟨tyS, dS, q3, q4⟩ := Cond.laysAt hfound hk Y.stack (ho (.lays E Bundle.tN "stackTrace" Bundle.steD) (by simp [o13]))
  obtain ⟨tyP, dP, q5, q6⟩ := Cond.laysAt hfound hk Y.supp (ho (.lays E Bundle.tN "suppressedExceptions" Bundle.listD) (by simp [o13]))
  obtain ⟨tyM, dM, q7, q8⟩ := Cond.laysAt hfound hk hffM (ho (.lays E Bundle.tN "detailMessage" "Ljava/lang/String;") (by simp [o13]))
  obtain ⟨tyB, dB, q9, q0⟩ := Cond.laysAt hfound hk hffB (ho (.lays E Bundle.tN "backtrace" "Ljava/lang/Object;") (by simp [o13]))
  have z1 := Cond.laysApart q9 q1 q0 q2 (by rw [hnB, Y.causeName]; decide)
  have z2 := Cond.laysApart q9 q3 q0 q4 (by rw [hnB, Y.stackName]; decide)
  have z3 := Cond.laysApart q9 q5 q0 q6 (by rw [hnB, Y.suppName]; decide)
  have hsk : SkipFacts Th e.platform s (fun u => u) u0 ((preparedCellV Th.toThrowableT (freshCell P.m.cls kX) a u0 sen).withEntry T.cur) := by
    refine ⟨{ ci198 := ci9, i198 := i9, fBack := fB }, ⟨r1, r2, r3, r4⟩, ?_, fun _ _ => rfl⟩
    have z := fresh_default (c := P.m.cls) tyB
    rw [htB] at z
    simpa [preparedCellV, Cell.setSlot, Cell.withEntry, Array.getElem?_setIfInBounds, z1, z2, z3, z1.symm, z2.symm, z3.symm, defaultValue] using z
  obtain ⟨tm, mC, cdC, kC, vm₁, hnC, -, -, -, -, -, -, -, hW₁, st1⟩ := Steps.initColdS (tb := p.tables) (e := e) (below := below) (s := s) (U := T) X.here hexec X.warmed hpl hown (t := Bundle.initS E) rfl rfl (Bundle.fit_spec hE).2
    (ho (.methodLink own ic (Bundle.initS E)) (by simp [o13])) (h (.instanceMethod (Bundle.initS E)) (a13_p List.mem_cons_self)) (bytes := b13) (maxL := 2) (h (.code (Bundle.initS E) b13 2 none) (a13_p (List.mem_cons_of_mem _ List.mem_cons_self)))
    (f := g) hg (a := a) (msg := msg) (rest := .ref a :: rest) hstack d1
  cases Option.some.inj (hnC.symm.trans hPm)
  obtain ⟨vm₂, X₂, st2⟩ := (X.noted hW₁).ctorMessageOffV hexec (g := { g with stack := .ref a :: rest }) hg hsize Th L Z LZ M LM (P :: Ps) hLs ⟨hlk1, hlk⟩ (u0 := u0) (sen := sen) (self := a) hmsg (cell := freshCell P.m.cls kX) (cellS := cS)
    hcell (fun _ => by simp) (by simp) rfl rfl hs0 hs1 hcS hne hkn (by rw [hkeep _ (hno _)]; exact hu0) (by rw [hkeep _ (hno _)]; exact hsen)
    (Takes.of_laid hk hord tyC (by rw [Y.causeType]; rfl)) (Takes.of_laid hk hord tyS (by rw [Y.stackType]; exact fits_refV_array _ u0)) (Takes.of_laid hk hord tyP (by rw [Y.suppType]; exact fits_refV_object _ sen))
    (Takes.of_laid hk hord tyM (by rw [Y.msgType]; exact fits_refV_object _ ⟨msg, hmsg⟩)) Y.objLocals hsk htr [] d1
    (by simp only [List.length_cons, hlen]; omega) (by simp only [List.length_cons, hlen]; exact hRl)
  obtain ⟨hwalk, hrun, hend, hWU, hsame⟩ := X₂.athrowLeaves hexec (g := { g with stack := .ref a :: rest, pc := g.pc + 3 }) hg hlocked hentered hout (a := a) (rest := rest) rfl d2
  have hlt : a < ((T.setVm vm₁).setVm vm₂).heap.size := (Array.getElem?_eq_some_iff.mp hcell).1
  have hU := heapAt_setCell_self (s := (T.setVm vm₁).setVm vm₂) (plainBareV Th.toThrowableT (freshCell P.m.cls kX) a u0 sen msg) hlt
  refine ⟨_, st1 _ (fun acts => ?_), hrun, hend, hWU, hsame.weaken (fun y hy hlt' => ?_) (Nat.le_refl _) (Nat.le_refl _), _, hU, rfl, hfound⟩
  · rw [doInvoke_state]
    exact st2 _ hwalk
  · rcases List.mem_append.mp hy with z | z
    · exact z
    · have hb : y.base = a := by
        simp only [List.mem_cons, List.not_mem_nil, or_false] at z
        rcases z with rfl | rfl | rfl | rfl | rfl <;> rfl
      exact absurd (hb ▸ hlt') (Nat.not_lt.mpr hnew)
end T13
section W13
variable {p : Program} {l : Launch} {e : Env} {R : Room} {s : State} {m : MethodId} {args : Array Value} {below : List Frame} {meth : Method} {c : Code} {H : Heap} {locs : List Loc} {cells slots : Nat} {Q : State → Prop}
variable {mc ms : Nat} {free : Addr → Prop} {A0 A1 : Nat → Prop} {H0 : Heap} {a : Array Value} {ls : Array Slot} {st0 rest : List Value}
variable {Qc : Array Value → State → Outcome → State → Prop} {XC : String → State → State → Prop}
theorem tw13 {cc : ByteArray} {pc : Nat} (hexec : p.tables.exec = Jvm.exec) (hb : c.code = cc) (hl : l.stackTraces = false) {own cls F text : String} {names : List String} {ik is ic mc ms sa : Nat} {A : Nat → Prop}
    (hown : s.vm.findClass own = some m.cls) (hcls : Bundle.fit cls = true) (hF : Bundle.fit F = true) (hnames : ∀ n ∈ names, Bundle.fit n = true)
    (hk : (Cond.classLink own ik cls).before args s = true) (hini : (Cond.initialized cls).before args s = true) (hstr : vk_R own is text sa s) (hat : ∀ w ∈ (a13 own ic cls F names).filter vx_no, w.before args s = true)
    (hgood : ∀ w ∈ Cond.classLink own ik cls :: Cond.initialized cls :: (a13 own ic cls F names).filter vx_no, vx_ot w = true)
    (hU : vx_Zq Bundle.tN "UNASSIGNED_STACK" Bundle.steD A s s.heap) (hN : vx_Zq Bundle.tN "SUPPRESSED_SENTINEL" Bundle.listD A s s.heap) (hS : va_S A s.heap H locs) (hsize : ls.size = c.maxLocals)
    (d0 : decode cc pc = .ok (.new ik, 3)) (d3 : decode cc (pc + 3) = .ok (.dup, 1)) (d4 : decode cc (pc + 4) = .ok (.ldc_w is, 3)) (d7 : decode cc (pc + 7) = .ok (.invokespecial ic, 3)) (d10 : decode cc (pc + 10) = .ok (.athrow, 1))
    (hout : ∀ x ∈ c.exceptionTable.toList, covers x (pc + 10) = false)
    (hRframes : names.length + 1 + 3 < R.frames) (hRlocals : (rest.map fun v => v.category).sum + (13 * (names.length + 1 + 1) + 43) ≤ R.locals) (hRcells : cells + 1 ≤ R.cells) (hRslots : slots + 6 ≤ R.slots) (hlocks : meth.locks = false)
    (hx : ∀ t : State, s.vm.Alike t.vm → H.size ≤ t.heap.size → (∀ q : Nat, q < H.size → t.heap[q]? = H[q]?) → XC cls s t)
    (hf : ∀ z ∈ locs, free z.base) (hc : cells + 1 ≤ mc) (hs : slots + 6 ≤ ms) :
    W p l e R s m args below meth c H locs cells slots (vx_MQ below Qc XC args s mc ms free) (F0 m pc ls rest) := by
  intro T hT X
  have htr : e.platform.stackTraces = false := (show e.platform.stackTraces = l.stackTraces by rw [X.admits.platform]).trans hl
  have Y := vx_rebase X (R' := { frames := R.frames, locals := R.locals, cells := 1, slots := 6 }) (Nat.le_refl _) (Nat.le_refl _) hRcells hRslots
  obtain ⟨s', hA⟩ : ∃ z, z = (T.setVm s.vm).setFrames (.invoking m args :: below) := ⟨_, rfl⟩
  rw [← hA] at Y
  have hvm : s'.vm = s.vm := by rw [hA]; rfl
  have hhp : s'.heap = H := by rw [hA]; exact hT
  have hW0 : s.WarmedH s'.vm := by rw [hvm]; exact State.WarmedH.refl s
  have hat' : ∀ w ∈ (a13 own ic cls F names).filter vx_no, w.before args s' = true := fun w hw => vx_ot_at hW0 hvm.symm (hgood w (List.mem_cons_of_mem _ (List.mem_cons_of_mem _ hw))) (hat w hw)
  have hk' : (Cond.classLink own ik cls).before args s' = true := vx_ot_at hW0 hvm.symm (hgood _ List.mem_cons_self) hk
  have hini' : (Cond.initialized cls).before args s' = true := vx_ot_at hW0 hvm.symm (hgood _ (List.mem_cons_of_mem _ List.mem_cons_self)) hini
  have hU' : vx_Zq Bundle.tN "UNASSIGNED_STACK" Bundle.steD A s' s'.heap := by rw [hhp]; exact vx_Zq.moved hW0.alike (hU.kept hS.2.1)
  have hN' : vx_Zq Bundle.tN "SUPPRESSED_SENTINEL" Bundle.listD A s' s'.heap := by rw [hhp]; exact vx_Zq.moved hW0.alike (hN.kept hS.2.1)
  have h : ∀ w ∈ a13 own ic cls F names, w.before args s' = true := vx_own hat' (vx_isRefq hU'.1) (vx_isRefq hN'.1) hU'.2.word hN'.2.word
  have hown' : s'.vm.findClass own = some m.cls := by rw [hvm]; exact hown
  have hins : (Cond.instantiable cls 6).before args s' = true := h _ (a13_o (by simp [o13]))
  obtain ⟨vm₁, cX, kX, hfX, hkX, -, -, X₁, st1⟩ := Y.newCold hexec (own := own) (C := cls) (index := ik) (n := 6) hown' hk' hins hini'
    (g := F0 m pc ls rest) rfl (by rw [hb]; exact d0) (Nat.le_refl _) (Nat.le_refl _)
  generalize hT1 : (T.setVm vm₁).pushCell { cls := cX, slots := kX.instanceTypes.map defaultValue, vm := .none } = T1 at X₁ st1
  have hcat : (Value.ref T.heap.size).category = 1 := rfl
  have hcellA : T1.heap[T.heap.size]? = some (freshCell cX kX) := by rw [← hT1]; exact State.heap_pushCell_size _ _
  have d3' : decode c.code (pc + 3) = .ok (.dup, 1) := by rw [hb]; exact d3
  have d4' : decode c.code (pc + 4) = .ok (.ldc_w is, 3) := by rw [hb]; exact d4
  have hstr' : vk_R own is text sa s' := vk_R.warm hW0 hstr
  obtain ⟨U, hsteps, hrun, hend, hW, hsame, ce, hce, hOv, hOc⟩ := ct13 X₁ hexec htr (own := own) (E := cls) (F := F) (up := names) (ic := ic) hown' hcls hF hnames h (fun x hx => nomatch hx) hfX hkX hcellA (by rw [hhp, hT]; exact Nat.le_refl _) (msg := .ref sa) rfl
    (g := { method := m, pc := pc + 7, locals := ls, stack := .ref sa :: .ref T.heap.size :: .ref T.heap.size :: rest, locked := none }) rfl hsize rfl rfl (rest := rest) rfl
    (by rw [hb]; exact d7) (by rw [hb]; exact d10) hout hRframes (by simp only [List.map_cons, List.sum_cons, hcat]; omega) hlocks
  obtain ⟨f1, f2⟩ := vx_frame hsame
  rw [hhp] at f1 f2
  have hWs : s.WarmedH U.vm := State.WarmedH.trans hW0 hW
  have hcl : s.vm.findClass cls = some ce.cls := by
    have h9 := hOc
    rw [hvm] at h9
    exact h9
  have hall : s.sameButNew ({ U with vm := s.vm } : State) locs mc ms := by
    subst hA
    obtain ⟨e1, e2⟩ := hsame
    rw [State.setFrames_setFrames] at e1
    have h2 : (T.setVm s.vm).sameButNew ({ U with vm := s.vm } : State) [] (0 + 1) (0 + 6) := ⟨e1, e2⟩
    have h3 := X.same.trans h2
    rw [List.append_nil] at h3
    exact h3.mono hc hs
  refine ⟨U, ?_, .threw T.heap.size, hrun, hend, Or.inr ⟨T.heap.size, rfl, cls, ce, locs, hx U hWs.alike f1 (fun q hq => f2 q hq (fun z hz => nomatch hz)), hce, hOv, hcl, hWs, hall, hf⟩⟩
  refine st1 _ ?_
  show Steps p.tables e below (T1.setTop { method := m, pc := pc + 3, locals := ls, stack := .ref T.heap.size :: rest, locked := none }) _
  jvm_step X₁.here [X₁.here.top, hexec, d3', Value.category]
  exact X₁.ldcStringW hexec (own := own) (text := text) (index := is) (a := sa) hown' hstr'.1 hstr'.2
    (g := { method := m, pc := pc + 4, locals := ls, stack := .ref T.heap.size :: .ref T.heap.size :: rest, locked := none }) rfl d4' _ hsteps
end W13
end
section
/-! about: it may throw; the law catches -/
noncomputable abbrev xE : String := "java/util/NoSuchElementException"
noncomputable abbrev xF : String := "java/lang/RuntimeException"
noncomputable abbrev xN : List String := ["java/lang/Exception"]
noncomputable abbrev aE : List Cond := (a13 "CountyWatch" 310 xE xF xN).filter vx_no
noncomputable def Zx (A : Nat → Prop) (U : State) : Prop := vx_Zq Bundle.tN "UNASSIGNED_STACK" Bundle.steD A U U.heap ∧ vx_Zq Bundle.tN "SUPPRESSED_SENTINEL" Bundle.listD A U U.heap ∧ (∃ sa, vk_R "CountyWatch" 308 "no such constable" sa U) ∧ (∃ sa, vk_R "CountyWatch" 316 "no such what" sa U) ∧ ∀ w ∈ aE, w.before #[] U = true
noncomputable def ft_ (w : Cond) : Bool := w.onTables && (goodWord w || w.faceAtom)
theorem ft_all : (aE).all ft_ = true := by decide +kernel
theorem ft_ot : ∀ w ∈ aE, w.onTables = true := fun w hw => by
  have h := List.all_eq_true.mp ft_all w hw
  simp only [ft_, Bool.and_eq_true] at h
  exact h.1
theorem ft_at {w : Cond} {s U : State} {a a' : Array Value} (hW : s.WarmedH U.vm) (hg : ft_ w = true) (h : w.before a s = true) : w.before a' U = true := by
  simp only [ft_, Bool.and_eq_true, Bool.or_eq_true] at hg
  rcases hg.2 with g | g
  · exact word_at hW (good_of_word g) h
  · exact va_tabs hg.1 (rfl : (s.setVm U.vm).vm = U.vm) (Cond.faceAtom_setVm hW.alike w g h)
theorem Zx.call {A : Nat → Prop} {U : State} {g : JFrame} {mk : MethodId} {a : Array Value} (h : Zx A U) : Zx A (U.calling g mk a) :=
  ⟨vx_Zq.moved (u := U) (U := U.calling g mk a) (Vm.Alike.refl U.vm) h.1, vx_Zq.moved (u := U) (U := U.calling g mk a) (Vm.Alike.refl U.vm) h.2.1, h.2.2.1.elim (fun sa q => ⟨sa, vk_R.same rfl q⟩), h.2.2.2.1.elim (fun sa q => ⟨sa, vk_R.same rfl q⟩), fun w hw => va_tabs (u := U) (ft_ot w hw) rfl (h.2.2.2.2 w hw)⟩
theorem Zx.go {A B : Nat → Prop} {s U : State} {H : Heap} {locs : List Loc} (h : Zx A s) (hS : va_S A s.heap H locs) (hU : U.heap = H) (hW : s.WarmedH U.vm) (hAB : ∀ q, B q → A q) : Zx B U :=
  ⟨by rw [hU]; exact vx_Zq.narrow (vx_Zq.moved hW.alike (vx_Zq.kept h.1 hS.2.1)) hAB, by rw [hU]; exact vx_Zq.narrow (vx_Zq.moved hW.alike (vx_Zq.kept h.2.1 hS.2.1)) hAB, h.2.2.1.elim (fun sa q => ⟨sa, vk_R.warm hW q⟩), h.2.2.2.1.elim (fun sa q => ⟨sa, vk_R.warm hW q⟩), fun w hw => ft_at hW (List.all_eq_true.mp ft_all w hw) (h.2.2.2.2 w hw)⟩
noncomputable def cz_ (dC : Nat → ClassId) (dI : Nat → Nat → Nat) (cy : Nat → ClassId) (ad adV : Nat → Nat) (dom : List Nat) (h : Hp_) (sz : Nat) (U : State) : Prop := cp_ dC dI cy ad adV dom h sz U ∧ Zx (va_A (h_W cy ad h dom) sz) U
theorem cz_blind {dC : Nat → ClassId} {dI : Nat → Nat → Nat} {cy : Nat → ClassId} {ad adV : Nat → Nat} {dom : List Nat} {h : Hp_} {sz : Nat} {av : List Value} : FrameBlind (va_Pc av (cz_ dC dI cy ad adV dom h sz)) := by
  intro a U g mk hq
  obtain ⟨q0, q1, q2⟩ := hq
  have hb := cp_blind (dC := dC) (dI := dI) (cy := cy) (ad := ad) (adV := adV) (dom := dom) (h := h) (sz := sz) (av := av) a U g mk ⟨q0, q1⟩
  exact ⟨hb.1, hb.2, q2.call⟩
/-- cells that a larger heap leaves alone -/
theorem wd_more {dC : Nat → ClassId} {dI : Nat → Nat → Nat} {cy : Nat → ClassId} {A : Nat → Prop} {ad : Nat → Nat} {dom : List Nat} {h : Hp_} {H H1 : Heap} (hW : wd_ dC dI cy A ad dom h H) (hk : ∀ q : Nat, q < H.size → H1[q]? = H[q]?) : wd_ dC dI cy A ad dom h H1 :=
  ⟨hW.1, hW.2.1.kept (fun k x hx => hk x.1 ((hW.2.1 k x hx).lt)), hW.2.2⟩
noncomputable def xx_ (KX : Hp_ → Prop) (dC : Nat → ClassId) (dI : Nat → Nat → Nat) (cy : Nat → ClassId) (A : Nat → Prop) (ad0 : Nat → Nat) (dom0 : List Nat) : String → State → State → Prop := fun E st t => E = xE ∧ (∃ (h : Hp_) (ad : Nat → Nat) (dom : List Nat), KX h ∧ wd_ dC dI cy A ad dom h t.heap ∧ ex_ ad0 ad dom0 dom) ∧ va_F A st t
/-- as AW, of a method that may throw -/
noncomputable def AX (M : Mc_) (pc : Nat) (lv : List (Nat × Value)) (st : List Value) (h : Hp_) (K : Option Value → Hp_ → Prop) (KX : Hp_ → Prop) : Prop :=
  ∀ (l : Ln_) (p : Program) (e : Env) (s : State) (m : MethodId) (args : Array Value) (below : List Frame) (meth : Method) (c : Code) (dC : Nat → ClassId) (dI : Nat → Nat → Nat) (cy : Nat → ClassId) (A : Nat → Prop) (ad0 adV ad : Nat → Nat) (dom0 dom : List Nat) (H : Heap) (locs : List Loc) (ls : Array Slot),
    fr_ (mY M) (mC M) (mN M) (mT M) p s m args meth c dC dI cy A → mX M ad A s → st_ ad adV A s → ex_ ad0 ad dom0 dom → wd_ dC dI cy A ad dom h H → va_S A s.heap H locs → lv_has ls (mN M) (lv.map (fun q => (q.1, h_cv ad q.2))) → (∀ q ∈ lv, h_ok dom q.2) → (∀ v ∈ st, h_ok dom v) → Zx A s → (∀ x ∈ c.exceptionTable.toList, False) →
    W p l.1 e (mR M) s m args below meth c H locs 0 0 (vx_MQ below (qq_ K dC dI cy A ad0 dom0) (xx_ KX dC dI cy A ad0 dom0) args s (mR M).cells (mR M).slots A) (F0 m pc ls (st.map (h_cv ad)))
section AXR
variable {M : Mc_} {pc : Nat} {lv : List (Nat × Value)} {st : List Value} {h : Hp_} {K : Option Value → Hp_ → Prop} {KX : Hp_ → Prop}
theorem ax_ret (k : AW M 0 0 pc lv st h K) : AX M pc lv st h K KX := by
  intro l p e s m args below meth c dC dI cy A ad0 adV ad dom0 dom H locs ls hf hX hT hE hW hS hl ho hs hZ ht
  exact vx_ret (k l p e s m args below meth c dC dI cy A ad0 adV ad dom0 dom H locs ls hf hX hT hE hW hS hl ho hs)
theorem ax_iload_n {i : Nat} {x : Int32} {z : Fin 4} (hz : (z : Nat) = i) (hd : decode (mC M) pc = .ok (.iload_n z, 1)) (j : Nat) (hj : lv[j]? = some (i, .int x)) (k : AX M (pc + 1) lv (.int x :: st) h K KX) : AX M pc lv (st) h K KX := by
  intro l p e s m args below meth c dC dI cy A ad0 adV ad dom0 dom H locs ls hf hX hT hE hW hS hl ho hs hZ ht
  exact lv_iload_n hf.1 hf.2.1 hd hz (lv_fnd (List.mem_of_getElem? hj) hl) (k l p e s m args below meth c dC dI cy A ad0 adV ad dom0 dom H locs ls hf hX hT hE hW hS hl ho (ok_c ok_i hs) hZ ht)
theorem ax_aload_n {i : Nat} {x : Nat} {z : Fin 4} (hz : (z : Nat) = i) (hd : decode (mC M) pc = .ok (.aload_n z, 1)) (j : Nat) (hj : lv[j]? = some (i, .ref x)) (k : AX M (pc + 1) lv (.ref x :: st) h K KX) : AX M pc lv (st) h K KX := by
  intro l p e s m args below meth c dC dI cy A ad0 adV ad dom0 dom H locs ls hf hX hT hE hW hS hl ho hs hZ ht
  exact lv_aload_n hf.1 hf.2.1 hd hz (lv_fnd (List.mem_of_getElem? hj) hl) (k l p e s m args below meth c dC dI cy A ad0 adV ad dom0 dom H locs ls hf hX hT hE hW hS hl ho (ok_c (ho _ (List.mem_of_getElem? hj)) hs) hZ ht)
theorem ax_aload_nN {i : Nat} {z : Fin 4} (hz : (z : Nat) = i) (hd : decode (mC M) pc = .ok (.aload_n z, 1)) (j : Nat) (hj : lv[j]? = some (i, .null)) (k : AX M (pc + 1) lv (.null :: st) h K KX) : AX M pc lv (st) h K KX := by
  intro l p e s m args below meth c dC dI cy A ad0 adV ad dom0 dom H locs ls hf hX hT hE hW hS hl ho hs hZ ht
  exact lv_aload_nN hf.1 hf.2.1 hd hz (lv_fnd (List.mem_of_getElem? hj) hl) (k l p e s m args below meth c dC dI cy A ad0 adV ad dom0 dom H locs ls hf hX hT hE hW hS hl ho (ok_c ok_n hs) hZ ht)
theorem ax_ifnonnull {a : Nat} {off : Int} {tgt : Nat} (hd : decode (mC M) pc = .ok (.ifnonnull off, 3)) (ht : (pc : Int) + off = (tgt : Int)) (k : AX M tgt lv (st) h K KX) : AX M pc lv (.ref a :: st) h K KX := by
  intro l p e s m args below meth c dC dI cy A ad0 adV ad dom0 dom H locs ls hf hX hT hE hW hS hl ho hs hZ ht2
  exact lv_ifnonnull hf.1 hf.2.1 hd ht (k l p e s m args below meth c dC dI cy A ad0 adV ad dom0 dom H locs ls hf hX hT hE hW hS hl ho (ok_t hs) hZ ht2)
theorem ax_ifnonnullN {off : Int} (hd : decode (mC M) pc = .ok (.ifnonnull off, 3)) (k : AX M (pc + 3) lv (st) h K KX) : AX M pc lv (.null :: st) h K KX := by
  intro l p e s m args below meth c dC dI cy A ad0 adV ad dom0 dom H locs ls hf hX hT hE hW hS hl ho hs hZ ht
  exact lv_ifnonnullN hf.1 hf.2.1 hd (k l p e s m args below meth c dC dI cy A ad0 adV ad dom0 dom H locs ls hf hX hT hE hW hS hl ho (ok_t hs) hZ ht)
theorem ax_tableOut {dflt lo hi : Int} {offs : Array Int} {len : Nat} {x : Int32} {tgt : Nat} (hd : decode (mC M) pc = .ok (.tableswitch dflt lo hi offs, len)) (h1 : x.toInt < lo ∨ hi < x.toInt) (ht : (pc : Int) + dflt = (tgt : Int)) (k : AX M tgt lv (st) h K KX) : AX M pc lv (.int x :: st) h K KX := by
  intro l p e s m args below meth c dC dI cy A ad0 adV ad dom0 dom H locs ls hf hX hT hE hW hS hl ho hs hZ ht2
  exact lv_tableOut hf.1 hf.2.1 hd h1 ht (k l p e s m args below meth c dC dI cy A ad0 adV ad dom0 dom H locs ls hf hX hT hE hW hS hl ho (ok_t hs) hZ ht2)
theorem ax_astore_n {i : Nat} {x : Nat} {z : Fin 4} (hz : (z : Nat) = i) (lv' : List (Nat × Value)) (hd : decode (mC M) pc = .ok (.astore_n z, 1)) (hn : i < mN M) (hr : (lv_rise lv && lv_fit i lv) = true) (hp : lv_put i (.ref x) lv = lv') (k : AX M (pc + 1) lv' st h K KX) : AX M pc lv (.ref x :: st) h K KX := by
  intro l p e s m args below meth c dC dI cy A ad0 adV ad dom0 dom H locs ls hf hX hT hE hW hS hl ho hs hZ ht
  rw [Bool.and_eq_true] at hr
  subst hp
  refine lv_astore_n hf.1 hf.2.1 hd hz hl hn rfl (fun ls' hl' => ?_)
  refine k l p e s m args below meth c dC dI cy A ad0 adV ad dom0 dom H locs ls' hf hX hT hE hW hS (lv_put_has (v := .ref x) hr.1 hr.2 hl') (fun q hq => ?_) (ok_t hs) hZ ht
  rcases lv_put_mem hq with h1 | h1
  · rw [h1]; exact ok_h hs
  · exact ho q h1
theorem ax_astore_nN {i : Nat} {z : Fin 4} (hz : (z : Nat) = i) (lv' : List (Nat × Value)) (hd : decode (mC M) pc = .ok (.astore_n z, 1)) (hn : i < mN M) (hr : (lv_rise lv && lv_fit i lv) = true) (hp : lv_put i (.null) lv = lv') (k : AX M (pc + 1) lv' st h K KX) : AX M pc lv (.null :: st) h K KX := by
  intro l p e s m args below meth c dC dI cy A ad0 adV ad dom0 dom H locs ls hf hX hT hE hW hS hl ho hs hZ ht
  rw [Bool.and_eq_true] at hr
  subst hp
  refine lv_astore_nN hf.1 hf.2.1 hd hz hl hn rfl (fun ls' hl' => ?_)
  refine k l p e s m args below meth c dC dI cy A ad0 adV ad dom0 dom H locs ls' hf hX hT hE hW hS (lv_put_has (v := .null) hr.1 hr.2 hl') (fun q hq => ?_) (ok_t hs) hZ ht
  rcases lv_put_mem hq with h1 | h1
  · rw [h1]; exact ok_n
  · exact ho q h1
theorem ax_back {a : Array Value} {rest st0 : List Value} {K' : Option Value → Hp_ → Prop} (hXs : xs_ M)
    {l : Ln_} {p : Program} {e : Env} {s : State} {m : MethodId} {args : Array Value} {below : List Frame} {meth : Method} {c : Code} {dC : Nat → ClassId} {dI : Nat → Nat → Nat} {cy : Nat → ClassId} {A : Nat → Prop} {ad0 adV ad : Nat → Nat} {dom0 dom : List Nat} {H : Heap} {locs : List Loc} {ls : Array Slot}
    (hf : fr_ (mY M) (mC M) (mN M) (mT M) p s m args meth c dC dI cy A) (hX : mX M ad A s) (hT : st_ ad adV A s) (hE : ex_ ad0 ad dom0 dom) (hW : wd_ dC dI cy A ad dom h H) (hS : va_S A s.heap H locs) (hl : lv_has ls (mN M) (lv.map (fun q => (q.1, h_cv ad q.2)))) (ho : ∀ q ∈ lv, h_ok dom q.2) (hs : ∀ v ∈ rest, h_ok dom v) (hZ : Zx A s) (ht : ∀ x ∈ c.exceptionTable.toList, False)
    (hr : va_Run p l.1 e (mR M) s m args below meth c H locs 0 0 0 0 (F0 m pc ls st0) (rest.map (h_cv ad)) (qq_ K' dC dI cy (va_A (h_W cy ad h dom) H.size) ad dom a) (va_A (h_W cy ad h dom) H.size))
    (k : ∀ v h', K' v h' → AX M (pc + 3) lv (v.toList ++ rest) h' K KX) :
    W p l.1 e (mR M) s m args below meth c H locs 0 0 (vx_MQ below (qq_ K dC dI cy A ad0 dom0) (xx_ KX dC dI cy A ad0 dom0) args s (mR M).cells (mR M).slots A) (F0 m pc ls st0) := by
  intro T hT0 X
  obtain ⟨v, st₀, t, T', L, h0, X', hL, e1, e2, ⟨⟨v', h', ad', dom', hv, hK', hW', hov, hE'⟩, hz, hkp⟩, stp⟩ := hr T hT0 X
  cases hv
  rw [h0] at hz hkp
  have hAA := cp_sub hf.2.2.2.2.2.2.2.2.2 hW hS
  have hS1 : va_S A s.heap T'.heap (locs ++ L) := ⟨Nat.le_trans hS.1 (by rw [e1]; exact hz), fun q h1 h2 => by rw [e1, hkp q (Nat.lt_of_lt_of_le h1 hS.1) (fun z => h2 (hAA q z))]; exact hS.2.1 q h1 h2, fun q hq => by
      rcases List.mem_append.mp hq with z | z
      · exact hS.2.2 q z
      · exact hAA _ (hL q z)⟩
  have hW1 : wd_ dC dI cy A ad' dom' h' T'.heap := ⟨hW'.1, by rw [e1]; exact hW'.2.1, hW'.2.2.weaken (fun _ _ _ z => hAA _ z)⟩
  have hs1 : ∀ x ∈ v'.toList ++ rest, h_ok dom' x := by
    intro x hx
    rcases List.mem_append.mp hx with z | z
    · exact hov x (Option.mem_toList.mp z)
    · exact h_ok_mono hE'.2 (hs x z)
  have he : ∀ a, 1000 ≤ a → ad' a = ad a := fun a ha => hE'.1 a (Or.inr ha)
  have hl1 : lv_has ls (mN M) (lv.map (fun q => (q.1, h_cv ad' q.2))) := by
    rw [lvs_same (fun q hq z hz => hE'.1 z (ho q hq z hz))]
    exact hl
  have hz1 := k v' h' hK' l p e s m args below meth c dC dI cy A ad0 adV ad' dom0 dom' T'.heap (locs ++ L) ls hf (hXs ad ad' A s he hX) (st_same he hT) (ex_trans hE hE') hW1 hS1 hl1 (fun q hq => h_ok_mono hE'.2 (ho q hq)) hs1 hZ ht
  obtain ⟨t2, a1, b1⟩ := hz1 T' rfl X'
  refine ⟨t2, stp t2 ?_, b1⟩
  rw [List.map_append, cvs_same (ad := ad) (fun x hx z w => hE'.1 z (hs x hx z w))] at a1
  cases v' <;> exact a1
theorem ax_callV {M' : Mc_} {vs rest : List Value} {K' : Option Value → Hp_ → Prop} {n idx ci a N : Nat} {C : String} {T : u_T} (hd : decode (mC M) pc = .ok (.invokevirtual idx, 3)) (hm : cm_ M' n) (hkc : kc_ ci C T N) (hs0 : h_sh h a = some (ci + 10, N)) (hin : Cond.instanceMethod (mY M') ∈ lw_g) (hse : Cond.selects C (mY M') (mY M') ∈ lw_g) (hlk : Cond.methodLink (mY M).cls idx (mY M') ∈ lw_g) (hn : vs.length = n) (hR : (mR M').frames + 1 ≤ (mR M).frames ∧ 8 + (mN M' + 11) + (mR M').locals ≤ (mR M).locals) (hc : (rest.map (fun v => v.category)).sum ≤ 8) (hz : (mR M').cells = 0 ∧ (mR M').slots = 0) (hXs : xs_ M)
    (hC : Ct M' (.ref a :: vs) h K') (k : ∀ v h', K' v h' → AX M (pc + 3) lv (v.toList ++ rest) h' K KX) : AX M pc lv (vs.reverse ++ .ref a :: rest) h K KX := by
  intro l p e s m args below meth c dC dI cy A ad0 adV ad dom0 dom H locs ls hf hX hT hE hW hS hl ho hs hZ ht
  have hov : ∀ v ∈ Value.ref a :: vs, h_ok dom v := fun v hv => hs v (by
    rcases List.mem_cons.mp hv with z | z
    · exact List.mem_append_right _ (by rw [z]; exact List.mem_cons_self)
    · exact List.mem_append_left _ (List.mem_reverse.mpr z))
  obtain ⟨q, hq, hw⟩ := h_W_get (cy := cy) (ad := ad) (h := h) (wd_in hW hs0)
  rw [h_ce_obj hs0] at hw
  have hr : va_Run p l.1 e (mR M) s m args below meth c H locs 0 0 (mR M').cells (mR M').slots (F0 m pc ls ((vs.reverse ++ .ref a :: rest).map (h_cv ad))) (rest.map (h_cv ad)) (qq_ K' dC dI cy (va_A (h_W cy ad h dom) H.size) ad dom (Value.ref (ad a) :: vs.map (h_cv ad)).toArray) (va_A (h_W cy ad h dom) H.size) :=
    va_runV (As := vs.map (h_cv ad)) ⟨hf.1, hf.2.1, hf.2.2.1, hf.2.2.2.2.2.1, hf.2.2.2.2.2.2.2.1⟩ (hC l dC dI cy ad adV dom H.size hW.1 hov) ⟨cb_ hf.2.2.2.2.2.2.2.1 hm hlk hR, hf.2.2.2.2.2.2.2.1 _ hin, hf.2.2.2.2.2.2.2.1 _ hse⟩ ⟨cp_blind, va_recv hf.2.2.2.2.2.2.2.2.1.1 hW.2.1 hkc.1 hw, fun U hU hWm => ⟨rfl, cp_pre hf hT hW hS hU hWm⟩⟩ rfl (by rw [List.length_map]; exact hn) hl.1 (by rw [List.map_append, List.map_reverse]; rfl) (lv_room (by rw [cat_cv]; exact hc)) hd ⟨by rw [hz.1]; exact Nat.zero_le _, by rw [hz.2]; exact Nat.zero_le _⟩
  rw [hz.1, hz.2] at hr
  exact ax_back hXs hf hX hT hE hW hS hl ho (fun v hv => hs v (List.mem_append_right _ (List.mem_cons_of_mem _ hv))) hZ ht hr k
end AXR
noncomputable abbrev Ma : Mc_ := m_X11_about 12 1 6
theorem ax_thr {pc is_ : Nat} {text : String} {lv : List (Nat × Value)} {h : Hp_} {K : Option Value → Hp_ → Prop} {KX : Hp_ → Prop} (d0 : decode (mC Ma) pc = .ok (.new 306, 3)) (d3 : decode (mC Ma) (pc + 3) = .ok (.dup, 1)) (d4 : decode (mC Ma) (pc + 4) = .ok (.ldc_w is_, 3)) (d7 : decode (mC Ma) (pc + 7) = .ok (.invokespecial 310, 3)) (d10 : decode (mC Ma) (pc + 10) = .ok (.athrow, 1)) (hstr : ∀ (A : Nat → Prop) (s : State), Zx A s → ∃ sa, vk_R "CountyWatch" is_ text sa s) (kx : KX h) : AX Ma pc lv [] h K KX := by
  intro l p e s m args below meth c dC dI cy A ad0 adV ad dom0 dom H locs ls hf hX hT hE hW hS hl ho hs hZ ht
  obtain ⟨sa, hsa⟩ := hstr A s hZ
  have htg := hf.2.2.2.2.2.2.2.1
  refine tw13 (own := "CountyWatch") (cls := xE) (F := xF) (text := text) (names := xN) (ik := 306) (is := is_) (ic := 310) (sa := sa) (A := A) hf.1 hf.2.1 l.2 hf.2.2.2.2.2.1 (by decide +kernel) (by decide +kernel) (by decide +kernel) (htg _ tw_1669) (htg _ tw_25) hsa (fun w hw => va_tabs (ft_ot w hw) rfl (hZ.2.2.2.2 w hw)) ?_ hZ.1 hZ.2.1 hS (hl.1.trans hf.2.2.1.symm) d0 d3 d4 d7 d10 (fun x hx => (ht x hx).elim) (by decide) (Nat.le_of_ble_eq_true rfl) (by decide) (by decide) hf.2.2.2.2.1 (fun t1 hal hsz1 hkp1 => ⟨rfl, ⟨h, ad, dom, kx, wd_more hW hkp1, hE⟩, ?_⟩) hS.2.2 (by decide) (by decide)
  · intro w hw
    have hall : (Cond.classLink "CountyWatch" 306 xE :: Cond.initialized xE :: aE).all vx_ot = true := by decide +kernel
    exact List.all_eq_true.mp hall w hw
  · exact ⟨Nat.le_trans hS.1 hsz1, fun q h1 h2 => (hkp1 q (Nat.lt_of_lt_of_le h1 hS.1)).trans (hS.2.1 q h1 h2)⟩
noncomputable abbrev kA (h : Hp_) : Option Value → Hp_ → Prop := fun v h' => (∃ r : Int32, v = some (.int r)) ∧ Iv h' ∧ Fr [] h h'
theorem ab_ret {h h' : Hp_} (I : Iv h') (F : Fr [] h h') (c : Nat) (hc : Cn h' c) (x1 x2 : Int32) (b : 0 ≤ x2.toInt ∧ x2.toInt ≤ 8) : AW Ma 0 0 21 [(0, .ref 0), (1, .int x1), (2, .int x2), (3, .ref c)] [] h' (kA h) := by
  have en : ∀ {x y : Int32}, x.toInt = y.toInt → x = y := fun z => Int32.toInt_inj.mp z
  have hk : 0 ≤ (mR Ma).cells ∧ 0 ≤ (mR Ma).slots := ⟨Nat.zero_le _, Nat.zero_le _⟩
  refine aw_iload_n (i := 2) rfl d_X11_about_21 2 rfl ?_
  by_cases e0 : x2.toInt = 0
  · refine aw_tableIn (off := 50) (tgt := 72) d_X11_about_22 (by rw [e0]; decide) (by rw [e0]; decide) (by rw [e0]; rfl) rfl ?_
    refine aw_aload_n (i := 3) rfl d_X11_about_72 3 rfl ?_
    refine aw_geti (k0 := 4) kc_2 hc.2.2 (Nat.le_of_ble_eq_true rfl) tw_581 d_X11_about_73 rfl ?_
    exact aw_iret rfl d_X11_about_76 hk ⟨⟨_, rfl⟩, I, F⟩
  by_cases e1 : x2.toInt = 1
  · refine aw_tableIn (off := 55) (tgt := 77) d_X11_about_22 (by rw [e1]; decide) (by rw [e1]; decide) (by rw [e1]; rfl) rfl ?_
    refine aw_aload_n (i := 3) rfl d_X11_about_77 3 rfl ?_
    refine aw_geti (k0 := 5) kc_2 hc.2.2 (Nat.le_of_ble_eq_true rfl) tw_583 d_X11_about_78 rfl ?_
    exact aw_iret rfl d_X11_about_81 hk ⟨⟨_, rfl⟩, I, F⟩
  by_cases e2 : x2.toInt = 2
  · refine aw_tableIn (off := 60) (tgt := 82) d_X11_about_22 (by rw [e2]; decide) (by rw [e2]; decide) (by rw [e2]; rfl) rfl ?_
    refine aw_aload_n (i := 3) rfl d_X11_about_82 3 rfl ?_
    refine aw_geti (k0 := 6) kc_2 hc.2.2 (Nat.le_of_ble_eq_true rfl) tw_585 d_X11_about_83 rfl ?_
    exact aw_iret rfl d_X11_about_86 hk ⟨⟨_, rfl⟩, I, F⟩
  by_cases e3 : x2.toInt = 3
  · refine aw_tableIn (off := 65) (tgt := 87) d_X11_about_22 (by rw [e3]; decide) (by rw [e3]; decide) (by rw [e3]; rfl) rfl ?_
    refine aw_aload_n (i := 3) rfl d_X11_about_87 3 rfl ?_
    refine aw_geti (k0 := 7) kc_2 hc.2.2 (Nat.le_of_ble_eq_true rfl) tw_587 d_X11_about_88 rfl ?_
    exact aw_iret rfl d_X11_about_91 hk ⟨⟨_, rfl⟩, I, F⟩
  by_cases e4 : x2.toInt = 4
  · refine aw_tableIn (off := 70) (tgt := 92) d_X11_about_22 (by rw [e4]; decide) (by rw [e4]; decide) (by rw [e4]; rfl) rfl ?_
    refine aw_aload_n (i := 3) rfl d_X11_about_92 3 rfl ?_
    refine aw_geti (k0 := 4) kc_2 hc.2.2 (Nat.le_of_ble_eq_true rfl) tw_581 d_X11_about_93 rfl ?_
    refine aw_iconst (v := 1) d_X11_about_96 ic_1 ?_
    refine aw_icmp_ne (tgt := 107) d_X11_about_97 rfl (fun _ => ?_) (fun _ => ?_)
    · refine aw_iconst (v := (-1)) d_X11_about_107 ic_m1 ?_
      exact aw_iret rfl d_X11_about_108 hk ⟨⟨_, rfl⟩, I, F⟩
    · refine aw_aload_n (i := 3) rfl d_X11_about_100 3 rfl ?_
      refine aw_geti (k0 := 9) kc_2 hc.2.2 (Nat.le_of_ble_eq_true rfl) tw_589 d_X11_about_101 rfl ?_
      refine aw_goto (tgt := 108) d_X11_about_104 rfl ?_
      exact aw_iret rfl d_X11_about_108 hk ⟨⟨_, rfl⟩, I, F⟩
  by_cases e5 : x2.toInt = 5
  · refine aw_tableIn (off := 87) (tgt := 109) d_X11_about_22 (by rw [e5]; decide) (by rw [e5]; decide) (by rw [e5]; rfl) rfl ?_
    refine aw_aload_n (i := 3) rfl d_X11_about_109 3 rfl ?_
    refine aw_geti (k0 := 15) kc_2 hc.2.2 (Nat.le_of_ble_eq_true rfl) tw_597 d_X11_about_110 rfl ?_
    exact aw_iret rfl d_X11_about_113 hk ⟨⟨_, rfl⟩, I, F⟩
  by_cases e6 : x2.toInt = 6
  · refine aw_tableIn (off := 92) (tgt := 114) d_X11_about_22 (by rw [e6]; decide) (by rw [e6]; decide) (by rw [e6]; rfl) rfl ?_
    refine aw_aload_n (i := 3) rfl d_X11_about_114 3 rfl ?_
    refine aw_geti (k0 := 16) kc_2 hc.2.2 (Nat.le_of_ble_eq_true rfl) tw_598 d_X11_about_115 rfl ?_
    exact aw_iret rfl d_X11_about_118 hk ⟨⟨_, rfl⟩, I, F⟩
  by_cases e7 : x2.toInt = 7
  · refine aw_tableIn (off := 97) (tgt := 119) d_X11_about_22 (by rw [e7]; decide) (by rw [e7]; decide) (by rw [e7]; rfl) rfl ?_
    refine aw_aload_n (i := 3) rfl d_X11_about_119 3 rfl ?_
    refine aw_geti (k0 := 2) kc_2 hc.2.2 (Nat.le_of_ble_eq_true rfl) tw_577 d_X11_about_120 rfl ?_
    exact aw_iret rfl d_X11_about_123 hk ⟨⟨_, rfl⟩, I, F⟩
  by_cases e8 : x2.toInt = 8
  · refine aw_tableIn (off := 102) (tgt := 124) d_X11_about_22 (by rw [e8]; decide) (by rw [e8]; decide) (by rw [e8]; rfl) rfl ?_
    refine aw_aload_n (i := 3) rfl d_X11_about_124 3 rfl ?_
    refine aw_geti (k0 := 3) kc_2 hc.2.2 (Nat.le_of_ble_eq_true rfl) tw_579 d_X11_about_125 rfl ?_
    exact aw_iret rfl d_X11_about_128 hk ⟨⟨_, rfl⟩, I, F⟩
  omega
theorem ax_about {h : Hp_} (I : Iv h) (x1 x2 : Int32) : AX Ma 0 [(0, .ref 0), (1, .int x1), (2, .int x2)] [] h (kA h) (fun h' => Iv h' ∧ Fr [] h h') := by
  refine ax_aload_n (i := 0) rfl d_X11_about_0 0 rfl ?_
  refine ax_iload_n (i := 1) rfl d_X11_about_1 1 rfl ?_
  have C : Ct (m_X11_manOf (10 + 1) 0 0) [.ref 0, .int x1] h (Kc [] h (some (.inr 2)) []) := hc_X11_manOf 10 [.int x1, .ref 0] h ⟨⟨x1, rfl, rtop_in _, fun _ y => (nomatch y)⟩, rfl, trivial⟩ I (fun _ y => (nomatch y))
  refine ax_callV (vs := [.int x1]) (rest := []) (a := 0) (M' := m_X11_manOf (10 + 1) 0 0) d_X11_about_2 (cV_X11_manOf (10 + 1) 0 0).1 kc_11 (ws_0 I.1) (cV_X11_manOf (10 + 1) 0 0).2.1 (cV_X11_manOf (10 + 1) 0 0).2.2 tw_904 rfl ⟨Nat.le_of_ble_eq_true rfl, Nat.le_of_ble_eq_true rfl⟩ (Nat.le_of_ble_eq_true rfl) ⟨rfl, rfl⟩ xs0 C (fun v h' kv => ?_)
  obtain ⟨I', F', _, x, ev, hx⟩ := kv
  subst ev
  have hx : x = .null ∨ ∃ c, x = .ref c ∧ Cn h' c := hx
  rcases hx with e | ⟨c, e, hc⟩
  · subst e
    refine ax_astore_nN (i := 3) rfl [(0, .ref 0), (1, .int x1), (2, .int x2), (3, .null)] d_X11_about_5 (Nat.le_of_ble_eq_true rfl) rfl rfl ?_
    refine ax_aload_nN (i := 3) rfl d_X11_about_6 3 rfl ?_
    refine ax_ifnonnullN d_X11_about_7 ?_
    exact ax_thr d_X11_about_10 d_X11_about_13 d_X11_about_14 d_X11_about_17 d_X11_about_20 (fun A s z => z.2.2.1) ⟨I', F'⟩
  · subst e
    refine ax_astore_n (i := 3) rfl [(0, .ref 0), (1, .int x1), (2, .int x2), (3, .ref c)] d_X11_about_5 (Nat.le_of_ble_eq_true rfl) rfl rfl ?_
    refine ax_aload_n (i := 3) rfl d_X11_about_6 3 rfl ?_
    refine ax_ifnonnull (tgt := 21) d_X11_about_7 rfl ?_
    by_cases b : 0 ≤ x2.toInt ∧ x2.toInt ≤ 8
    · exact ax_ret (ab_ret I' F' c hc x1 x2 b)
    · refine ax_iload_n (i := 2) rfl d_X11_about_21 2 rfl ?_
      refine ax_tableOut (tgt := 129) d_X11_about_22 (by omega) rfl ?_
      exact ax_thr d_X11_about_129 d_X11_about_132 d_X11_about_133 d_X11_about_136 d_X11_about_139 (fun A s z => z.2.2.2.1) ⟨I', F'⟩
theorem dom_h {dom : List Nat} {h : Hp_} (hd : ∀ a, h_sh h a ≠ none ↔ a ∈ dom) {a : Nat} {x : Nat × Nat} (hs : h_sh h a = some x) : a ∈ dom := (hd a).mp (by rw [hs]; exact fun z => by cases z)
theorem xa_about (l : Ln_) (dC : Nat → ClassId) (dI : Nat → Nat → Nat) (cy : Nat → ClassId) (ad adV : Nat → Nat) (dom : List Nat) (sz : Nat) {h : Hp_} (I : Iv h) (hdm : dom.Nodup ∧ (∀ a, h_sh h a ≠ none ↔ a ∈ dom) ∧ (∀ a ∈ dom, a < 1000) ∧ ∀ b k c, h_r h b k = some c → c ∈ dom ∨ 1000 ≤ c) (x1 x2 : Int32) :
    vx_Met l.1 (mY Ma) (Cond.code (mY Ma) (mC Ma) 4 (some .int) :: lw_g) (mR Ma) (va_Pc ([Value.ref 0, .int x1, .int x2].map (h_cv ad)) (cz_ dC dI cy ad adV dom h sz)) (qq_ (kA h) dC dI cy (va_A (h_W cy ad h dom) sz) ad dom) (xx_ (fun h' => Iv h' ∧ Fr [] h h') dC dI cy (va_A (h_W cy ad h dom) sz) ad dom) 1 6 (va_A (h_W cy ad h dom) sz) := by
  refine vx_ofW (cc := mC Ma) (maxL := 4) (ret := some .int) rfl rfl ?_
  intro p e s m args below meth c s₁ B hml htab hv0
  obtain ⟨rfl, ⟨hsz, hP, hD0, hcx, hst⟩, hz⟩ := hv0
  have hts := atoms_spec (ws := Cond.code (mY Ma) (mC Ma) 4 (some .int) :: lw_g) B.pre
  have htg : ∀ w ∈ lw_g, w.before _ s = true := fun w hw => hts w (List.mem_cons_of_mem _ hw)
  have hown : s.vm.findClass "CountyWatch" = some m.cls := findClass_of_methodNamed B.named
  have hnm : meth.name = "about" := (name_of_methodNamed B.named B.method).1
  subst hsz
  have hD := hD0.self (sz := s.heap.size)
  have hl := lv_entry ([Value.ref 0, .int x1, .int x2].map (h_cv ad)) (n := 4) (Nat.le_of_ble_eq_true rfl)
  rw [lg_entry_eq]
  generalize (lg_sl ([Value.ref 0, .int x1, .int x2].map (h_cv ad)) ++ List.replicate (4 - (lg_sl ([Value.ref 0, .int x1, .int x2].map (h_cv ad))).length) Slot.unset).toArray = ls at hl ⊢
  have hl : lv_has ls 4 [(0, .ref (ad 0)), (1, .int x1), (2, .int x2)] := hl
  exact ax_about I x1 x2 l p e s m _ below meth c dC dI cy (va_A (h_W cy ad h dom) s.heap.size) ad adV ad dom dom s.heap [] ls ⟨B.exec, B.bytes, hml, B.returns, B.notSynchronized, hown, hnm, htg, hcx, fun q hq => Or.inr hq⟩ trivial hst ⟨fun _ _ => rfl, fun _ ha => ha⟩ ⟨hdm, hP, hD⟩ va_S.rf hl (fun q hq => by
    rcases List.mem_cons.mp hq with z | hq
    · rw [z]; intro c hc; cases hc; exact Or.inl (dom_h hdm.2.1 (ws_0 I.1))
    · rcases List.mem_cons.mp hq with z | hq
      · rw [z]; exact ok_i
      · rw [List.mem_singleton.mp hq]; exact ok_i) (fun v hv => by cases hv) hz htab
noncomputable abbrev yLa : MethodName := ⟨"CountyWatchLaw", "about", "(LCountyWatch;II[J)I"⟩
noncomputable abbrev RLa : Room := { frames := 20, cells := 1, slots := 6, locals := 2000 }
noncomputable abbrev wLa : Cond := Cond.codeWith yLa method_3_code 5 (some .int) [(0, 10, 13, 13)]
noncomputable abbrev mLa : Mc_ := (fun _ _ _ => True, yLa, method_3_code, 5, some .int, RLa)
noncomputable def kLa (h : Hp_) : Option Value → Hp_ → Prop := fun v h' => (∃ r : Int32, v = some (.int r)) ∧ Iv h' ∧ Fr [2999] h h'
theorem d_La_0 : decode method_3_code 0 = .ok (.aload_n 3, 1) := by decide +kernel
theorem d_La_1 : decode method_3_code 1 = .ok (.iconst 0, 1) := by decide +kernel
theorem d_La_2 : decode method_3_code 2 = .ok (.aload_n 0, 1) := by decide +kernel
theorem d_La_3 : decode method_3_code 3 = .ok (.iload_n 1, 1) := by decide +kernel
theorem d_La_4 : decode method_3_code 4 = .ok (.iload_n 2, 1) := by decide +kernel
theorem d_La_5 : decode method_3_code 5 = .ok (.invokevirtual 7, 3) := by decide +kernel
theorem d_La_8 : decode method_3_code 8 = .ok (.i2l, 1) := by decide +kernel
theorem d_La_9 : decode method_3_code 9 = .ok (.lastore, 1) := by decide +kernel
theorem d_La_10 : decode method_3_code 10 = .ok (.goto 7, 3) := by decide +kernel
theorem d_La_13 : decode method_3_code 13 = .ok (.astore 4, 2) := by decide +kernel
theorem d_La_15 : decode method_3_code 15 = .ok (.iconst 1, 1) := by decide +kernel
theorem d_La_16 : decode method_3_code 16 = .ok (.ireturn, 1) := by decide +kernel
theorem d_La_17 : decode method_3_code 17 = .ok (.iconst 0, 1) := by decide +kernel
theorem d_La_18 : decode method_3_code 18 = .ok (.ireturn, 1) := by decide +kernel
theorem la_ret {h h' : Hp_} (I' : Iv h') (F' : Fr [] h h') (s2 : h_sh h 2 = some (3, 1)) (x1 x2 r : Int32) : AW mLa 1 6 8 [(0, .ref 0), (1, .int x1), (2, .int x2), (3, .ref 2)] [.int r, .int 0, .ref 2] h' (kLa h) := by
  refine aw_i2l d_La_8 ?_
  refine aw_last (n := 1) (by rw [F'.1]; exact s2) (vin_c (by decide)) d_La_9 ?_
  refine aw_goto (tgt := 17) d_La_10 rfl ?_
  refine aw_iconst (v := 0) d_La_17 ic_0 ?_
  exact aw_iret rfl d_La_18 ⟨Nat.le_refl _, Nat.le_refl _⟩ ⟨⟨0, rfl⟩, I'.lm, (F'.more (by decide +kernel)).lm (inw_row (by decide +kernel) _)⟩
theorem xl_about (l : Ln_) (dC : Nat → ClassId) (dI : Nat → Nat → Nat) (cy : Nat → ClassId) (ad adV : Nat → Nat) (dom : List Nat) (sz : Nat) {h : Hp_} (I : Iv h) (s2 : h_sh h 2 = some (3, 1)) (hdm : dom.Nodup ∧ (∀ a, h_sh h a ≠ none ↔ a ∈ dom) ∧ (∀ a ∈ dom, a < 1000) ∧ ∀ b k c, h_r h b k = some c → c ∈ dom ∨ 1000 ≤ c) (x1 x2 : Int32) :
    vx_Met l.1 yLa (wLa :: lw_g) RLa (va_Pc ([Value.ref 0, .int x1, .int x2, .ref 2].map (h_cv ad)) (cz_ dC dI cy ad adV dom h sz)) (qq_ (kLa h) dC dI cy (va_A (h_W cy ad h dom) sz) ad dom) (fun _ _ _ => False) 1 6 (va_A (h_W cy ad h dom) sz) := by
  refine vx_ofWH (cc := method_3_code) (maxL := 5) (ret := some .int) (hh := [(0, 10, 13, 13)]) rfl rfl ?_
  intro p e s m args below meth c s₁ B hml hv0
  obtain ⟨rfl, ⟨hsz, hP, hD0, hcx, hst⟩, hz⟩ := hv0
  have hts := atoms_spec (ws := wLa :: lw_g) B.pre
  have htg : ∀ w ∈ lw_g, w.before _ s = true := fun w hw => hts w (List.mem_cons_of_mem _ hw)
  have hown : s.vm.findClass "CountyWatchLaw" = some m.cls := findClass_of_methodNamed B.named
  have hnm : meth.name = "about" := (name_of_methodNamed B.named B.method).1
  have htbl : c.exceptionTable.toList = tableOf [(0, 10, 13, 13)] := vx_table (x := yLa) B (hts _ List.mem_cons_self)
  subst hsz
  have hD := hD0.self (sz := s.heap.size)
  have hl := lv_entry ([Value.ref 0, .int x1, .int x2, .ref 2].map (h_cv ad)) (n := 5) (Nat.le_of_ble_eq_true rfl)
  rw [lg_entry_eq]
  generalize (lg_sl ([Value.ref 0, .int x1, .int x2, .ref 2].map (h_cv ad)) ++ List.replicate (5 - (lg_sl ([Value.ref 0, .int x1, .int x2, .ref 2].map (h_cv ad))).length) Slot.unset).toArray = ls at hl ⊢
  have hl : lv_has ls 5 [(0, .ref (ad 0)), (1, .int x1), (2, .int x2), (3, .ref (ad 2))] := hl
  have hW : wd_ dC dI cy (va_A (h_W cy ad h dom) s.heap.size) ad dom h s.heap := ⟨hdm, hP, hD⟩
  have hS : va_S (va_A (h_W cy ad h dom) s.heap.size) s.heap s.heap [] := va_S.rf
  have hf : fr_ yLa method_3_code 5 (some .int) p s m _ meth c dC dI cy (va_A (h_W cy ad h dom) s.heap.size) := ⟨B.exec, B.bytes, hml, B.returns, B.notSynchronized, hown, hnm, htg, hcx, fun q hq => Or.inr hq⟩
  have m0 : (0 : Nat) ∈ dom := dom_h hdm.2.1 (ws_0 I.1)
  have m2 : (2 : Nat) ∈ dom := dom_h hdm.2.1 s2
  refine lv_aload_n B.exec B.bytes d_La_0 rfl (hl.2.2 (3, .ref (ad 2)) (by simp)) ?_
  refine lv_iconst B.exec B.bytes d_La_1 ic_0 ?_
  refine lv_aload_n B.exec B.bytes d_La_2 rfl (hl.2.2 (0, .ref (ad 0)) List.mem_cons_self) ?_
  refine lv_iload_n B.exec B.bytes d_La_3 rfl (hl.2.2 (1, .int x1) (by simp)) ?_
  refine lv_iload_n B.exec B.bytes d_La_4 rfl (hl.2.2 (2, .int x2) (by simp)) ?_
  obtain ⟨q, hq, hw⟩ := h_W_get (cy := cy) (ad := ad) (h := h) m0
  rw [h_ce_obj (ci := 11) (n := 16) (ws_0 I.1)] at hw
  have hm := cV_X11_about 12 1 6
  have hsub : ∀ z, va_A (h_W cy ad h dom) s.heap.size z → va_A (h_W cy ad h dom) s.heap.size z := fun _ z => z
  have hr := vx_runV (l := l.1) (e := e) (below := below) (meth := meth) (locs := []) (cells := 0) (slots := 0) (R := RLa) (m := m) (g := F0 m 5 ls [.int x2, .int x1, .ref (ad 0), .int 0, .ref (ad 2)]) (rest := [.int 0, .ref (ad 2)]) (As := [Value.int x1, .int x2]) ⟨B.exec, B.bytes, hml, hown, htg⟩ (xa_about l dC dI cy ad adV dom s.heap.size I hdm x1 x2) ⟨cb_ htg hm.1 tw_1665 ⟨by decide, by decide⟩, htg _ hm.2.1, htg _ hm.2.2⟩ ⟨cz_blind, va_recv hcx.1 hP kc_11.1 hw, fun U hU hWm => ⟨rfl, cp_pre hf hst hW hS hU hWm, hz.go hS hU hWm hsub⟩⟩ rfl rfl hl.1 rfl (lv_room (Nat.le_of_ble_eq_true rfl)) d_La_5 ⟨by decide, by decide⟩
  intro T hT0 X
  rcases hr T hT0 X with ⟨v, st₀, t, T', L, h0, X', hL, e1, e2, ⟨⟨v', h', ad', dom', hv, ⟨⟨r, er⟩, I', F'⟩, hW', hov', hE'⟩, hz1, hkp⟩, stp⟩ | ⟨q9, st₀, t, T', L, E, ce, h0, X', hL, e1, e2, ⟨rfl, ⟨h', ad', dom', ⟨I', F'⟩, hW', hE'⟩, hz1, hkp⟩, hce, hcv, hcl, st⟩
  · cases hv
    subst er
    rw [h0] at hz1 hkp
    have hS1 : va_S (va_A (h_W cy ad h dom) s.heap.size) s.heap T'.heap ([] ++ L) := ⟨by rw [e1]; exact hz1, fun q h1 h2 => by rw [e1]; exact hkp q h1 h2, fun q hq => hL q (by simpa using hq)⟩
    have hW1 : wd_ dC dI cy (va_A (h_W cy ad h dom) s.heap.size) ad' dom' h' T'.heap := by rw [e1]; exact hW'
    have he : ∀ a, 1000 ≤ a → ad' a = ad a := fun a ha => hE'.1 a (Or.inr ha)
    have a0 : ad' 0 = ad 0 := hE'.1 0 (Or.inl m0)
    have a2 : ad' 2 = ad 2 := hE'.1 2 (Or.inl m2)
    have hl1 : lv_has ls 5 ([(0, Value.ref 0), (1, .int x1), (2, .int x2), (3, .ref 2)].map (fun q => (q.1, h_cv ad' q.2))) := by
      show lv_has ls 5 [(0, .ref (ad' 0)), (1, .int x1), (2, .int x2), (3, .ref (ad' 2))]
      rw [a0, a2]; exact hl
    have o0 : h_ok dom' (.ref 0) := fun c hc => by cases hc; exact Or.inl (hE'.2 _ m0)
    have o2 : h_ok dom' (.ref 2) := fun c hc => by cases hc; exact Or.inl (hE'.2 _ m2)
    have k := la_ret I' F' s2 x1 x2 r l p e s m ([Value.ref 0, .int x1, .int x2, .ref 2].map (h_cv ad)).toArray below meth c dC dI cy (va_A (h_W cy ad h dom) s.heap.size) ad adV ad' dom dom' T'.heap ([] ++ L) ls hf trivial (st_same he hst) hE' hW1 hS1 hl1 (fun q hq => by
      rcases List.mem_cons.mp hq with z | hq
      · rw [z]; exact o0
      · rcases List.mem_cons.mp hq with z | hq
        · rw [z]; exact ok_i
        · rcases List.mem_cons.mp hq with z | hq
          · rw [z]; exact ok_i
          · rw [List.mem_singleton.mp hq]; exact o2) (ok_c ok_i (ok_c ok_i (ok_c o2 (fun v hv => by cases hv))))
    obtain ⟨t2, a1, b1⟩ := vx_ret (XC := fun _ _ _ => False) k T' rfl X'
    refine ⟨t2, stp t2 ?_, b1⟩
    have a1 : Steps p.tables e below (T'.setTop (F0 m 8 ls [.int r, .int 0, .ref (ad' 2)])) t2 := a1
    rw [a2] at a1
    exact a1
  · rw [h0] at hz1 hkp
    have hS1 : va_S (va_A (h_W cy ad h dom) s.heap.size) s.heap T'.heap ([] ++ L) := ⟨by rw [e1]; exact hz1, fun q h1 h2 => by rw [e1]; exact hkp q h1 h2, fun q hq => hL q (by simpa using hq)⟩
    have hW1 : wd_ dC dI cy (va_A (h_W cy ad h dom) s.heap.size) ad' dom' h' T'.heap := by rw [e1]; exact hW'
    have hca : (Cond.castable xE xE).before #[] s = true := hz.2.2.2.2 _ (by decide +kernel)
    have key : vx_W p l.1 e RLa s m ([Value.ref 0, .int x1, .int x2, .ref 2].map (h_cv ad)).toArray below meth c T'.heap ([] ++ L) (0 + 1) (0 + 6) (vx_MQ below (qq_ (kLa h) dC dI cy (va_A (h_W cy ad h dom) s.heap.size) ad dom) (fun _ _ _ => False) ([Value.ref 0, .int x1, .int x2, .ref 2].map (h_cv ad)).toArray s 1 6 (va_A (h_W cy ad h dom) s.heap.size)) (F0 m 5 ls [.int 0, .ref (ad 2)]) q9 := by
      refine vx_catch (own := "CountyWatchLaw") (name := xE) (E := xE) (ce := ce) hown [] ⟨0, 10, 13, 13⟩ [] (by rw [htbl]; rfl) (fun z hz => by cases hz) (by decide) (by decide) (htg _ tw_1664) (va_tabs rfl rfl hca) (by rw [e1]; exact hce) hcv hcl ?_
      refine lv_astore B.exec B.bytes d_La_13 hl (by decide) rfl (fun ls' hl' => ?_)
      refine lv_iconst B.exec B.bytes d_La_15 ic_1 ?_
      refine vx_ret ?_
      exact W.iret B.exec B.bytes B.returns (fun t1 ht _ => ⟨⟨some (.int 1), h', ad', dom', rfl, ⟨⟨1, rfl⟩, I', F'.more (by decide +kernel)⟩, by rw [ht]; exact hW1, fun _ hx => by cases hx; exact ok_i, hE'⟩, hS1.F ht⟩) hS1.2.2 d_La_16 B.notSynchronized
    obtain ⟨t2, a1, b1⟩ := key T' rfl X'
    exact ⟨t2, st.trans a1, b1⟩
theorem xl_met (l : Ln_) (dC : Nat → ClassId) (dI : Nat → Nat → Nat) (cy : Nat → ClassId) (ad adV : Nat → Nat) (dom : List Nat) (sz : Nat) {h : Hp_} (I : Iv h) (s2 : h_sh h 2 = some (3, 1)) (hdm : dom.Nodup ∧ (∀ a, h_sh h a ≠ none ↔ a ∈ dom) ∧ (∀ a ∈ dom, a < 1000) ∧ ∀ b k c, h_r h b k = some c → c ∈ dom ∨ 1000 ≤ c) (x1 x2 : Int32) :
    Met l.1 yLa (wLa :: lw_g) RLa (va_Pc ([Value.ref 0, .int x1, .int x2, .ref 2].map (h_cv ad)) (cz_ dC dI cy ad adV dom h sz)) (qq_ (kLa h) dC dI cy (va_A (h_W cy ad h dom) sz) ad dom) 1 6 (va_A (h_W cy ad h dom) sz) := by
  intro p e ha hc hk s m args below hf hp hP hT
  obtain ⟨k, o, h1, h2, h3, h4⟩ := xl_about l dC dI cy ad adV dom sz I s2 hdm x1 x2 p e ha hc hk s m args below hf hp hP hT
  rcases h4 with h4 | ⟨q, _, E, ce, L, hbad, _⟩
  · exact ⟨k, o, h1, h2, h3, h4⟩
  · exact hbad.elim
end
section
theorem t_X8_peek_0 (d : Nat) (h : Hp_) (w : Wf h)  (K : Int32 → Hp_ → Prop) (k : ((h_i h 11 1) ≤ (h_i h 11 2) → ((h_i h 11 1) ≤ (h_i h 11 2) → K (-1) h) ∧ (¬ (h_i h 11 1) ≤ (h_i h 11 2) → vp_in (h_i h 11 2) 160 ∧ (K (h_i h 31 ((h_i h 11 2) : Int32).toNatClampNeg) h))) ∧ (¬ (h_i h 11 1) ≤ (h_i h 11 2) → vp_in (h_i h 11 2) 160 ∧ ((¬ (h_i h 31 ((h_i h 11 2) : Int32).toNatClampNeg) = 32 → ((h_i h 11 1) ≤ (h_i h 11 2) → K (-1) h) ∧ (¬ (h_i h 11 1) ≤ (h_i h 11 2) → vp_in (h_i h 11 2) 160 ∧ (K (h_i h 31 ((h_i h 11 2) : Int32).toNatClampNeg) h))) ∧ ((h_i h 31 ((h_i h 11 2) : Int32).toNatClampNeg) = 32 → AW (m_X8_peek (d + 0) 0 0) 0 0 0 [(0, .ref 11)] [] (h_im h 11 2 ((h_i h 11 2) + 1)) (kI K))))) : AW (m_X8_peek (d + 0) 0 0) 0 0 0 [(0, .ref 11)] [] h (kI K) := by
  refine aw_aload_n (i := 0) rfl d_X8_peek_0 0 rfl ?_
  refine aw_geti (k0 := 2) kc_8 (ws_11 w) (Nat.le_of_ble_eq_true rfl) tw_62 d_X8_peek_1 rfl ?_
  refine aw_aload_n (i := 0) rfl d_X8_peek_4 0 rfl ?_
  refine aw_geti (k0 := 1) kc_8 (ws_11 w) (Nat.le_of_ble_eq_true rfl) tw_60 d_X8_peek_5 rfl ?_
  refine aw_icmp_ge (tgt := 38) d_X8_peek_8 rfl (fun c8 => ?_) (fun c8 => ?_)
  · have k := k.1 c8
    refine aw_aload_n (i := 0) rfl d_X8_peek_38 0 rfl ?_
    refine aw_geti (k0 := 2) kc_8 (ws_11 w) (Nat.le_of_ble_eq_true rfl) tw_62 d_X8_peek_39 rfl ?_
    refine aw_aload_n (i := 0) rfl d_X8_peek_42 0 rfl ?_
    refine aw_geti (k0 := 1) kc_8 (ws_11 w) (Nat.le_of_ble_eq_true rfl) tw_60 d_X8_peek_43 rfl ?_
    refine aw_icmp_ge (tgt := 61) d_X8_peek_46 rfl (fun c9 => ?_) (fun c9 => ?_)
    · have k := k.1 c9
      refine aw_iconst (v := (-1)) d_X8_peek_61 ic_m1 ?_
      exact aw_iret rfl d_X8_peek_62 ⟨Nat.le_refl _, Nat.le_refl _⟩ ⟨_, rfl, k⟩
    · have k := k.2 c9
      refine aw_aload_n (i := 0) rfl d_X8_peek_49 0 rfl ?_
      refine aw_getr (k0 := 0) kc_8 (ws_11 w) (Nat.le_of_ble_eq_true rfl) tw_59 d_X8_peek_50 rfl (wr_11_0 w) ?_
      refine aw_aload_n (i := 0) rfl d_X8_peek_53 0 rfl ?_
      refine aw_geti (k0 := 2) kc_8 (ws_11 w) (Nat.le_of_ble_eq_true rfl) tw_62 d_X8_peek_54 rfl ?_
      obtain ⟨b10, k⟩ := k
      refine aw_iald (ws_31 w) b10 d_X8_peek_57 ?_
      refine aw_goto (tgt := 62) d_X8_peek_58 rfl ?_
      exact aw_iret rfl d_X8_peek_62 ⟨Nat.le_refl _, Nat.le_refl _⟩ ⟨_, rfl, k⟩
  · have k := k.2 c8
    refine aw_aload_n (i := 0) rfl d_X8_peek_11 0 rfl ?_
    refine aw_getr (k0 := 0) kc_8 (ws_11 w) (Nat.le_of_ble_eq_true rfl) tw_59 d_X8_peek_12 rfl (wr_11_0 w) ?_
    refine aw_aload_n (i := 0) rfl d_X8_peek_15 0 rfl ?_
    refine aw_geti (k0 := 2) kc_8 (ws_11 w) (Nat.le_of_ble_eq_true rfl) tw_62 d_X8_peek_16 rfl ?_
    obtain ⟨b11, k⟩ := k
    refine aw_iald (ws_31 w) b11 d_X8_peek_19 ?_
    refine aw_bipush (v := 32) d_X8_peek_20 ib_32 ?_
    refine aw_icmp_ne (tgt := 38) d_X8_peek_22 rfl (fun c12 => ?_) (fun c12 => ?_)
    · have k := k.1 c12
      refine aw_aload_n (i := 0) rfl d_X8_peek_38 0 rfl ?_
      refine aw_geti (k0 := 2) kc_8 (ws_11 w) (Nat.le_of_ble_eq_true rfl) tw_62 d_X8_peek_39 rfl ?_
      refine aw_aload_n (i := 0) rfl d_X8_peek_42 0 rfl ?_
      refine aw_geti (k0 := 1) kc_8 (ws_11 w) (Nat.le_of_ble_eq_true rfl) tw_60 d_X8_peek_43 rfl ?_
      refine aw_icmp_ge (tgt := 61) d_X8_peek_46 rfl (fun c13 => ?_) (fun c13 => ?_)
      · have k := k.1 c13
        refine aw_iconst (v := (-1)) d_X8_peek_61 ic_m1 ?_
        exact aw_iret rfl d_X8_peek_62 ⟨Nat.le_refl _, Nat.le_refl _⟩ ⟨_, rfl, k⟩
      · have k := k.2 c13
        refine aw_aload_n (i := 0) rfl d_X8_peek_49 0 rfl ?_
        refine aw_getr (k0 := 0) kc_8 (ws_11 w) (Nat.le_of_ble_eq_true rfl) tw_59 d_X8_peek_50 rfl (wr_11_0 w) ?_
        refine aw_aload_n (i := 0) rfl d_X8_peek_53 0 rfl ?_
        refine aw_geti (k0 := 2) kc_8 (ws_11 w) (Nat.le_of_ble_eq_true rfl) tw_62 d_X8_peek_54 rfl ?_
        obtain ⟨b14, k⟩ := k
        refine aw_iald (ws_31 w) b14 d_X8_peek_57 ?_
        refine aw_goto (tgt := 62) d_X8_peek_58 rfl ?_
        exact aw_iret rfl d_X8_peek_62 ⟨Nat.le_refl _, Nat.le_refl _⟩ ⟨_, rfl, k⟩
    · have k := k.2 c12
      refine aw_aload_n (i := 0) rfl d_X8_peek_25 0 rfl ?_
      refine aw_dup d_X8_peek_26 rfl ?_
      refine aw_geti (k0 := 2) kc_8 (ws_11 w) (Nat.le_of_ble_eq_true rfl) tw_62 d_X8_peek_27 rfl ?_
      refine aw_iconst (v := 1) d_X8_peek_30 ic_1 ?_
      refine aw_iadd d_X8_peek_31 ?_
      refine aw_puti (k0 := 2) kc_8 (ws_11 w) (Nat.le_of_ble_eq_true rfl) tw_62 d_X8_peek_32 rfl rfl nf_i ?_
      refine aw_goto (tgt := 0) d_X8_peek_35 rfl ?_
      exact k
theorem t_X8_fail (d : Nat) (h : Hp_) (w : Wf h)  (K : Int32 → Hp_ → Prop) (k : K 0 (h_im h 11 3 (h_i h 11 2))) : Ci (m_X8_fail (d + 0) 0 0) [.ref 11] h K := by
  refine Ct.of (fun _ _ _ => trivial) pn_X8 (Nat.le_of_ble_eq_true rfl) ?_
  show AW (m_X8_fail (d + 0) 0 0) 0 0 0 [(0, .ref 11)] [] h (kI K)
  refine aw_aload_n (i := 0) rfl d_X8_fail_0 0 rfl ?_
  refine aw_aload_n (i := 0) rfl d_X8_fail_1 0 rfl ?_
  refine aw_geti (k0 := 2) kc_8 (ws_11 w) (Nat.le_of_ble_eq_true rfl) tw_62 d_X8_fail_2 rfl ?_
  refine aw_puti (k0 := 3) kc_8 (ws_11 w) (Nat.le_of_ble_eq_true rfl) tw_63 d_X8_fail_5 rfl rfl nf_i ?_
  refine aw_iconst (v := 0) d_X8_fail_8 ic_0 ?_
  exact aw_zret rfl rfl d_X8_fail_9 ⟨Nat.le_refl _, Nat.le_refl _⟩ ⟨_, rfl, k⟩
theorem t_X8_expect (d : Nat) (h : Hp_) (w : Wf h) (x1 : Int32) (K : Int32 → Hp_ → Prop) (k : Ci (m_X8_peek (d + 0) 0 0) [.ref 11] h (fun r3 h1 => Wf h1 ∧ ((r3 = x1 → K 1 (h_im h1 11 2 ((h_i h1 11 2) + 1))) ∧ (¬ r3 = x1 → Ci (m_X8_fail (d + 0) 0 0) [.ref 11] h1 (fun r7 h5 => Wf h5 ∧ ((r7 = 0 ∨ r7 = 1) ∧ (K r7 h5))))))) : Ci (m_X8_expect (d + 1) 0 0) [.ref 11, .int x1] h K := by
  refine Ct.of (fun _ _ _ => trivial) pn_X8 (Nat.le_of_ble_eq_true rfl) ?_
  show AW (m_X8_expect (d + 1) 0 0) 0 0 0 [(0, .ref 11), (1, .int x1)] [] h (kI K)
  refine aw_aload_n (i := 0) rfl d_X8_expect_0 0 rfl ?_
  refine aw_Vi 11 [] [] d_X8_expect_1 (cV_X8_peek (d + 0) 0 0) kc_8 (ws_11 w) tw_685 rfl (rr0 (Nat.le_of_ble_eq_true rfl) (Nat.le_of_ble_eq_true rfl)) (Nat.le_of_ble_eq_true rfl) xs0 k (fun r3 h1 kk => ?_)
  obtain ⟨w2, k⟩ := kk
  refine aw_iload_n (i := 1) rfl d_X8_expect_4 1 rfl ?_
  refine aw_icmp_eq (tgt := 13) d_X8_expect_5 rfl (fun c4 => ?_) (fun c4 => ?_)
  · have k := k.1 c4
    refine aw_aload_n (i := 0) rfl d_X8_expect_13 0 rfl ?_
    refine aw_dup d_X8_expect_14 rfl ?_
    refine aw_geti (k0 := 2) kc_8 (ws_11 w2) (Nat.le_of_ble_eq_true rfl) tw_62 d_X8_expect_15 rfl ?_
    refine aw_iconst (v := 1) d_X8_expect_18 ic_1 ?_
    refine aw_iadd d_X8_expect_19 ?_
    refine aw_puti (k0 := 2) kc_8 (ws_11 w2) (Nat.le_of_ble_eq_true rfl) tw_62 d_X8_expect_20 rfl rfl nf_i ?_
    refine aw_iconst (v := 1) d_X8_expect_23 ic_1 ?_
    exact aw_zret rfl rfl d_X8_expect_24 ⟨Nat.le_refl _, Nat.le_refl _⟩ ⟨_, rfl, k⟩
  · have k := k.2 c4
    refine aw_aload_n (i := 0) rfl d_X8_expect_8 0 rfl ?_
    refine aw_Vi 11 [] [] d_X8_expect_9 (cV_X8_fail (d + 0) 0 0) kc_8 (ws_11 w2) tw_715 rfl (rr0 (Nat.le_of_ble_eq_true rfl) (Nat.le_of_ble_eq_true rfl)) (Nat.le_of_ble_eq_true rfl) xs0 k (fun r7 h5 kk => ?_)
    obtain ⟨w6, k⟩ := kk
    obtain ⟨z8, k⟩ := k
    exact aw_zret rfl (nf_z z8).1 d_X8_expect_12 ⟨Nat.le_refl _, Nat.le_refl _⟩ ⟨_, rfl, k⟩
theorem t_X8_isDigit (d : Nat) (h : Hp_) (x0 : Int32) (K : Int32 → Hp_ → Prop) (k : (x0 < 48 → K 0 h) ∧ (¬ x0 < 48 → (57 < x0 → K 0 h) ∧ (¬ 57 < x0 → K 1 h))) : Ci (m_X8_isDigit (d + 0) 0 0) [.int x0] h K := by
  refine Ct.of (fun _ _ _ => trivial) pn_X8 (Nat.le_of_ble_eq_true rfl) ?_
  show AW (m_X8_isDigit (d + 0) 0 0) 0 0 0 [(0, .int x0)] [] h (kI K)
  refine aw_iload_n (i := 0) rfl d_X8_isDigit_0 0 rfl ?_
  refine aw_bipush (v := 48) d_X8_isDigit_1 ib_48 ?_
  refine aw_icmp_lt (tgt := 16) d_X8_isDigit_3 rfl (fun c1 => ?_) (fun c1 => ?_)
  · have k := k.1 c1
    refine aw_iconst (v := 0) d_X8_isDigit_16 ic_0 ?_
    exact aw_zret rfl rfl d_X8_isDigit_17 ⟨Nat.le_refl _, Nat.le_refl _⟩ ⟨_, rfl, k⟩
  · have k := k.2 c1
    refine aw_iload_n (i := 0) rfl d_X8_isDigit_6 0 rfl ?_
    refine aw_bipush (v := 57) d_X8_isDigit_7 ib_57 ?_
    refine aw_icmp_gt (tgt := 16) d_X8_isDigit_9 rfl (fun c2 => ?_) (fun c2 => ?_)
    · have k := k.1 c2
      refine aw_iconst (v := 0) d_X8_isDigit_16 ic_0 ?_
      exact aw_zret rfl rfl d_X8_isDigit_17 ⟨Nat.le_refl _, Nat.le_refl _⟩ ⟨_, rfl, k⟩
    · have k := k.2 c2
      refine aw_iconst (v := 1) d_X8_isDigit_12 ic_1 ?_
      refine aw_goto (tgt := 17) d_X8_isDigit_13 rfl ?_
      exact aw_zret rfl rfl d_X8_isDigit_17 ⟨Nat.le_refl _, Nat.le_refl _⟩ ⟨_, rfl, k⟩
theorem t_X8_isComparison (d : Nat) (h : Hp_) (x0 : Int32) (K : Int32 → Hp_ → Prop) (k : (x0 = 61 → K 1 h) ∧ (¬ x0 = 61 → (x0 = 60 → K 1 h) ∧ (¬ x0 = 60 → (¬ x0 = 62 → K 0 h) ∧ (x0 = 62 → K 1 h)))) : Ci (m_X8_isComparison (d + 0) 0 0) [.int x0] h K := by
  refine Ct.of (fun _ _ _ => trivial) pn_X8 (Nat.le_of_ble_eq_true rfl) ?_
  show AW (m_X8_isComparison (d + 0) 0 0) 0 0 0 [(0, .int x0)] [] h (kI K)
  refine aw_iload_n (i := 0) rfl d_X8_isComparison_0 0 rfl ?_
  refine aw_bipush (v := 61) d_X8_isComparison_1 ib_61 ?_
  refine aw_icmp_eq (tgt := 18) d_X8_isComparison_3 rfl (fun c1 => ?_) (fun c1 => ?_)
  · have k := k.1 c1
    refine aw_iconst (v := 1) d_X8_isComparison_18 ic_1 ?_
    refine aw_goto (tgt := 23) d_X8_isComparison_19 rfl ?_
    exact aw_zret rfl rfl d_X8_isComparison_23 ⟨Nat.le_refl _, Nat.le_refl _⟩ ⟨_, rfl, k⟩
  · have k := k.2 c1
    refine aw_iload_n (i := 0) rfl d_X8_isComparison_6 0 rfl ?_
    refine aw_bipush (v := 60) d_X8_isComparison_7 ib_60 ?_
    refine aw_icmp_eq (tgt := 18) d_X8_isComparison_9 rfl (fun c2 => ?_) (fun c2 => ?_)
    · have k := k.1 c2
      refine aw_iconst (v := 1) d_X8_isComparison_18 ic_1 ?_
      refine aw_goto (tgt := 23) d_X8_isComparison_19 rfl ?_
      exact aw_zret rfl rfl d_X8_isComparison_23 ⟨Nat.le_refl _, Nat.le_refl _⟩ ⟨_, rfl, k⟩
    · have k := k.2 c2
      refine aw_iload_n (i := 0) rfl d_X8_isComparison_12 0 rfl ?_
      refine aw_bipush (v := 62) d_X8_isComparison_13 ib_62 ?_
      refine aw_icmp_ne (tgt := 22) d_X8_isComparison_15 rfl (fun c3 => ?_) (fun c3 => ?_)
      · have k := k.1 c3
        refine aw_iconst (v := 0) d_X8_isComparison_22 ic_0 ?_
        exact aw_zret rfl rfl d_X8_isComparison_23 ⟨Nat.le_refl _, Nat.le_refl _⟩ ⟨_, rfl, k⟩
      · have k := k.2 c3
        refine aw_iconst (v := 1) d_X8_isComparison_18 ic_1 ?_
        refine aw_goto (tgt := 23) d_X8_isComparison_19 rfl ?_
        exact aw_zret rfl rfl d_X8_isComparison_23 ⟨Nat.le_refl _, Nat.le_refl _⟩ ⟨_, rfl, k⟩
theorem t_X8_readNumber (d : Nat) (h : Hp_) (w : Wf h) (x1 : Int32) (x2 : Int32) (K : Int32 → Hp_ → Prop) (k : Ci (m_X8_peek (d + 0) 0 0) [.ref 11] h (fun r3 h1 => Wf h1 ∧ (Ci (m_X8_isDigit (d + 0) 0 0) [.int r3] h1 (fun r6 h4 => Wf h4 ∧ (AW (m_X8_readNumber (d + 1) 0 0) 0 0 14 [(0, .ref 11), (1, .int x1), (2, .int x2), (3, .int 0), (4, .int 0), (5, .int r6)] [] h4 (kI K)))))) : Ci (m_X8_readNumber (d + 1) 0 0) [.ref 11, .int x1, .int x2] h K := by
  refine Ct.of (fun _ _ _ => trivial) pn_X8 (Nat.le_of_ble_eq_true rfl) ?_
  show AW (m_X8_readNumber (d + 1) 0 0) 0 0 0 [(0, .ref 11), (1, .int x1), (2, .int x2)] [] h (kI K)
  refine aw_iconst (v := 0) d_X8_readNumber_0 ic_0 ?_
  refine aw_istore_n (i := 3) rfl [(0, .ref 11), (1, .int x1), (2, .int x2), (3, .int 0)] d_X8_readNumber_1 (Nat.le_of_ble_eq_true rfl) rfl rfl ?_
  refine aw_iconst (v := 0) d_X8_readNumber_2 ic_0 ?_
  refine aw_istore [(0, .ref 11), (1, .int x1), (2, .int x2), (3, .int 0), (4, .int 0)] d_X8_readNumber_3 (Nat.le_of_ble_eq_true rfl) rfl rfl ?_
  refine aw_aload_n (i := 0) rfl d_X8_readNumber_5 0 rfl ?_
  refine aw_Vi 11 [] [] d_X8_readNumber_6 (cV_X8_peek (d + 0) 0 0) kc_8 (ws_11 w) tw_685 rfl (rr0 (Nat.le_of_ble_eq_true rfl) (Nat.le_of_ble_eq_true rfl)) (Nat.le_of_ble_eq_true rfl) xs0 k (fun r3 h1 kk => ?_)
  obtain ⟨w2, k⟩ := kk
  refine aw_Si [.int r3] [] d_X8_readNumber_9 (cS_X8_isDigit (d + 0) 0 0) tw_693 rfl (rr0 (Nat.le_of_ble_eq_true rfl) (Nat.le_of_ble_eq_true rfl)) (Nat.le_of_ble_eq_true rfl) xs0 k (fun r6 h4 kk => ?_)
  obtain ⟨w5, k⟩ := kk
  refine aw_istore [(0, .ref 11), (1, .int x1), (2, .int x2), (3, .int 0), (4, .int 0), (5, .int r6)] d_X8_readNumber_12 (Nat.le_of_ble_eq_true rfl) rfl rfl ?_
  exact k
theorem t_X8_readNumber_14 (d : Nat) (h : Hp_) (w : Wf h) (x1 : Int32) (x2 : Int32) (x3 : Int32) (x4 : Int32) (x5 : Int32) (K : Int32 → Hp_ → Prop) (k : (x5 = 0 → (¬ x5 = 0 → ((x1 ≤ x3 ∧ x3 ≤ x2) → K x3 h) ∧ (¬ (x1 ≤ x3 ∧ x3 ≤ x2) → K (-1) (h_im h 11 3 ((h_i h 11 2) - 1)))) ∧ (x5 = 0 → K (-1) (h_im h 11 3 (h_i h 11 2)))) ∧ (¬ x5 = 0 → ((h_i h 11 1) ≤ (h_i h 11 2) → (¬ x5 = 0 → ((x1 ≤ x3 ∧ x3 ≤ x2) → K x3 h) ∧ (¬ (x1 ≤ x3 ∧ x3 ≤ x2) → K (-1) (h_im h 11 3 ((h_i h 11 2) - 1)))) ∧ (x5 = 0 → K (-1) (h_im h 11 3 (h_i h 11 2)))) ∧ (¬ (h_i h 11 1) ≤ (h_i h 11 2) → vp_in (h_i h 11 2) 160 ∧ (Ci (m_X8_isDigit (d + 0) 0 0) [.int (h_i h 31 ((h_i h 11 2) : Int32).toNatClampNeg)] h (fun r20 h18 => Wf h18 ∧ ((r20 = 0 → (¬ x5 = 0 → ((x1 ≤ x3 ∧ x3 ≤ x2) → K x3 h18) ∧ (¬ (x1 ≤ x3 ∧ x3 ≤ x2) → K (-1) (h_im h18 11 3 ((h_i h18 11 2) - 1)))) ∧ (x5 = 0 → K (-1) (h_im h18 11 3 (h_i h18 11 2)))) ∧ (¬ r20 = 0 → (¬ x4 = 4 → vp_in (h_i h18 11 2) 160 ∧ (AW (m_X8_readNumber (d + 1) 0 0) 0 0 14 [(0, .ref 11), (1, .int x1), (2, .int x2), (3, .int (((x3 * 10) + (h_i h18 31 ((h_i h18 11 2) : Int32).toNatClampNeg)) - 48)), (4, .int (x4 + 1)), (5, .int x5)] [] (h_im h18 11 2 ((h_i h18 11 2) + 1)) (kI K))) ∧ (x4 = 4 → K (-1) (h_im h18 11 3 (h_i h18 11 2)))))))))) : AW (m_X8_readNumber (d + 1) 0 0) 0 0 14 [(0, .ref 11), (1, .int x1), (2, .int x2), (3, .int x3), (4, .int x4), (5, .int x5)] [] h (kI K) := by
  refine aw_iload d_X8_readNumber_14 5 rfl ?_
  refine aw_if_eq (tgt := 95) d_X8_readNumber_16 rfl (fun c7 => ?_) (fun c7 => ?_)
  · have k := k.1 c7
    refine aw_iload d_X8_readNumber_95 5 rfl ?_
    refine aw_if_ne (tgt := 110) d_X8_readNumber_97 rfl (fun c8 => ?_) (fun c8 => ?_)
    · have k := k.1 c8
      refine aw_iload_n (i := 3) rfl d_X8_readNumber_110 3 rfl ?_
      refine aw_iload_n (i := 1) rfl d_X8_readNumber_111 1 rfl ?_
      refine aw_iload_n (i := 2) rfl d_X8_readNumber_112 2 rfl ?_
      refine aw_SNi [.int x3, .int x1, .int x2] [] d_X8_readNumber_113 (cS_X11_within (d + 0) 0 0) (List.mem_of_getElem? (i := 8) rfl) rfl (rr0 (Nat.le_of_ble_eq_true rfl) (Nat.le_of_ble_eq_true rfl)) (Nat.le_of_ble_eq_true rfl) xs0 (s_X11_within _ _ x3 x1 x2) (fun _ _ kk => ?_)
      obtain ⟨e9, e10⟩ := kk
      rw [e9, e10]
      refine aw_ifb_ne (tgt := 131) d_X8_readNumber_116 rfl (fun c11 => ?_) (fun c11 => ?_)
      · have k := k.1 c11
        refine aw_iload_n (i := 3) rfl d_X8_readNumber_131 3 rfl ?_
        exact aw_iret rfl d_X8_readNumber_132 ⟨Nat.le_refl _, Nat.le_refl _⟩ ⟨_, rfl, k⟩
      · have k := k.2 c11
        refine aw_aload_n (i := 0) rfl d_X8_readNumber_119 0 rfl ?_
        refine aw_aload_n (i := 0) rfl d_X8_readNumber_120 0 rfl ?_
        refine aw_geti (k0 := 2) kc_8 (ws_11 w) (Nat.le_of_ble_eq_true rfl) tw_62 d_X8_readNumber_121 rfl ?_
        refine aw_iconst (v := 1) d_X8_readNumber_124 ic_1 ?_
        refine aw_isub d_X8_readNumber_125 ?_
        refine aw_puti (k0 := 3) kc_8 (ws_11 w) (Nat.le_of_ble_eq_true rfl) tw_63 d_X8_readNumber_126 rfl rfl nf_i ?_
        refine aw_iconst (v := (-1)) d_X8_readNumber_129 ic_m1 ?_
        exact aw_iret rfl d_X8_readNumber_130 ⟨Nat.le_refl _, Nat.le_refl _⟩ ⟨_, rfl, k⟩
    · have k := k.2 c8
      refine aw_aload_n (i := 0) rfl d_X8_readNumber_100 0 rfl ?_
      refine aw_aload_n (i := 0) rfl d_X8_readNumber_101 0 rfl ?_
      refine aw_geti (k0 := 2) kc_8 (ws_11 w) (Nat.le_of_ble_eq_true rfl) tw_62 d_X8_readNumber_102 rfl ?_
      refine aw_puti (k0 := 3) kc_8 (ws_11 w) (Nat.le_of_ble_eq_true rfl) tw_63 d_X8_readNumber_105 rfl rfl nf_i ?_
      refine aw_iconst (v := (-1)) d_X8_readNumber_108 ic_m1 ?_
      exact aw_iret rfl d_X8_readNumber_109 ⟨Nat.le_refl _, Nat.le_refl _⟩ ⟨_, rfl, k⟩
  · have k := k.2 c7
    refine aw_aload_n (i := 0) rfl d_X8_readNumber_19 0 rfl ?_
    refine aw_geti (k0 := 2) kc_8 (ws_11 w) (Nat.le_of_ble_eq_true rfl) tw_62 d_X8_readNumber_20 rfl ?_
    refine aw_aload_n (i := 0) rfl d_X8_readNumber_23 0 rfl ?_
    refine aw_geti (k0 := 1) kc_8 (ws_11 w) (Nat.le_of_ble_eq_true rfl) tw_60 d_X8_readNumber_24 rfl ?_
    refine aw_icmp_ge (tgt := 95) d_X8_readNumber_27 rfl (fun c12 => ?_) (fun c12 => ?_)
    · have k := k.1 c12
      refine aw_iload d_X8_readNumber_95 5 rfl ?_
      refine aw_if_ne (tgt := 110) d_X8_readNumber_97 rfl (fun c13 => ?_) (fun c13 => ?_)
      · have k := k.1 c13
        refine aw_iload_n (i := 3) rfl d_X8_readNumber_110 3 rfl ?_
        refine aw_iload_n (i := 1) rfl d_X8_readNumber_111 1 rfl ?_
        refine aw_iload_n (i := 2) rfl d_X8_readNumber_112 2 rfl ?_
        refine aw_SNi [.int x3, .int x1, .int x2] [] d_X8_readNumber_113 (cS_X11_within (d + 0) 0 0) (List.mem_of_getElem? (i := 8) rfl) rfl (rr0 (Nat.le_of_ble_eq_true rfl) (Nat.le_of_ble_eq_true rfl)) (Nat.le_of_ble_eq_true rfl) xs0 (s_X11_within _ _ x3 x1 x2) (fun _ _ kk => ?_)
        obtain ⟨e14, e15⟩ := kk
        rw [e14, e15]
        refine aw_ifb_ne (tgt := 131) d_X8_readNumber_116 rfl (fun c16 => ?_) (fun c16 => ?_)
        · have k := k.1 c16
          refine aw_iload_n (i := 3) rfl d_X8_readNumber_131 3 rfl ?_
          exact aw_iret rfl d_X8_readNumber_132 ⟨Nat.le_refl _, Nat.le_refl _⟩ ⟨_, rfl, k⟩
        · have k := k.2 c16
          refine aw_aload_n (i := 0) rfl d_X8_readNumber_119 0 rfl ?_
          refine aw_aload_n (i := 0) rfl d_X8_readNumber_120 0 rfl ?_
          refine aw_geti (k0 := 2) kc_8 (ws_11 w) (Nat.le_of_ble_eq_true rfl) tw_62 d_X8_readNumber_121 rfl ?_
          refine aw_iconst (v := 1) d_X8_readNumber_124 ic_1 ?_
          refine aw_isub d_X8_readNumber_125 ?_
          refine aw_puti (k0 := 3) kc_8 (ws_11 w) (Nat.le_of_ble_eq_true rfl) tw_63 d_X8_readNumber_126 rfl rfl nf_i ?_
          refine aw_iconst (v := (-1)) d_X8_readNumber_129 ic_m1 ?_
          exact aw_iret rfl d_X8_readNumber_130 ⟨Nat.le_refl _, Nat.le_refl _⟩ ⟨_, rfl, k⟩
      · have k := k.2 c13
        refine aw_aload_n (i := 0) rfl d_X8_readNumber_100 0 rfl ?_
        refine aw_aload_n (i := 0) rfl d_X8_readNumber_101 0 rfl ?_
        refine aw_geti (k0 := 2) kc_8 (ws_11 w) (Nat.le_of_ble_eq_true rfl) tw_62 d_X8_readNumber_102 rfl ?_
        refine aw_puti (k0 := 3) kc_8 (ws_11 w) (Nat.le_of_ble_eq_true rfl) tw_63 d_X8_readNumber_105 rfl rfl nf_i ?_
        refine aw_iconst (v := (-1)) d_X8_readNumber_108 ic_m1 ?_
        exact aw_iret rfl d_X8_readNumber_109 ⟨Nat.le_refl _, Nat.le_refl _⟩ ⟨_, rfl, k⟩
    · have k := k.2 c12
      refine aw_aload_n (i := 0) rfl d_X8_readNumber_30 0 rfl ?_
      refine aw_getr (k0 := 0) kc_8 (ws_11 w) (Nat.le_of_ble_eq_true rfl) tw_59 d_X8_readNumber_31 rfl (wr_11_0 w) ?_
      refine aw_aload_n (i := 0) rfl d_X8_readNumber_34 0 rfl ?_
      refine aw_geti (k0 := 2) kc_8 (ws_11 w) (Nat.le_of_ble_eq_true rfl) tw_62 d_X8_readNumber_35 rfl ?_
      obtain ⟨b17, k⟩ := k
      refine aw_iald (ws_31 w) b17 d_X8_readNumber_38 ?_
      refine aw_Si [.int (h_i h 31 ((h_i h 11 2) : Int32).toNatClampNeg)] [] d_X8_readNumber_39 (cS_X8_isDigit (d + 0) 0 0) tw_693 rfl (rr0 (Nat.le_of_ble_eq_true rfl) (Nat.le_of_ble_eq_true rfl)) (Nat.le_of_ble_eq_true rfl) xs0 k (fun r20 h18 kk => ?_)
      obtain ⟨w19, k⟩ := kk
      refine aw_if_eq (tgt := 95) d_X8_readNumber_42 rfl (fun c21 => ?_) (fun c21 => ?_)
      · have k := k.1 c21
        refine aw_iload d_X8_readNumber_95 5 rfl ?_
        refine aw_if_ne (tgt := 110) d_X8_readNumber_97 rfl (fun c22 => ?_) (fun c22 => ?_)
        · have k := k.1 c22
          refine aw_iload_n (i := 3) rfl d_X8_readNumber_110 3 rfl ?_
          refine aw_iload_n (i := 1) rfl d_X8_readNumber_111 1 rfl ?_
          refine aw_iload_n (i := 2) rfl d_X8_readNumber_112 2 rfl ?_
          refine aw_SNi [.int x3, .int x1, .int x2] [] d_X8_readNumber_113 (cS_X11_within (d + 0) 0 0) (List.mem_of_getElem? (i := 8) rfl) rfl (rr0 (Nat.le_of_ble_eq_true rfl) (Nat.le_of_ble_eq_true rfl)) (Nat.le_of_ble_eq_true rfl) xs0 (s_X11_within _ _ x3 x1 x2) (fun _ _ kk => ?_)
          obtain ⟨e23, e24⟩ := kk
          rw [e23, e24]
          refine aw_ifb_ne (tgt := 131) d_X8_readNumber_116 rfl (fun c25 => ?_) (fun c25 => ?_)
          · have k := k.1 c25
            refine aw_iload_n (i := 3) rfl d_X8_readNumber_131 3 rfl ?_
            exact aw_iret rfl d_X8_readNumber_132 ⟨Nat.le_refl _, Nat.le_refl _⟩ ⟨_, rfl, k⟩
          · have k := k.2 c25
            refine aw_aload_n (i := 0) rfl d_X8_readNumber_119 0 rfl ?_
            refine aw_aload_n (i := 0) rfl d_X8_readNumber_120 0 rfl ?_
            refine aw_geti (k0 := 2) kc_8 (ws_11 w19) (Nat.le_of_ble_eq_true rfl) tw_62 d_X8_readNumber_121 rfl ?_
            refine aw_iconst (v := 1) d_X8_readNumber_124 ic_1 ?_
            refine aw_isub d_X8_readNumber_125 ?_
            refine aw_puti (k0 := 3) kc_8 (ws_11 w19) (Nat.le_of_ble_eq_true rfl) tw_63 d_X8_readNumber_126 rfl rfl nf_i ?_
            refine aw_iconst (v := (-1)) d_X8_readNumber_129 ic_m1 ?_
            exact aw_iret rfl d_X8_readNumber_130 ⟨Nat.le_refl _, Nat.le_refl _⟩ ⟨_, rfl, k⟩
        · have k := k.2 c22
          refine aw_aload_n (i := 0) rfl d_X8_readNumber_100 0 rfl ?_
          refine aw_aload_n (i := 0) rfl d_X8_readNumber_101 0 rfl ?_
          refine aw_geti (k0 := 2) kc_8 (ws_11 w19) (Nat.le_of_ble_eq_true rfl) tw_62 d_X8_readNumber_102 rfl ?_
          refine aw_puti (k0 := 3) kc_8 (ws_11 w19) (Nat.le_of_ble_eq_true rfl) tw_63 d_X8_readNumber_105 rfl rfl nf_i ?_
          refine aw_iconst (v := (-1)) d_X8_readNumber_108 ic_m1 ?_
          exact aw_iret rfl d_X8_readNumber_109 ⟨Nat.le_refl _, Nat.le_refl _⟩ ⟨_, rfl, k⟩
      · have k := k.2 c21
        refine aw_iload d_X8_readNumber_45 4 rfl ?_
        refine aw_iconst (v := 4) d_X8_readNumber_47 ic_4 ?_
        refine aw_icmp_ne (tgt := 61) d_X8_readNumber_48 rfl (fun c26 => ?_) (fun c26 => ?_)
        · have k := k.1 c26
          refine aw_iload_n (i := 3) rfl d_X8_readNumber_61 3 rfl ?_
          refine aw_bipush (v := 10) d_X8_readNumber_62 ib_10 ?_
          refine aw_imul d_X8_readNumber_64 ?_
          refine aw_aload_n (i := 0) rfl d_X8_readNumber_65 0 rfl ?_
          refine aw_getr (k0 := 0) kc_8 (ws_11 w19) (Nat.le_of_ble_eq_true rfl) tw_59 d_X8_readNumber_66 rfl (wr_11_0 w19) ?_
          refine aw_aload_n (i := 0) rfl d_X8_readNumber_69 0 rfl ?_
          refine aw_geti (k0 := 2) kc_8 (ws_11 w19) (Nat.le_of_ble_eq_true rfl) tw_62 d_X8_readNumber_70 rfl ?_
          obtain ⟨b27, k⟩ := k
          refine aw_iald (ws_31 w19) b27 d_X8_readNumber_73 ?_
          refine aw_iadd d_X8_readNumber_74 ?_
          refine aw_bipush (v := 48) d_X8_readNumber_75 ib_48 ?_
          refine aw_isub d_X8_readNumber_77 ?_
          refine aw_istore_n (i := 3) rfl [(0, .ref 11), (1, .int x1), (2, .int x2), (3, .int (((x3 * 10) + (h_i h18 31 ((h_i h18 11 2) : Int32).toNatClampNeg)) - 48)), (4, .int x4), (5, .int x5)] d_X8_readNumber_78 (Nat.le_of_ble_eq_true rfl) rfl rfl ?_
          refine aw_iinc (v := (x4 + 1)) [(0, .ref 11), (1, .int x1), (2, .int x2), (3, .int (((x3 * 10) + (h_i h18 31 ((h_i h18 11 2) : Int32).toNatClampNeg)) - 48)), (4, .int (x4 + 1)), (5, .int x5)] d_X8_readNumber_79 4 rfl rfl (Nat.le_of_ble_eq_true rfl) rfl rfl ?_
          refine aw_aload_n (i := 0) rfl d_X8_readNumber_82 0 rfl ?_
          refine aw_dup d_X8_readNumber_83 rfl ?_
          refine aw_geti (k0 := 2) kc_8 (ws_11 w19) (Nat.le_of_ble_eq_true rfl) tw_62 d_X8_readNumber_84 rfl ?_
          refine aw_iconst (v := 1) d_X8_readNumber_87 ic_1 ?_
          refine aw_iadd d_X8_readNumber_88 ?_
          refine aw_puti (k0 := 2) kc_8 (ws_11 w19) (Nat.le_of_ble_eq_true rfl) tw_62 d_X8_readNumber_89 rfl rfl nf_i ?_
          refine aw_goto (tgt := 14) d_X8_readNumber_92 rfl ?_
          exact k
        · have k := k.2 c26
          refine aw_aload_n (i := 0) rfl d_X8_readNumber_51 0 rfl ?_
          refine aw_aload_n (i := 0) rfl d_X8_readNumber_52 0 rfl ?_
          refine aw_geti (k0 := 2) kc_8 (ws_11 w19) (Nat.le_of_ble_eq_true rfl) tw_62 d_X8_readNumber_53 rfl ?_
          refine aw_puti (k0 := 3) kc_8 (ws_11 w19) (Nat.le_of_ble_eq_true rfl) tw_63 d_X8_readNumber_56 rfl rfl nf_i ?_
          refine aw_iconst (v := (-1)) d_X8_readNumber_59 ic_m1 ?_
          exact aw_iret rfl d_X8_readNumber_60 ⟨Nat.le_refl _, Nat.le_refl _⟩ ⟨_, rfl, k⟩
theorem t_X8_readAtom (d : Nat) (h : Hp_) (w : Wf h) (x1 : Int32) (K : Int32 → Hp_ → Prop) (k : Ci (m_X8_peek (d + 0) 0 0) [.ref 11] h (fun r3 h1 => Wf h1 ∧ (Ci (m_X8_isDigit (d + 0) 0 0) [.int r3] h1 (fun r6 h4 => Wf h4 ∧ ((r6 = 0 → (¬ r3 = 91 → (¬ r3 = (-1) → ∃ i10 : Nat, i10 < 4 ∧ h_r h4 11 4 = some (1000 + i10) ∧ (Ci (m_J0_indexOf_0f7a4 (d + 3) 0 0) [.ref (1000 + i10), .int (((r3 : Int32).toUInt32 % 65536).toInt32)] h4 (fun r15 h13 => Wf h13 ∧ ((0 ≤ r15 → Ci (m_X8_emit (d + 1) 0 0) [.ref 11, .int 1, .int r15] (h_im h13 11 2 ((h_i h13 11 2) + 1)) (fun r19 h17 => Wf h17 ∧ (K 1 h17))) ∧ (¬ 0 ≤ r15 → Ci (m_X8_fail (d + 0) 0 0) [.ref 11] h13 (fun r22 h20 => Wf h20 ∧ ((r22 = 0 ∨ r22 = 1) ∧ (K r22 h20)))))))) ∧ (r3 = (-1) → Ci (m_X8_fail (d + 0) 0 0) [.ref 11] h4 (fun r27 h25 => Wf h25 ∧ ((r27 = 0 ∨ r27 = 1) ∧ (K r27 h25))))) ∧ (r3 = 91 → (x1 < 6 → Ci (m_X8_readSum (d + 53) 0 0) [.ref 11, .int (x1 + 1)] (h_im h4 11 2 ((h_i h4 11 2) + 1)) (fun r32 h30 => Wf h30 ∧ ((r32 = 0 → K 0 h30) ∧ (¬ r32 = 0 → Ci (m_X8_expect (d + 1) 0 0) [.ref 11, .int 93] h30 (fun r36 h34 => Wf h34 ∧ ((r36 = 0 → K 0 h34) ∧ (¬ r36 = 0 → K 1 h34))))))) ∧ (¬ x1 < 6 → Ci (m_X8_fail (d + 0) 0 0) [.ref 11] h4 (fun r40 h38 => Wf h38 ∧ ((r40 = 0 ∨ r40 = 1) ∧ (K r40 h38)))))) ∧ (¬ r6 = 0 → Ci (m_X8_readNumber (d + 1) 0 0) [.ref 11, .int 0, .int 9999] h4 (fun r44 h42 => Wf h42 ∧ (Ci (m_X8_emit (d + 1) 0 0) [.ref 11, .int 0, .int r44] h42 (fun r47 h45 => Wf h45 ∧ ((r44 = (-1) → K 0 h45) ∧ (¬ r44 = (-1) → K 1 h45))))))))))) : Ci (m_X8_readAtom (d + 61) 0 0) [.ref 11, .int x1] h K := by
  refine Ct.of (fun _ _ _ => trivial) pn_X8 (Nat.le_of_ble_eq_true rfl) ?_
  show AW (m_X8_readAtom (d + 61) 0 0) 0 0 0 [(0, .ref 11), (1, .int x1)] [] h (kI K)
  refine aw_aload_n (i := 0) rfl d_X8_readAtom_0 0 rfl ?_
  refine aw_Vi 11 [] [] d_X8_readAtom_1 (cV_X8_peek (d + 0) 0 0) kc_8 (ws_11 w) tw_685 rfl (rr0 (Nat.le_of_ble_eq_true rfl) (Nat.le_of_ble_eq_true rfl)) (Nat.le_of_ble_eq_true rfl) xs0 k (fun r3 h1 kk => ?_)
  obtain ⟨w2, k⟩ := kk
  refine aw_istore_n (i := 2) rfl [(0, .ref 11), (1, .int x1), (2, .int r3)] d_X8_readAtom_4 (Nat.le_of_ble_eq_true rfl) rfl rfl ?_
  refine aw_iload_n (i := 2) rfl d_X8_readAtom_5 2 rfl ?_
  refine aw_Si [.int r3] [] d_X8_readAtom_6 (cS_X8_isDigit (d + 0) 0 0) tw_693 rfl (rr0 (Nat.le_of_ble_eq_true rfl) (Nat.le_of_ble_eq_true rfl)) (Nat.le_of_ble_eq_true rfl) xs0 k (fun r6 h4 kk => ?_)
  obtain ⟨w5, k⟩ := kk
  refine aw_if_eq (tgt := 39) d_X8_readAtom_9 rfl (fun c7 => ?_) (fun c7 => ?_)
  · have k := k.1 c7
    refine aw_iload_n (i := 2) rfl d_X8_readAtom_39 2 rfl ?_
    refine aw_bipush (v := 91) d_X8_readAtom_40 ib_91 ?_
    refine aw_icmp_ne (tgt := 91) d_X8_readAtom_42 rfl (fun c8 => ?_) (fun c8 => ?_)
    · have k := k.1 c8
      refine aw_iload_n (i := 2) rfl d_X8_readAtom_91 2 rfl ?_
      refine aw_iconst (v := (-1)) d_X8_readAtom_92 ic_m1 ?_
      refine aw_icmp_ne (tgt := 100) d_X8_readAtom_93 rfl (fun c9 => ?_) (fun c9 => ?_)
      · have k := k.1 c9
        refine aw_aload_n (i := 0) rfl d_X8_readAtom_100 0 rfl ?_
        obtain ⟨i10, q11, q12, k⟩ := k
        refine aw_getr (k0 := 4) kc_8 (ws_11 w5) (Nat.le_of_ble_eq_true rfl) tw_64 d_X8_readAtom_101 rfl q12 ?_
        refine aw_iload_n (i := 2) rfl d_X8_readAtom_104 2 rfl ?_
        refine aw_i2c d_X8_readAtom_105 ?_
        refine aw_Ti (i := i10) [.int (((r3 : Int32).toUInt32 % 65536).toInt32)] [] q11 d_X8_readAtom_106 rfl (cV_J0_indexOf_0f7a4 (d + 3) 0 0) tw_760 rfl (rr0 (Nat.le_of_ble_eq_true rfl) (Nat.le_of_ble_eq_true rfl)) (Nat.le_of_ble_eq_true rfl) xs0 k (fun r15 h13 kk => ?_)
        obtain ⟨w14, k⟩ := kk
        refine aw_istore_n (i := 3) rfl [(0, .ref 11), (1, .int x1), (2, .int r3), (3, .int r15)] d_X8_readAtom_109 (Nat.le_of_ble_eq_true rfl) rfl rfl ?_
        refine aw_iload_n (i := 3) rfl d_X8_readAtom_110 3 rfl ?_
        refine aw_if_ge (tgt := 119) d_X8_readAtom_111 rfl (fun c16 => ?_) (fun c16 => ?_)
        · have k := k.1 c16
          refine aw_aload_n (i := 0) rfl d_X8_readAtom_119 0 rfl ?_
          refine aw_dup d_X8_readAtom_120 rfl ?_
          refine aw_geti (k0 := 2) kc_8 (ws_11 w14) (Nat.le_of_ble_eq_true rfl) tw_62 d_X8_readAtom_121 rfl ?_
          refine aw_iconst (v := 1) d_X8_readAtom_124 ic_1 ?_
          refine aw_iadd d_X8_readAtom_125 ?_
          refine aw_puti (k0 := 2) kc_8 (ws_11 w14) (Nat.le_of_ble_eq_true rfl) tw_62 d_X8_readAtom_126 rfl rfl nf_i ?_
          refine aw_aload_n (i := 0) rfl d_X8_readAtom_129 0 rfl ?_
          refine aw_iconst (v := 1) d_X8_readAtom_130 ic_1 ?_
          refine aw_iload_n (i := 3) rfl d_X8_readAtom_131 3 rfl ?_
          refine aw_Vi 11 [.int 1, .int r15] [] d_X8_readAtom_132 (cV_X8_emit (d + 1) 0 0) kc_8 (ws_11 w14) tw_753 rfl (rr0 (Nat.le_of_ble_eq_true rfl) (Nat.le_of_ble_eq_true rfl)) (Nat.le_of_ble_eq_true rfl) xs0 k (fun r19 h17 kk => ?_)
          obtain ⟨w18, k⟩ := kk
          refine aw_pop d_X8_readAtom_135 rfl ?_
          refine aw_iconst (v := 1) d_X8_readAtom_136 ic_1 ?_
          exact aw_zret rfl rfl d_X8_readAtom_137 ⟨Nat.le_refl _, Nat.le_refl _⟩ ⟨_, rfl, k⟩
        · have k := k.2 c16
          refine aw_aload_n (i := 0) rfl d_X8_readAtom_114 0 rfl ?_
          refine aw_Vi 11 [] [] d_X8_readAtom_115 (cV_X8_fail (d + 0) 0 0) kc_8 (ws_11 w14) tw_715 rfl (rr0 (Nat.le_of_ble_eq_true rfl) (Nat.le_of_ble_eq_true rfl)) (Nat.le_of_ble_eq_true rfl) xs0 k (fun r22 h20 kk => ?_)
          obtain ⟨w21, k⟩ := kk
          obtain ⟨z23, k⟩ := k
          exact aw_zret rfl (nf_z z23).1 d_X8_readAtom_118 ⟨Nat.le_refl _, Nat.le_refl _⟩ ⟨_, rfl, k⟩
      · have k := k.2 c9
        refine aw_iconst (v := (-1)) d_X8_readAtom_96 ic_m1 ?_
        refine aw_goto (tgt := 109) d_X8_readAtom_97 rfl ?_
        refine aw_istore_n (i := 3) rfl [(0, .ref 11), (1, .int x1), (2, .int r3), (3, .int (-1))] d_X8_readAtom_109 (Nat.le_of_ble_eq_true rfl) rfl rfl ?_
        refine aw_iload_n (i := 3) rfl d_X8_readAtom_110 3 rfl ?_
        refine aw_if_ge (tgt := 119) d_X8_readAtom_111 rfl (fun c => absurd c (by decide)) (fun _ => ?_)
        refine aw_aload_n (i := 0) rfl d_X8_readAtom_114 0 rfl ?_
        refine aw_Vi 11 [] [] d_X8_readAtom_115 (cV_X8_fail (d + 0) 0 0) kc_8 (ws_11 w5) tw_715 rfl (rr0 (Nat.le_of_ble_eq_true rfl) (Nat.le_of_ble_eq_true rfl)) (Nat.le_of_ble_eq_true rfl) xs0 k (fun r27 h25 kk => ?_)
        obtain ⟨w26, k⟩ := kk
        obtain ⟨z28, k⟩ := k
        exact aw_zret rfl (nf_z z28).1 d_X8_readAtom_118 ⟨Nat.le_refl _, Nat.le_refl _⟩ ⟨_, rfl, k⟩
    · have k := k.2 c8
      refine aw_iload_n (i := 1) rfl d_X8_readAtom_45 1 rfl ?_
      refine aw_bipush (v := 6) d_X8_readAtom_46 ib_6 ?_
      refine aw_icmp_lt (tgt := 56) d_X8_readAtom_48 rfl (fun c29 => ?_) (fun c29 => ?_)
      · have k := k.1 c29
        refine aw_aload_n (i := 0) rfl d_X8_readAtom_56 0 rfl ?_
        refine aw_dup d_X8_readAtom_57 rfl ?_
        refine aw_geti (k0 := 2) kc_8 (ws_11 w5) (Nat.le_of_ble_eq_true rfl) tw_62 d_X8_readAtom_58 rfl ?_
        refine aw_iconst (v := 1) d_X8_readAtom_61 ic_1 ?_
        refine aw_iadd d_X8_readAtom_62 ?_
        refine aw_puti (k0 := 2) kc_8 (ws_11 w5) (Nat.le_of_ble_eq_true rfl) tw_62 d_X8_readAtom_63 rfl rfl nf_i ?_
        refine aw_aload_n (i := 0) rfl d_X8_readAtom_66 0 rfl ?_
        refine aw_iload_n (i := 1) rfl d_X8_readAtom_67 1 rfl ?_
        refine aw_iconst (v := 1) d_X8_readAtom_68 ic_1 ?_
        refine aw_iadd d_X8_readAtom_69 ?_
        refine aw_Vi 11 [.int (x1 + 1)] [] d_X8_readAtom_70 (cV_X8_readSum (d + 53) 0 0) kc_8 (ws_11 w5) tw_741 rfl (rr0 (Nat.le_of_ble_eq_true rfl) (Nat.le_of_ble_eq_true rfl)) (Nat.le_of_ble_eq_true rfl) xs0 k (fun r32 h30 kk => ?_)
        obtain ⟨w31, k⟩ := kk
        refine aw_if_eq (tgt := 89) d_X8_readAtom_73 rfl (fun c33 => ?_) (fun c33 => ?_)
        · have k := k.1 c33
          refine aw_iconst (v := 0) d_X8_readAtom_89 ic_0 ?_
          exact aw_zret rfl rfl d_X8_readAtom_90 ⟨Nat.le_refl _, Nat.le_refl _⟩ ⟨_, rfl, k⟩
        · have k := k.2 c33
          refine aw_aload_n (i := 0) rfl d_X8_readAtom_76 0 rfl ?_
          refine aw_bipush (v := 93) d_X8_readAtom_77 ib_93 ?_
          refine aw_Vi 11 [.int 93] [] d_X8_readAtom_79 (cV_X8_expect (d + 1) 0 0) kc_8 (ws_11 w31) tw_719 rfl (rr0 (Nat.le_of_ble_eq_true rfl) (Nat.le_of_ble_eq_true rfl)) (Nat.le_of_ble_eq_true rfl) xs0 k (fun r36 h34 kk => ?_)
          obtain ⟨w35, k⟩ := kk
          refine aw_if_eq (tgt := 89) d_X8_readAtom_82 rfl (fun c37 => ?_) (fun c37 => ?_)
          · have k := k.1 c37
            refine aw_iconst (v := 0) d_X8_readAtom_89 ic_0 ?_
            exact aw_zret rfl rfl d_X8_readAtom_90 ⟨Nat.le_refl _, Nat.le_refl _⟩ ⟨_, rfl, k⟩
          · have k := k.2 c37
            refine aw_iconst (v := 1) d_X8_readAtom_85 ic_1 ?_
            refine aw_goto (tgt := 90) d_X8_readAtom_86 rfl ?_
            exact aw_zret rfl rfl d_X8_readAtom_90 ⟨Nat.le_refl _, Nat.le_refl _⟩ ⟨_, rfl, k⟩
      · have k := k.2 c29
        refine aw_aload_n (i := 0) rfl d_X8_readAtom_51 0 rfl ?_
        refine aw_Vi 11 [] [] d_X8_readAtom_52 (cV_X8_fail (d + 0) 0 0) kc_8 (ws_11 w5) tw_715 rfl (rr0 (Nat.le_of_ble_eq_true rfl) (Nat.le_of_ble_eq_true rfl)) (Nat.le_of_ble_eq_true rfl) xs0 k (fun r40 h38 kk => ?_)
        obtain ⟨w39, k⟩ := kk
        obtain ⟨z41, k⟩ := k
        exact aw_zret rfl (nf_z z41).1 d_X8_readAtom_55 ⟨Nat.le_refl _, Nat.le_refl _⟩ ⟨_, rfl, k⟩
  · have k := k.2 c7
    refine aw_aload_n (i := 0) rfl d_X8_readAtom_12 0 rfl ?_
    refine aw_iconst (v := 0) d_X8_readAtom_13 ic_0 ?_
    refine aw_sipush (v := 9999) d_X8_readAtom_14 is_9999 ?_
    refine aw_Vi 11 [.int 0, .int 9999] [] d_X8_readAtom_17 (cV_X8_readNumber (d + 1) 0 0) kc_8 (ws_11 w5) tw_689 rfl (rr0 (Nat.le_of_ble_eq_true rfl) (Nat.le_of_ble_eq_true rfl)) (Nat.le_of_ble_eq_true rfl) xs0 k (fun r44 h42 kk => ?_)
    obtain ⟨w43, k⟩ := kk
    refine aw_istore_n (i := 3) rfl [(0, .ref 11), (1, .int x1), (2, .int r3), (3, .int r44)] d_X8_readAtom_20 (Nat.le_of_ble_eq_true rfl) rfl rfl ?_
    refine aw_aload_n (i := 0) rfl d_X8_readAtom_21 0 rfl ?_
    refine aw_iconst (v := 0) d_X8_readAtom_22 ic_0 ?_
    refine aw_iload_n (i := 3) rfl d_X8_readAtom_23 3 rfl ?_
    refine aw_Vi 11 [.int 0, .int r44] [] d_X8_readAtom_24 (cV_X8_emit (d + 1) 0 0) kc_8 (ws_11 w43) tw_753 rfl (rr0 (Nat.le_of_ble_eq_true rfl) (Nat.le_of_ble_eq_true rfl)) (Nat.le_of_ble_eq_true rfl) xs0 k (fun r47 h45 kk => ?_)
    obtain ⟨w46, k⟩ := kk
    refine aw_pop d_X8_readAtom_27 rfl ?_
    refine aw_iload_n (i := 3) rfl d_X8_readAtom_28 3 rfl ?_
    refine aw_iconst (v := (-1)) d_X8_readAtom_29 ic_m1 ?_
    refine aw_icmp_eq (tgt := 37) d_X8_readAtom_30 rfl (fun c48 => ?_) (fun c48 => ?_)
    · have k := k.1 c48
      refine aw_iconst (v := 0) d_X8_readAtom_37 ic_0 ?_
      exact aw_zret rfl rfl d_X8_readAtom_38 ⟨Nat.le_refl _, Nat.le_refl _⟩ ⟨_, rfl, k⟩
    · have k := k.2 c48
      refine aw_iconst (v := 1) d_X8_readAtom_33 ic_1 ?_
      refine aw_goto (tgt := 38) d_X8_readAtom_34 rfl ?_
      exact aw_zret rfl rfl d_X8_readAtom_38 ⟨Nat.le_refl _, Nat.le_refl _⟩ ⟨_, rfl, k⟩
theorem t_X8_readTerm (d : Nat) (h : Hp_) (w : Wf h) (x1 : Int32) (K : Int32 → Hp_ → Prop) (k : Ci (m_X8_readAtom (d + 51) 0 0) [.ref 11, .int x1] h (fun r3 h1 => Wf h1 ∧ (AW (m_X8_readTerm (d + 52) 0 0) 0 0 8 [(0, .ref 11), (1, .int x1), (2, .int r3), (3, .int 0)] [] h1 (kI K)))) : Ci (m_X8_readTerm (d + 52) 0 0) [.ref 11, .int x1] h K := by
  refine Ct.of (fun _ _ _ => trivial) pn_X8 (Nat.le_of_ble_eq_true rfl) ?_
  show AW (m_X8_readTerm (d + 52) 0 0) 0 0 0 [(0, .ref 11), (1, .int x1)] [] h (kI K)
  refine aw_aload_n (i := 0) rfl d_X8_readTerm_0 0 rfl ?_
  refine aw_iload_n (i := 1) rfl d_X8_readTerm_1 1 rfl ?_
  refine aw_Vi 11 [.int x1] [] d_X8_readTerm_2 (cV_X8_readAtom (d + 51) 0 0) kc_8 (ws_11 w) tw_749 rfl (rr0 (Nat.le_of_ble_eq_true rfl) (Nat.le_of_ble_eq_true rfl)) (Nat.le_of_ble_eq_true rfl) xs0 k (fun r3 h1 kk => ?_)
  obtain ⟨w2, k⟩ := kk
  refine aw_istore_n (i := 2) rfl [(0, .ref 11), (1, .int x1), (2, .int r3)] d_X8_readTerm_5 (Nat.le_of_ble_eq_true rfl) rfl rfl ?_
  refine aw_iconst (v := 0) d_X8_readTerm_6 ic_0 ?_
  refine aw_istore_n (i := 3) rfl [(0, .ref 11), (1, .int x1), (2, .int r3), (3, .int 0)] d_X8_readTerm_7 (Nat.le_of_ble_eq_true rfl) rfl rfl ?_
  exact k
theorem t_X8_readTerm_8 (d : Nat) (h : Hp_) (w : Wf h) (x1 : Int32) (x2 : Int32) (x3 : Int32) (K : Int32 → Hp_ → Prop) (k : (160 ≤ x3 → (x2 = 0 ∨ x2 = 1) ∧ (K x2 h)) ∧ (¬ 160 ≤ x3 → (x2 = 0 → (x2 = 0 ∨ x2 = 1) ∧ (K x2 h)) ∧ (¬ x2 = 0 → Ci (m_X8_peek (d + 0) 0 0) [.ref 11] h (fun r10 h8 => Wf h8 ∧ ((¬ r10 = 42 → (x2 = 0 ∨ x2 = 1) ∧ (K x2 h8)) ∧ (r10 = 42 → Ci (m_X8_readAtom (d + 51) 0 0) [.ref 11, .int x1] (h_im h8 11 2 ((h_i h8 11 2) + 1)) (fun r15 h13 => Wf h13 ∧ (Ci (m_X8_emit (d + 1) 0 0) [.ref 11, .int 7, .int 0] h13 (fun r18 h16 => Wf h16 ∧ (AW (m_X8_readTerm (d + 52) 0 0) 0 0 8 [(0, .ref 11), (1, .int x1), (2, .int r15), (3, .int (x3 + 1))] [] h16 (kI K))))))))))) : AW (m_X8_readTerm (d + 52) 0 0) 0 0 8 [(0, .ref 11), (1, .int x1), (2, .int x2), (3, .int x3)] [] h (kI K) := by
  refine aw_iload_n (i := 3) rfl d_X8_readTerm_8 3 rfl ?_
  refine aw_sipush (v := 160) d_X8_readTerm_9 is_160 ?_
  refine aw_icmp_ge (tgt := 58) d_X8_readTerm_12 rfl (fun c4 => ?_) (fun c4 => ?_)
  · have k := k.1 c4
    refine aw_iload_n (i := 2) rfl d_X8_readTerm_58 2 rfl ?_
    obtain ⟨z5, k⟩ := k
    exact aw_zret rfl (nf_z z5).1 d_X8_readTerm_59 ⟨Nat.le_refl _, Nat.le_refl _⟩ ⟨_, rfl, k⟩
  · have k := k.2 c4
    refine aw_iload_n (i := 2) rfl d_X8_readTerm_15 2 rfl ?_
    refine aw_if_eq (tgt := 58) d_X8_readTerm_16 rfl (fun c6 => ?_) (fun c6 => ?_)
    · have k := k.1 c6
      refine aw_iload_n (i := 2) rfl d_X8_readTerm_58 2 rfl ?_
      obtain ⟨z7, k⟩ := k
      exact aw_zret rfl (nf_z z7).1 d_X8_readTerm_59 ⟨Nat.le_refl _, Nat.le_refl _⟩ ⟨_, rfl, k⟩
    · have k := k.2 c6
      refine aw_aload_n (i := 0) rfl d_X8_readTerm_19 0 rfl ?_
      refine aw_Vi 11 [] [] d_X8_readTerm_20 (cV_X8_peek (d + 0) 0 0) kc_8 (ws_11 w) tw_685 rfl (rr0 (Nat.le_of_ble_eq_true rfl) (Nat.le_of_ble_eq_true rfl)) (Nat.le_of_ble_eq_true rfl) xs0 k (fun r10 h8 kk => ?_)
      obtain ⟨w9, k⟩ := kk
      refine aw_bipush (v := 42) d_X8_readTerm_23 ib_42 ?_
      refine aw_icmp_ne (tgt := 58) d_X8_readTerm_25 rfl (fun c11 => ?_) (fun c11 => ?_)
      · have k := k.1 c11
        refine aw_iload_n (i := 2) rfl d_X8_readTerm_58 2 rfl ?_
        obtain ⟨z12, k⟩ := k
        exact aw_zret rfl (nf_z z12).1 d_X8_readTerm_59 ⟨Nat.le_refl _, Nat.le_refl _⟩ ⟨_, rfl, k⟩
      · have k := k.2 c11
        refine aw_aload_n (i := 0) rfl d_X8_readTerm_28 0 rfl ?_
        refine aw_dup d_X8_readTerm_29 rfl ?_
        refine aw_geti (k0 := 2) kc_8 (ws_11 w9) (Nat.le_of_ble_eq_true rfl) tw_62 d_X8_readTerm_30 rfl ?_
        refine aw_iconst (v := 1) d_X8_readTerm_33 ic_1 ?_
        refine aw_iadd d_X8_readTerm_34 ?_
        refine aw_puti (k0 := 2) kc_8 (ws_11 w9) (Nat.le_of_ble_eq_true rfl) tw_62 d_X8_readTerm_35 rfl rfl nf_i ?_
        refine aw_aload_n (i := 0) rfl d_X8_readTerm_38 0 rfl ?_
        refine aw_iload_n (i := 1) rfl d_X8_readTerm_39 1 rfl ?_
        refine aw_Vi 11 [.int x1] [] d_X8_readTerm_40 (cV_X8_readAtom (d + 51) 0 0) kc_8 (ws_11 w9) tw_749 rfl (rr0 (Nat.le_of_ble_eq_true rfl) (Nat.le_of_ble_eq_true rfl)) (Nat.le_of_ble_eq_true rfl) xs0 k (fun r15 h13 kk => ?_)
        obtain ⟨w14, k⟩ := kk
        refine aw_istore_n (i := 2) rfl [(0, .ref 11), (1, .int x1), (2, .int r15), (3, .int x3)] d_X8_readTerm_43 (Nat.le_of_ble_eq_true rfl) rfl rfl ?_
        refine aw_aload_n (i := 0) rfl d_X8_readTerm_44 0 rfl ?_
        refine aw_bipush (v := 7) d_X8_readTerm_45 ib_7 ?_
        refine aw_iconst (v := 0) d_X8_readTerm_47 ic_0 ?_
        refine aw_Vi 11 [.int 7, .int 0] [] d_X8_readTerm_48 (cV_X8_emit (d + 1) 0 0) kc_8 (ws_11 w14) tw_753 rfl (rr0 (Nat.le_of_ble_eq_true rfl) (Nat.le_of_ble_eq_true rfl)) (Nat.le_of_ble_eq_true rfl) xs0 k (fun r18 h16 kk => ?_)
        obtain ⟨w17, k⟩ := kk
        refine aw_pop d_X8_readTerm_51 rfl ?_
        refine aw_iinc (v := (x3 + 1)) [(0, .ref 11), (1, .int x1), (2, .int r15), (3, .int (x3 + 1))] d_X8_readTerm_52 3 rfl rfl (Nat.le_of_ble_eq_true rfl) rfl rfl ?_
        refine aw_goto (tgt := 8) d_X8_readTerm_55 rfl ?_
        exact k
theorem t_X8_readSum (d : Nat) (h : Hp_) (w : Wf h) (x1 : Int32) (K : Int32 → Hp_ → Prop) (k : Ci (m_X8_readTerm (d + 52) 0 0) [.ref 11, .int x1] h (fun r3 h1 => Wf h1 ∧ (AW (m_X8_readSum (d + 53) 0 0) 0 0 8 [(0, .ref 11), (1, .int x1), (2, .int r3), (3, .int 0)] [] h1 (kI K)))) : Ci (m_X8_readSum (d + 53) 0 0) [.ref 11, .int x1] h K := by
  refine Ct.of (fun _ _ _ => trivial) pn_X8 (Nat.le_of_ble_eq_true rfl) ?_
  show AW (m_X8_readSum (d + 53) 0 0) 0 0 0 [(0, .ref 11), (1, .int x1)] [] h (kI K)
  refine aw_aload_n (i := 0) rfl d_X8_readSum_0 0 rfl ?_
  refine aw_iload_n (i := 1) rfl d_X8_readSum_1 1 rfl ?_
  refine aw_Vi 11 [.int x1] [] d_X8_readSum_2 (cV_X8_readTerm (d + 52) 0 0) kc_8 (ws_11 w) tw_745 rfl (rr0 (Nat.le_of_ble_eq_true rfl) (Nat.le_of_ble_eq_true rfl)) (Nat.le_of_ble_eq_true rfl) xs0 k (fun r3 h1 kk => ?_)
  obtain ⟨w2, k⟩ := kk
  refine aw_istore_n (i := 2) rfl [(0, .ref 11), (1, .int x1), (2, .int r3)] d_X8_readSum_5 (Nat.le_of_ble_eq_true rfl) rfl rfl ?_
  refine aw_iconst (v := 0) d_X8_readSum_6 ic_0 ?_
  refine aw_istore_n (i := 3) rfl [(0, .ref 11), (1, .int x1), (2, .int r3), (3, .int 0)] d_X8_readSum_7 (Nat.le_of_ble_eq_true rfl) rfl rfl ?_
  exact k
theorem t_X8_readSum_8 (d : Nat) (h : Hp_) (w : Wf h) (x1 : Int32) (x2 : Int32) (x3 : Int32) (K : Int32 → Hp_ → Prop) (k : (160 ≤ x3 → (x2 = 0 ∨ x2 = 1) ∧ (K x2 h)) ∧ (¬ 160 ≤ x3 → (x2 = 0 → (x2 = 0 ∨ x2 = 1) ∧ (K x2 h)) ∧ (¬ x2 = 0 → Ci (m_X8_peek (d + 0) 0 0) [.ref 11] h (fun r10 h8 => Wf h8 ∧ ((r10 = 43 → Ci (m_X8_peek (d + 0) 0 0) [.ref 11] h8 (fun r14 h12 => Wf h12 ∧ ((¬ r14 = 43 → Ci (m_X8_readTerm (d + 52) 0 0) [.ref 11, .int x1] (h_im h12 11 2 ((h_i h12 11 2) + 1)) (fun r18 h16 => Wf h16 ∧ (Ci (m_X8_emit (d + 1) 0 0) [.ref 11, .int 6, .int 0] h16 (fun r21 h19 => Wf h19 ∧ (AW (m_X8_readSum (d + 53) 0 0) 0 0 8 [(0, .ref 11), (1, .int x1), (2, .int r18), (3, .int (x3 + 1))] [] h19 (kI K)))))) ∧ (r14 = 43 → Ci (m_X8_readTerm (d + 52) 0 0) [.ref 11, .int x1] (h_im h12 11 2 ((h_i h12 11 2) + 1)) (fun r24 h22 => Wf h22 ∧ (Ci (m_X8_emit (d + 1) 0 0) [.ref 11, .int 5, .int 0] h22 (fun r27 h25 => Wf h25 ∧ (AW (m_X8_readSum (d + 53) 0 0) 0 0 8 [(0, .ref 11), (1, .int x1), (2, .int r24), (3, .int (x3 + 1))] [] h25 (kI K))))))))) ∧ (¬ r10 = 43 → Ci (m_X8_peek (d + 0) 0 0) [.ref 11] h8 (fun r30 h28 => Wf h28 ∧ ((¬ r30 = 45 → (x2 = 0 ∨ x2 = 1) ∧ (K x2 h28)) ∧ (r30 = 45 → Ci (m_X8_peek (d + 0) 0 0) [.ref 11] h28 (fun r35 h33 => Wf h33 ∧ ((¬ r35 = 43 → Ci (m_X8_readTerm (d + 52) 0 0) [.ref 11, .int x1] (h_im h33 11 2 ((h_i h33 11 2) + 1)) (fun r39 h37 => Wf h37 ∧ (Ci (m_X8_emit (d + 1) 0 0) [.ref 11, .int 6, .int 0] h37 (fun r42 h40 => Wf h40 ∧ (AW (m_X8_readSum (d + 53) 0 0) 0 0 8 [(0, .ref 11), (1, .int x1), (2, .int r39), (3, .int (x3 + 1))] [] h40 (kI K)))))) ∧ (r35 = 43 → Ci (m_X8_readTerm (d + 52) 0 0) [.ref 11, .int x1] (h_im h33 11 2 ((h_i h33 11 2) + 1)) (fun r45 h43 => Wf h43 ∧ (Ci (m_X8_emit (d + 1) 0 0) [.ref 11, .int 5, .int 0] h43 (fun r48 h46 => Wf h46 ∧ (AW (m_X8_readSum (d + 53) 0 0) 0 0 8 [(0, .ref 11), (1, .int x1), (2, .int r45), (3, .int (x3 + 1))] [] h46 (kI K))))))))))))))))) : AW (m_X8_readSum (d + 53) 0 0) 0 0 8 [(0, .ref 11), (1, .int x1), (2, .int x2), (3, .int x3)] [] h (kI K) := by
  refine aw_iload_n (i := 3) rfl d_X8_readSum_8 3 rfl ?_
  refine aw_sipush (v := 160) d_X8_readSum_9 is_160 ?_
  refine aw_icmp_ge (tgt := 84) d_X8_readSum_12 rfl (fun c4 => ?_) (fun c4 => ?_)
  · have k := k.1 c4
    refine aw_iload_n (i := 2) rfl d_X8_readSum_84 2 rfl ?_
    obtain ⟨z5, k⟩ := k
    exact aw_zret rfl (nf_z z5).1 d_X8_readSum_85 ⟨Nat.le_refl _, Nat.le_refl _⟩ ⟨_, rfl, k⟩
  · have k := k.2 c4
    refine aw_iload_n (i := 2) rfl d_X8_readSum_15 2 rfl ?_
    refine aw_if_eq (tgt := 84) d_X8_readSum_16 rfl (fun c6 => ?_) (fun c6 => ?_)
    · have k := k.1 c6
      refine aw_iload_n (i := 2) rfl d_X8_readSum_84 2 rfl ?_
      obtain ⟨z7, k⟩ := k
      exact aw_zret rfl (nf_z z7).1 d_X8_readSum_85 ⟨Nat.le_refl _, Nat.le_refl _⟩ ⟨_, rfl, k⟩
    · have k := k.2 c6
      refine aw_aload_n (i := 0) rfl d_X8_readSum_19 0 rfl ?_
      refine aw_Vi 11 [] [] d_X8_readSum_20 (cV_X8_peek (d + 0) 0 0) kc_8 (ws_11 w) tw_685 rfl (rr0 (Nat.le_of_ble_eq_true rfl) (Nat.le_of_ble_eq_true rfl)) (Nat.le_of_ble_eq_true rfl) xs0 k (fun r10 h8 kk => ?_)
      obtain ⟨w9, k⟩ := kk
      refine aw_bipush (v := 43) d_X8_readSum_23 ib_43 ?_
      refine aw_icmp_eq (tgt := 37) d_X8_readSum_25 rfl (fun c11 => ?_) (fun c11 => ?_)
      · have k := k.1 c11
        refine aw_aload_n (i := 0) rfl d_X8_readSum_37 0 rfl ?_
        refine aw_Vi 11 [] [] d_X8_readSum_38 (cV_X8_peek (d + 0) 0 0) kc_8 (ws_11 w9) tw_685 rfl (rr0 (Nat.le_of_ble_eq_true rfl) (Nat.le_of_ble_eq_true rfl)) (Nat.le_of_ble_eq_true rfl) xs0 k (fun r14 h12 kk => ?_)
        obtain ⟨w13, k⟩ := kk
        refine aw_bipush (v := 43) d_X8_readSum_41 ib_43 ?_
        refine aw_icmp_ne (tgt := 50) d_X8_readSum_43 rfl (fun c15 => ?_) (fun c15 => ?_)
        · have k := k.1 c15
          refine aw_bipush (v := 6) d_X8_readSum_50 ib_6 ?_
          refine aw_istore [(0, .ref 11), (1, .int x1), (2, .int x2), (3, .int x3), (4, .int 6)] d_X8_readSum_52 (Nat.le_of_ble_eq_true rfl) rfl rfl ?_
          refine aw_aload_n (i := 0) rfl d_X8_readSum_54 0 rfl ?_
          refine aw_dup d_X8_readSum_55 rfl ?_
          refine aw_geti (k0 := 2) kc_8 (ws_11 w13) (Nat.le_of_ble_eq_true rfl) tw_62 d_X8_readSum_56 rfl ?_
          refine aw_iconst (v := 1) d_X8_readSum_59 ic_1 ?_
          refine aw_iadd d_X8_readSum_60 ?_
          refine aw_puti (k0 := 2) kc_8 (ws_11 w13) (Nat.le_of_ble_eq_true rfl) tw_62 d_X8_readSum_61 rfl rfl nf_i ?_
          refine aw_aload_n (i := 0) rfl d_X8_readSum_64 0 rfl ?_
          refine aw_iload_n (i := 1) rfl d_X8_readSum_65 1 rfl ?_
          refine aw_Vi 11 [.int x1] [] d_X8_readSum_66 (cV_X8_readTerm (d + 52) 0 0) kc_8 (ws_11 w13) tw_745 rfl (rr0 (Nat.le_of_ble_eq_true rfl) (Nat.le_of_ble_eq_true rfl)) (Nat.le_of_ble_eq_true rfl) xs0 k (fun r18 h16 kk => ?_)
          obtain ⟨w17, k⟩ := kk
          refine aw_istore_n (i := 2) rfl [(0, .ref 11), (1, .int x1), (2, .int r18), (3, .int x3), (4, .int 6)] d_X8_readSum_69 (Nat.le_of_ble_eq_true rfl) rfl rfl ?_
          refine aw_aload_n (i := 0) rfl d_X8_readSum_70 0 rfl ?_
          refine aw_iload d_X8_readSum_71 4 rfl ?_
          refine aw_iconst (v := 0) d_X8_readSum_73 ic_0 ?_
          refine aw_Vi 11 [.int 6, .int 0] [] d_X8_readSum_74 (cV_X8_emit (d + 1) 0 0) kc_8 (ws_11 w17) tw_753 rfl (rr0 (Nat.le_of_ble_eq_true rfl) (Nat.le_of_ble_eq_true rfl)) (Nat.le_of_ble_eq_true rfl) xs0 k (fun r21 h19 kk => ?_)
          obtain ⟨w20, k⟩ := kk
          refine aw_pop d_X8_readSum_77 rfl ?_
          refine aw_iinc (v := (x3 + 1)) [(0, .ref 11), (1, .int x1), (2, .int r18), (3, .int (x3 + 1)), (4, .int 6)] d_X8_readSum_78 3 rfl rfl (Nat.le_of_ble_eq_true rfl) rfl rfl ?_
          refine aw_goto (tgt := 8) d_X8_readSum_81 rfl ?_
          exact aw_lvp [0, 1, 2, 3] [(0, .ref 11), (1, .int x1), (2, .int r18), (3, .int (x3 + 1))] rfl k
        · have k := k.2 c15
          refine aw_iconst (v := 5) d_X8_readSum_46 ic_5 ?_
          refine aw_goto (tgt := 52) d_X8_readSum_47 rfl ?_
          refine aw_istore [(0, .ref 11), (1, .int x1), (2, .int x2), (3, .int x3), (4, .int 5)] d_X8_readSum_52 (Nat.le_of_ble_eq_true rfl) rfl rfl ?_
          refine aw_aload_n (i := 0) rfl d_X8_readSum_54 0 rfl ?_
          refine aw_dup d_X8_readSum_55 rfl ?_
          refine aw_geti (k0 := 2) kc_8 (ws_11 w13) (Nat.le_of_ble_eq_true rfl) tw_62 d_X8_readSum_56 rfl ?_
          refine aw_iconst (v := 1) d_X8_readSum_59 ic_1 ?_
          refine aw_iadd d_X8_readSum_60 ?_
          refine aw_puti (k0 := 2) kc_8 (ws_11 w13) (Nat.le_of_ble_eq_true rfl) tw_62 d_X8_readSum_61 rfl rfl nf_i ?_
          refine aw_aload_n (i := 0) rfl d_X8_readSum_64 0 rfl ?_
          refine aw_iload_n (i := 1) rfl d_X8_readSum_65 1 rfl ?_
          refine aw_Vi 11 [.int x1] [] d_X8_readSum_66 (cV_X8_readTerm (d + 52) 0 0) kc_8 (ws_11 w13) tw_745 rfl (rr0 (Nat.le_of_ble_eq_true rfl) (Nat.le_of_ble_eq_true rfl)) (Nat.le_of_ble_eq_true rfl) xs0 k (fun r24 h22 kk => ?_)
          obtain ⟨w23, k⟩ := kk
          refine aw_istore_n (i := 2) rfl [(0, .ref 11), (1, .int x1), (2, .int r24), (3, .int x3), (4, .int 5)] d_X8_readSum_69 (Nat.le_of_ble_eq_true rfl) rfl rfl ?_
          refine aw_aload_n (i := 0) rfl d_X8_readSum_70 0 rfl ?_
          refine aw_iload d_X8_readSum_71 4 rfl ?_
          refine aw_iconst (v := 0) d_X8_readSum_73 ic_0 ?_
          refine aw_Vi 11 [.int 5, .int 0] [] d_X8_readSum_74 (cV_X8_emit (d + 1) 0 0) kc_8 (ws_11 w23) tw_753 rfl (rr0 (Nat.le_of_ble_eq_true rfl) (Nat.le_of_ble_eq_true rfl)) (Nat.le_of_ble_eq_true rfl) xs0 k (fun r27 h25 kk => ?_)
          obtain ⟨w26, k⟩ := kk
          refine aw_pop d_X8_readSum_77 rfl ?_
          refine aw_iinc (v := (x3 + 1)) [(0, .ref 11), (1, .int x1), (2, .int r24), (3, .int (x3 + 1)), (4, .int 5)] d_X8_readSum_78 3 rfl rfl (Nat.le_of_ble_eq_true rfl) rfl rfl ?_
          refine aw_goto (tgt := 8) d_X8_readSum_81 rfl ?_
          exact aw_lvp [0, 1, 2, 3] [(0, .ref 11), (1, .int x1), (2, .int r24), (3, .int (x3 + 1))] rfl k
      · have k := k.2 c11
        refine aw_aload_n (i := 0) rfl d_X8_readSum_28 0 rfl ?_
        refine aw_Vi 11 [] [] d_X8_readSum_29 (cV_X8_peek (d + 0) 0 0) kc_8 (ws_11 w9) tw_685 rfl (rr0 (Nat.le_of_ble_eq_true rfl) (Nat.le_of_ble_eq_true rfl)) (Nat.le_of_ble_eq_true rfl) xs0 k (fun r30 h28 kk => ?_)
        obtain ⟨w29, k⟩ := kk
        refine aw_bipush (v := 45) d_X8_readSum_32 ib_45 ?_
        refine aw_icmp_ne (tgt := 84) d_X8_readSum_34 rfl (fun c31 => ?_) (fun c31 => ?_)
        · have k := k.1 c31
          refine aw_iload_n (i := 2) rfl d_X8_readSum_84 2 rfl ?_
          obtain ⟨z32, k⟩ := k
          exact aw_zret rfl (nf_z z32).1 d_X8_readSum_85 ⟨Nat.le_refl _, Nat.le_refl _⟩ ⟨_, rfl, k⟩
        · have k := k.2 c31
          refine aw_aload_n (i := 0) rfl d_X8_readSum_37 0 rfl ?_
          refine aw_Vi 11 [] [] d_X8_readSum_38 (cV_X8_peek (d + 0) 0 0) kc_8 (ws_11 w29) tw_685 rfl (rr0 (Nat.le_of_ble_eq_true rfl) (Nat.le_of_ble_eq_true rfl)) (Nat.le_of_ble_eq_true rfl) xs0 k (fun r35 h33 kk => ?_)
          obtain ⟨w34, k⟩ := kk
          refine aw_bipush (v := 43) d_X8_readSum_41 ib_43 ?_
          refine aw_icmp_ne (tgt := 50) d_X8_readSum_43 rfl (fun c36 => ?_) (fun c36 => ?_)
          · have k := k.1 c36
            refine aw_bipush (v := 6) d_X8_readSum_50 ib_6 ?_
            refine aw_istore [(0, .ref 11), (1, .int x1), (2, .int x2), (3, .int x3), (4, .int 6)] d_X8_readSum_52 (Nat.le_of_ble_eq_true rfl) rfl rfl ?_
            refine aw_aload_n (i := 0) rfl d_X8_readSum_54 0 rfl ?_
            refine aw_dup d_X8_readSum_55 rfl ?_
            refine aw_geti (k0 := 2) kc_8 (ws_11 w34) (Nat.le_of_ble_eq_true rfl) tw_62 d_X8_readSum_56 rfl ?_
            refine aw_iconst (v := 1) d_X8_readSum_59 ic_1 ?_
            refine aw_iadd d_X8_readSum_60 ?_
            refine aw_puti (k0 := 2) kc_8 (ws_11 w34) (Nat.le_of_ble_eq_true rfl) tw_62 d_X8_readSum_61 rfl rfl nf_i ?_
            refine aw_aload_n (i := 0) rfl d_X8_readSum_64 0 rfl ?_
            refine aw_iload_n (i := 1) rfl d_X8_readSum_65 1 rfl ?_
            refine aw_Vi 11 [.int x1] [] d_X8_readSum_66 (cV_X8_readTerm (d + 52) 0 0) kc_8 (ws_11 w34) tw_745 rfl (rr0 (Nat.le_of_ble_eq_true rfl) (Nat.le_of_ble_eq_true rfl)) (Nat.le_of_ble_eq_true rfl) xs0 k (fun r39 h37 kk => ?_)
            obtain ⟨w38, k⟩ := kk
            refine aw_istore_n (i := 2) rfl [(0, .ref 11), (1, .int x1), (2, .int r39), (3, .int x3), (4, .int 6)] d_X8_readSum_69 (Nat.le_of_ble_eq_true rfl) rfl rfl ?_
            refine aw_aload_n (i := 0) rfl d_X8_readSum_70 0 rfl ?_
            refine aw_iload d_X8_readSum_71 4 rfl ?_
            refine aw_iconst (v := 0) d_X8_readSum_73 ic_0 ?_
            refine aw_Vi 11 [.int 6, .int 0] [] d_X8_readSum_74 (cV_X8_emit (d + 1) 0 0) kc_8 (ws_11 w38) tw_753 rfl (rr0 (Nat.le_of_ble_eq_true rfl) (Nat.le_of_ble_eq_true rfl)) (Nat.le_of_ble_eq_true rfl) xs0 k (fun r42 h40 kk => ?_)
            obtain ⟨w41, k⟩ := kk
            refine aw_pop d_X8_readSum_77 rfl ?_
            refine aw_iinc (v := (x3 + 1)) [(0, .ref 11), (1, .int x1), (2, .int r39), (3, .int (x3 + 1)), (4, .int 6)] d_X8_readSum_78 3 rfl rfl (Nat.le_of_ble_eq_true rfl) rfl rfl ?_
            refine aw_goto (tgt := 8) d_X8_readSum_81 rfl ?_
            exact aw_lvp [0, 1, 2, 3] [(0, .ref 11), (1, .int x1), (2, .int r39), (3, .int (x3 + 1))] rfl k
          · have k := k.2 c36
            refine aw_iconst (v := 5) d_X8_readSum_46 ic_5 ?_
            refine aw_goto (tgt := 52) d_X8_readSum_47 rfl ?_
            refine aw_istore [(0, .ref 11), (1, .int x1), (2, .int x2), (3, .int x3), (4, .int 5)] d_X8_readSum_52 (Nat.le_of_ble_eq_true rfl) rfl rfl ?_
            refine aw_aload_n (i := 0) rfl d_X8_readSum_54 0 rfl ?_
            refine aw_dup d_X8_readSum_55 rfl ?_
            refine aw_geti (k0 := 2) kc_8 (ws_11 w34) (Nat.le_of_ble_eq_true rfl) tw_62 d_X8_readSum_56 rfl ?_
            refine aw_iconst (v := 1) d_X8_readSum_59 ic_1 ?_
            refine aw_iadd d_X8_readSum_60 ?_
            refine aw_puti (k0 := 2) kc_8 (ws_11 w34) (Nat.le_of_ble_eq_true rfl) tw_62 d_X8_readSum_61 rfl rfl nf_i ?_
            refine aw_aload_n (i := 0) rfl d_X8_readSum_64 0 rfl ?_
            refine aw_iload_n (i := 1) rfl d_X8_readSum_65 1 rfl ?_
            refine aw_Vi 11 [.int x1] [] d_X8_readSum_66 (cV_X8_readTerm (d + 52) 0 0) kc_8 (ws_11 w34) tw_745 rfl (rr0 (Nat.le_of_ble_eq_true rfl) (Nat.le_of_ble_eq_true rfl)) (Nat.le_of_ble_eq_true rfl) xs0 k (fun r45 h43 kk => ?_)
            obtain ⟨w44, k⟩ := kk
            refine aw_istore_n (i := 2) rfl [(0, .ref 11), (1, .int x1), (2, .int r45), (3, .int x3), (4, .int 5)] d_X8_readSum_69 (Nat.le_of_ble_eq_true rfl) rfl rfl ?_
            refine aw_aload_n (i := 0) rfl d_X8_readSum_70 0 rfl ?_
            refine aw_iload d_X8_readSum_71 4 rfl ?_
            refine aw_iconst (v := 0) d_X8_readSum_73 ic_0 ?_
            refine aw_Vi 11 [.int 5, .int 0] [] d_X8_readSum_74 (cV_X8_emit (d + 1) 0 0) kc_8 (ws_11 w44) tw_753 rfl (rr0 (Nat.le_of_ble_eq_true rfl) (Nat.le_of_ble_eq_true rfl)) (Nat.le_of_ble_eq_true rfl) xs0 k (fun r48 h46 kk => ?_)
            obtain ⟨w47, k⟩ := kk
            refine aw_pop d_X8_readSum_77 rfl ?_
            refine aw_iinc (v := (x3 + 1)) [(0, .ref 11), (1, .int x1), (2, .int r45), (3, .int (x3 + 1)), (4, .int 5)] d_X8_readSum_78 3 rfl rfl (Nat.le_of_ble_eq_true rfl) rfl rfl ?_
            refine aw_goto (tgt := 8) d_X8_readSum_81 rfl ?_
            exact aw_lvp [0, 1, 2, 3] [(0, .ref 11), (1, .int x1), (2, .int r45), (3, .int (x3 + 1))] rfl k
theorem t_X8_readComparison (d : Nat) (h : Hp_) (w : Wf h) (x1 : Int32) (K : Int32 → Hp_ → Prop) (k : Ci (m_X8_peek (d + 0) 0 0) [.ref 11] h (fun r3 h1 => Wf h1 ∧ (Ci (m_X8_isComparison (d + 0) 0 0) [.int r3] h1 (fun r6 h4 => Wf h4 ∧ ((¬ r6 = 0 → Ci (m_X8_readSum (d + 53) 0 0) [.ref 11, .int x1] (h_im h4 11 2 ((h_i h4 11 2) + 1)) (fun r10 h8 => Wf h8 ∧ ((¬ r3 = 61 → (¬ r3 = 60 → Ci (m_X8_emit (d + 1) 0 0) [.ref 11, .int 10, .int 0] h8 (fun r15 h13 => Wf h13 ∧ ((r10 = 0 ∨ r10 = 1) ∧ (K r10 h13)))) ∧ (r3 = 60 → Ci (m_X8_emit (d + 1) 0 0) [.ref 11, .int 9, .int 0] h8 (fun r19 h17 => Wf h17 ∧ ((r10 = 0 ∨ r10 = 1) ∧ (K r10 h17))))) ∧ (r3 = 61 → Ci (m_X8_emit (d + 1) 0 0) [.ref 11, .int 8, .int 0] h8 (fun r23 h21 => Wf h21 ∧ ((r10 = 0 ∨ r10 = 1) ∧ (K r10 h21))))))) ∧ (r6 = 0 → Ci (m_X8_fail (d + 0) 0 0) [.ref 11] h4 (fun r27 h25 => Wf h25 ∧ ((r27 = 0 ∨ r27 = 1) ∧ (K r27 h25))))))))) : Ci (m_X8_readComparison (d + 54) 0 0) [.ref 11, .int x1] h K := by
  refine Ct.of (fun _ _ _ => trivial) pn_X8 (Nat.le_of_ble_eq_true rfl) ?_
  show AW (m_X8_readComparison (d + 54) 0 0) 0 0 0 [(0, .ref 11), (1, .int x1)] [] h (kI K)
  refine aw_aload_n (i := 0) rfl d_X8_readComparison_0 0 rfl ?_
  refine aw_Vi 11 [] [] d_X8_readComparison_1 (cV_X8_peek (d + 0) 0 0) kc_8 (ws_11 w) tw_685 rfl (rr0 (Nat.le_of_ble_eq_true rfl) (Nat.le_of_ble_eq_true rfl)) (Nat.le_of_ble_eq_true rfl) xs0 k (fun r3 h1 kk => ?_)
  obtain ⟨w2, k⟩ := kk
  refine aw_istore_n (i := 2) rfl [(0, .ref 11), (1, .int x1), (2, .int r3)] d_X8_readComparison_4 (Nat.le_of_ble_eq_true rfl) rfl rfl ?_
  refine aw_iload_n (i := 2) rfl d_X8_readComparison_5 2 rfl ?_
  refine aw_Si [.int r3] [] d_X8_readComparison_6 (cS_X8_isComparison (d + 0) 0 0) tw_848 rfl (rr0 (Nat.le_of_ble_eq_true rfl) (Nat.le_of_ble_eq_true rfl)) (Nat.le_of_ble_eq_true rfl) xs0 k (fun r6 h4 kk => ?_)
  obtain ⟨w5, k⟩ := kk
  refine aw_if_ne (tgt := 17) d_X8_readComparison_9 rfl (fun c7 => ?_) (fun c7 => ?_)
  · have k := k.1 c7
    refine aw_aload_n (i := 0) rfl d_X8_readComparison_17 0 rfl ?_
    refine aw_dup d_X8_readComparison_18 rfl ?_
    refine aw_geti (k0 := 2) kc_8 (ws_11 w5) (Nat.le_of_ble_eq_true rfl) tw_62 d_X8_readComparison_19 rfl ?_
    refine aw_iconst (v := 1) d_X8_readComparison_22 ic_1 ?_
    refine aw_iadd d_X8_readComparison_23 ?_
    refine aw_puti (k0 := 2) kc_8 (ws_11 w5) (Nat.le_of_ble_eq_true rfl) tw_62 d_X8_readComparison_24 rfl rfl nf_i ?_
    refine aw_aload_n (i := 0) rfl d_X8_readComparison_27 0 rfl ?_
    refine aw_iload_n (i := 1) rfl d_X8_readComparison_28 1 rfl ?_
    refine aw_Vi 11 [.int x1] [] d_X8_readComparison_29 (cV_X8_readSum (d + 53) 0 0) kc_8 (ws_11 w5) tw_741 rfl (rr0 (Nat.le_of_ble_eq_true rfl) (Nat.le_of_ble_eq_true rfl)) (Nat.le_of_ble_eq_true rfl) xs0 k (fun r10 h8 kk => ?_)
    obtain ⟨w9, k⟩ := kk
    refine aw_istore_n (i := 3) rfl [(0, .ref 11), (1, .int x1), (2, .int r3), (3, .int r10)] d_X8_readComparison_32 (Nat.le_of_ble_eq_true rfl) rfl rfl ?_
    refine aw_aload_n (i := 0) rfl d_X8_readComparison_33 0 rfl ?_
    refine aw_iload_n (i := 2) rfl d_X8_readComparison_34 2 rfl ?_
    refine aw_bipush (v := 61) d_X8_readComparison_35 ib_61 ?_
    refine aw_icmp_ne (tgt := 45) d_X8_readComparison_37 rfl (fun c11 => ?_) (fun c11 => ?_)
    · have k := k.1 c11
      refine aw_iload_n (i := 2) rfl d_X8_readComparison_45 2 rfl ?_
      refine aw_bipush (v := 60) d_X8_readComparison_46 ib_60 ?_
      refine aw_icmp_ne (tgt := 56) d_X8_readComparison_48 rfl (fun c12 => ?_) (fun c12 => ?_)
      · have k := k.1 c12
        refine aw_bipush (v := 10) d_X8_readComparison_56 ib_10 ?_
        refine aw_iconst (v := 0) d_X8_readComparison_58 ic_0 ?_
        refine aw_Vi 11 [.int 10, .int 0] [] d_X8_readComparison_59 (cV_X8_emit (d + 1) 0 0) kc_8 (ws_11 w9) tw_753 rfl (rr0 (Nat.le_of_ble_eq_true rfl) (Nat.le_of_ble_eq_true rfl)) (Nat.le_of_ble_eq_true rfl) xs0 k (fun r15 h13 kk => ?_)
        obtain ⟨w14, k⟩ := kk
        refine aw_pop d_X8_readComparison_62 rfl ?_
        refine aw_iload_n (i := 3) rfl d_X8_readComparison_63 3 rfl ?_
        obtain ⟨z16, k⟩ := k
        exact aw_zret rfl (nf_z z16).1 d_X8_readComparison_64 ⟨Nat.le_refl _, Nat.le_refl _⟩ ⟨_, rfl, k⟩
      · have k := k.2 c12
        refine aw_bipush (v := 9) d_X8_readComparison_51 ib_9 ?_
        refine aw_goto (tgt := 58) d_X8_readComparison_53 rfl ?_
        refine aw_iconst (v := 0) d_X8_readComparison_58 ic_0 ?_
        refine aw_Vi 11 [.int 9, .int 0] [] d_X8_readComparison_59 (cV_X8_emit (d + 1) 0 0) kc_8 (ws_11 w9) tw_753 rfl (rr0 (Nat.le_of_ble_eq_true rfl) (Nat.le_of_ble_eq_true rfl)) (Nat.le_of_ble_eq_true rfl) xs0 k (fun r19 h17 kk => ?_)
        obtain ⟨w18, k⟩ := kk
        refine aw_pop d_X8_readComparison_62 rfl ?_
        refine aw_iload_n (i := 3) rfl d_X8_readComparison_63 3 rfl ?_
        obtain ⟨z20, k⟩ := k
        exact aw_zret rfl (nf_z z20).1 d_X8_readComparison_64 ⟨Nat.le_refl _, Nat.le_refl _⟩ ⟨_, rfl, k⟩
    · have k := k.2 c11
      refine aw_bipush (v := 8) d_X8_readComparison_40 ib_8 ?_
      refine aw_goto (tgt := 58) d_X8_readComparison_42 rfl ?_
      refine aw_iconst (v := 0) d_X8_readComparison_58 ic_0 ?_
      refine aw_Vi 11 [.int 8, .int 0] [] d_X8_readComparison_59 (cV_X8_emit (d + 1) 0 0) kc_8 (ws_11 w9) tw_753 rfl (rr0 (Nat.le_of_ble_eq_true rfl) (Nat.le_of_ble_eq_true rfl)) (Nat.le_of_ble_eq_true rfl) xs0 k (fun r23 h21 kk => ?_)
      obtain ⟨w22, k⟩ := kk
      refine aw_pop d_X8_readComparison_62 rfl ?_
      refine aw_iload_n (i := 3) rfl d_X8_readComparison_63 3 rfl ?_
      obtain ⟨z24, k⟩ := k
      exact aw_zret rfl (nf_z z24).1 d_X8_readComparison_64 ⟨Nat.le_refl _, Nat.le_refl _⟩ ⟨_, rfl, k⟩
  · have k := k.2 c7
    refine aw_aload_n (i := 0) rfl d_X8_readComparison_12 0 rfl ?_
    refine aw_Vi 11 [] [] d_X8_readComparison_13 (cV_X8_fail (d + 0) 0 0) kc_8 (ws_11 w5) tw_715 rfl (rr0 (Nat.le_of_ble_eq_true rfl) (Nat.le_of_ble_eq_true rfl)) (Nat.le_of_ble_eq_true rfl) xs0 k (fun r27 h25 kk => ?_)
    obtain ⟨w26, k⟩ := kk
    obtain ⟨z28, k⟩ := k
    exact aw_zret rfl (nf_z z28).1 d_X8_readComparison_16 ⟨Nat.le_refl _, Nat.le_refl _⟩ ⟨_, rfl, k⟩
theorem t_X8_readUnit (d : Nat) (h : Hp_) (w : Wf h) (x1 : Int32) (K : Int32 → Hp_ → Prop) (k : Ci (m_X8_peek (d + 0) 0 0) [.ref 11] h (fun r3 h1 => Wf h1 ∧ ((r3 = 33 → (x1 < 6 → (¬ r3 = 40 → Ci (m_X8_readUnit (d + 55) 0 0) [.ref 11, .int (x1 + 1)] (h_im h1 11 2 ((h_i h1 11 2) + 1)) (fun r9 h7 => Wf h7 ∧ (Ci (m_X8_emit (d + 1) 0 0) [.ref 11, .int 2, .int 0] h7 (fun r12 h10 => Wf h10 ∧ ((r9 = 0 ∨ r9 = 1) ∧ (K r9 h10)))))) ∧ (r3 = 40 → Ci (m_X8_readCondition (d + 58) 0 0) [.ref 11, .int (x1 + 1)] (h_im h1 11 2 ((h_i h1 11 2) + 1)) (fun r16 h14 => Wf h14 ∧ ((r16 = 0 → K 0 h14) ∧ (¬ r16 = 0 → Ci (m_X8_expect (d + 1) 0 0) [.ref 11, .int 41] h14 (fun r20 h18 => Wf h18 ∧ ((r20 = 0 → K 0 h18) ∧ (¬ r20 = 0 → K 1 h18)))))))) ∧ (¬ x1 < 6 → Ci (m_X8_fail (d + 0) 0 0) [.ref 11] h1 (fun r24 h22 => Wf h22 ∧ ((r24 = 0 ∨ r24 = 1) ∧ (K r24 h22))))) ∧ (¬ r3 = 33 → (r3 = 40 → (x1 < 6 → (¬ r3 = 40 → Ci (m_X8_readUnit (d + 55) 0 0) [.ref 11, .int (x1 + 1)] (h_im h1 11 2 ((h_i h1 11 2) + 1)) (fun r31 h29 => Wf h29 ∧ (Ci (m_X8_emit (d + 1) 0 0) [.ref 11, .int 2, .int 0] h29 (fun r34 h32 => Wf h32 ∧ ((r31 = 0 ∨ r31 = 1) ∧ (K r31 h32)))))) ∧ (r3 = 40 → Ci (m_X8_readCondition (d + 58) 0 0) [.ref 11, .int (x1 + 1)] (h_im h1 11 2 ((h_i h1 11 2) + 1)) (fun r38 h36 => Wf h36 ∧ ((r38 = 0 → K 0 h36) ∧ (¬ r38 = 0 → Ci (m_X8_expect (d + 1) 0 0) [.ref 11, .int 41] h36 (fun r42 h40 => Wf h40 ∧ ((r42 = 0 → K 0 h40) ∧ (¬ r42 = 0 → K 1 h40)))))))) ∧ (¬ x1 < 6 → Ci (m_X8_fail (d + 0) 0 0) [.ref 11] h1 (fun r46 h44 => Wf h44 ∧ ((r46 = 0 ∨ r46 = 1) ∧ (K r46 h44))))) ∧ (¬ r3 = 40 → Ci (m_X8_readSum (d + 53) 0 0) [.ref 11, .int x1] h1 (fun r50 h48 => Wf h48 ∧ ((r50 = 0 → K 0 h48) ∧ (¬ r50 = 0 → Ci (m_X8_readComparison (d + 54) 0 0) [.ref 11, .int x1] h48 (fun r54 h52 => Wf h52 ∧ ((r54 = 0 → K 0 h52) ∧ (¬ r54 = 0 → K 1 h52))))))))))) : Ci (m_X8_readUnit (d + 65) 0 0) [.ref 11, .int x1] h K := by
  refine Ct.of (fun _ _ _ => trivial) pn_X8 (Nat.le_of_ble_eq_true rfl) ?_
  show AW (m_X8_readUnit (d + 65) 0 0) 0 0 0 [(0, .ref 11), (1, .int x1)] [] h (kI K)
  refine aw_aload_n (i := 0) rfl d_X8_readUnit_0 0 rfl ?_
  refine aw_Vi 11 [] [] d_X8_readUnit_1 (cV_X8_peek (d + 0) 0 0) kc_8 (ws_11 w) tw_685 rfl (rr0 (Nat.le_of_ble_eq_true rfl) (Nat.le_of_ble_eq_true rfl)) (Nat.le_of_ble_eq_true rfl) xs0 k (fun r3 h1 kk => ?_)
  obtain ⟨w2, k⟩ := kk
  refine aw_istore_n (i := 2) rfl [(0, .ref 11), (1, .int x1), (2, .int r3)] d_X8_readUnit_4 (Nat.le_of_ble_eq_true rfl) rfl rfl ?_
  refine aw_iload_n (i := 2) rfl d_X8_readUnit_5 2 rfl ?_
  refine aw_bipush (v := 33) d_X8_readUnit_6 ib_33 ?_
  refine aw_icmp_eq (tgt := 39) d_X8_readUnit_8 rfl (fun c4 => ?_) (fun c4 => ?_)
  · have k := k.1 c4
    refine aw_iload_n (i := 1) rfl d_X8_readUnit_39 1 rfl ?_
    refine aw_bipush (v := 6) d_X8_readUnit_40 ib_6 ?_
    refine aw_icmp_lt (tgt := 50) d_X8_readUnit_42 rfl (fun c5 => ?_) (fun c5 => ?_)
    · have k := k.1 c5
      refine aw_aload_n (i := 0) rfl d_X8_readUnit_50 0 rfl ?_
      refine aw_dup d_X8_readUnit_51 rfl ?_
      refine aw_geti (k0 := 2) kc_8 (ws_11 w2) (Nat.le_of_ble_eq_true rfl) tw_62 d_X8_readUnit_52 rfl ?_
      refine aw_iconst (v := 1) d_X8_readUnit_55 ic_1 ?_
      refine aw_iadd d_X8_readUnit_56 ?_
      refine aw_puti (k0 := 2) kc_8 (ws_11 w2) (Nat.le_of_ble_eq_true rfl) tw_62 d_X8_readUnit_57 rfl rfl nf_i ?_
      refine aw_iload_n (i := 2) rfl d_X8_readUnit_60 2 rfl ?_
      refine aw_bipush (v := 40) d_X8_readUnit_61 ib_40 ?_
      refine aw_icmp_ne (tgt := 91) d_X8_readUnit_63 rfl (fun c6 => ?_) (fun c6 => ?_)
      · have k := k.1 c6
        refine aw_aload_n (i := 0) rfl d_X8_readUnit_91 0 rfl ?_
        refine aw_iload_n (i := 1) rfl d_X8_readUnit_92 1 rfl ?_
        refine aw_iconst (v := 1) d_X8_readUnit_93 ic_1 ?_
        refine aw_iadd d_X8_readUnit_94 ?_
        refine aw_Vi 11 [.int (x1 + 1)] [] d_X8_readUnit_95 (cV_X8_readUnit (d + 55) 0 0) kc_8 (ws_11 w2) tw_737 rfl (rr0 (Nat.le_of_ble_eq_true rfl) (Nat.le_of_ble_eq_true rfl)) (Nat.le_of_ble_eq_true rfl) xs0 k (fun r9 h7 kk => ?_)
        obtain ⟨w8, k⟩ := kk
        refine aw_istore_n (i := 3) rfl [(0, .ref 11), (1, .int x1), (2, .int r3), (3, .int r9)] d_X8_readUnit_98 (Nat.le_of_ble_eq_true rfl) rfl rfl ?_
        refine aw_aload_n (i := 0) rfl d_X8_readUnit_99 0 rfl ?_
        refine aw_iconst (v := 2) d_X8_readUnit_100 ic_2 ?_
        refine aw_iconst (v := 0) d_X8_readUnit_101 ic_0 ?_
        refine aw_Vi 11 [.int 2, .int 0] [] d_X8_readUnit_102 (cV_X8_emit (d + 1) 0 0) kc_8 (ws_11 w8) tw_753 rfl (rr0 (Nat.le_of_ble_eq_true rfl) (Nat.le_of_ble_eq_true rfl)) (Nat.le_of_ble_eq_true rfl) xs0 k (fun r12 h10 kk => ?_)
        obtain ⟨w11, k⟩ := kk
        refine aw_pop d_X8_readUnit_105 rfl ?_
        refine aw_iload_n (i := 3) rfl d_X8_readUnit_106 3 rfl ?_
        obtain ⟨z13, k⟩ := k
        exact aw_zret rfl (nf_z z13).1 d_X8_readUnit_107 ⟨Nat.le_refl _, Nat.le_refl _⟩ ⟨_, rfl, k⟩
      · have k := k.2 c6
        refine aw_aload_n (i := 0) rfl d_X8_readUnit_66 0 rfl ?_
        refine aw_iload_n (i := 1) rfl d_X8_readUnit_67 1 rfl ?_
        refine aw_iconst (v := 1) d_X8_readUnit_68 ic_1 ?_
        refine aw_iadd d_X8_readUnit_69 ?_
        refine aw_Vi 11 [.int (x1 + 1)] [] d_X8_readUnit_70 (cV_X8_readCondition (d + 58) 0 0) kc_8 (ws_11 w2) tw_733 rfl (rr0 (Nat.le_of_ble_eq_true rfl) (Nat.le_of_ble_eq_true rfl)) (Nat.le_of_ble_eq_true rfl) xs0 k (fun r16 h14 kk => ?_)
        obtain ⟨w15, k⟩ := kk
        refine aw_if_eq (tgt := 89) d_X8_readUnit_73 rfl (fun c17 => ?_) (fun c17 => ?_)
        · have k := k.1 c17
          refine aw_iconst (v := 0) d_X8_readUnit_89 ic_0 ?_
          exact aw_zret rfl rfl d_X8_readUnit_90 ⟨Nat.le_refl _, Nat.le_refl _⟩ ⟨_, rfl, k⟩
        · have k := k.2 c17
          refine aw_aload_n (i := 0) rfl d_X8_readUnit_76 0 rfl ?_
          refine aw_bipush (v := 41) d_X8_readUnit_77 ib_41 ?_
          refine aw_Vi 11 [.int 41] [] d_X8_readUnit_79 (cV_X8_expect (d + 1) 0 0) kc_8 (ws_11 w15) tw_719 rfl (rr0 (Nat.le_of_ble_eq_true rfl) (Nat.le_of_ble_eq_true rfl)) (Nat.le_of_ble_eq_true rfl) xs0 k (fun r20 h18 kk => ?_)
          obtain ⟨w19, k⟩ := kk
          refine aw_if_eq (tgt := 89) d_X8_readUnit_82 rfl (fun c21 => ?_) (fun c21 => ?_)
          · have k := k.1 c21
            refine aw_iconst (v := 0) d_X8_readUnit_89 ic_0 ?_
            exact aw_zret rfl rfl d_X8_readUnit_90 ⟨Nat.le_refl _, Nat.le_refl _⟩ ⟨_, rfl, k⟩
          · have k := k.2 c21
            refine aw_iconst (v := 1) d_X8_readUnit_85 ic_1 ?_
            refine aw_goto (tgt := 90) d_X8_readUnit_86 rfl ?_
            exact aw_zret rfl rfl d_X8_readUnit_90 ⟨Nat.le_refl _, Nat.le_refl _⟩ ⟨_, rfl, k⟩
    · have k := k.2 c5
      refine aw_aload_n (i := 0) rfl d_X8_readUnit_45 0 rfl ?_
      refine aw_Vi 11 [] [] d_X8_readUnit_46 (cV_X8_fail (d + 0) 0 0) kc_8 (ws_11 w2) tw_715 rfl (rr0 (Nat.le_of_ble_eq_true rfl) (Nat.le_of_ble_eq_true rfl)) (Nat.le_of_ble_eq_true rfl) xs0 k (fun r24 h22 kk => ?_)
      obtain ⟨w23, k⟩ := kk
      obtain ⟨z25, k⟩ := k
      exact aw_zret rfl (nf_z z25).1 d_X8_readUnit_49 ⟨Nat.le_refl _, Nat.le_refl _⟩ ⟨_, rfl, k⟩
  · have k := k.2 c4
    refine aw_iload_n (i := 2) rfl d_X8_readUnit_11 2 rfl ?_
    refine aw_bipush (v := 40) d_X8_readUnit_12 ib_40 ?_
    refine aw_icmp_eq (tgt := 39) d_X8_readUnit_14 rfl (fun c26 => ?_) (fun c26 => ?_)
    · have k := k.1 c26
      refine aw_iload_n (i := 1) rfl d_X8_readUnit_39 1 rfl ?_
      refine aw_bipush (v := 6) d_X8_readUnit_40 ib_6 ?_
      refine aw_icmp_lt (tgt := 50) d_X8_readUnit_42 rfl (fun c27 => ?_) (fun c27 => ?_)
      · have k := k.1 c27
        refine aw_aload_n (i := 0) rfl d_X8_readUnit_50 0 rfl ?_
        refine aw_dup d_X8_readUnit_51 rfl ?_
        refine aw_geti (k0 := 2) kc_8 (ws_11 w2) (Nat.le_of_ble_eq_true rfl) tw_62 d_X8_readUnit_52 rfl ?_
        refine aw_iconst (v := 1) d_X8_readUnit_55 ic_1 ?_
        refine aw_iadd d_X8_readUnit_56 ?_
        refine aw_puti (k0 := 2) kc_8 (ws_11 w2) (Nat.le_of_ble_eq_true rfl) tw_62 d_X8_readUnit_57 rfl rfl nf_i ?_
        refine aw_iload_n (i := 2) rfl d_X8_readUnit_60 2 rfl ?_
        refine aw_bipush (v := 40) d_X8_readUnit_61 ib_40 ?_
        refine aw_icmp_ne (tgt := 91) d_X8_readUnit_63 rfl (fun c28 => ?_) (fun c28 => ?_)
        · have k := k.1 c28
          refine aw_aload_n (i := 0) rfl d_X8_readUnit_91 0 rfl ?_
          refine aw_iload_n (i := 1) rfl d_X8_readUnit_92 1 rfl ?_
          refine aw_iconst (v := 1) d_X8_readUnit_93 ic_1 ?_
          refine aw_iadd d_X8_readUnit_94 ?_
          refine aw_Vi 11 [.int (x1 + 1)] [] d_X8_readUnit_95 (cV_X8_readUnit (d + 55) 0 0) kc_8 (ws_11 w2) tw_737 rfl (rr0 (Nat.le_of_ble_eq_true rfl) (Nat.le_of_ble_eq_true rfl)) (Nat.le_of_ble_eq_true rfl) xs0 k (fun r31 h29 kk => ?_)
          obtain ⟨w30, k⟩ := kk
          refine aw_istore_n (i := 3) rfl [(0, .ref 11), (1, .int x1), (2, .int r3), (3, .int r31)] d_X8_readUnit_98 (Nat.le_of_ble_eq_true rfl) rfl rfl ?_
          refine aw_aload_n (i := 0) rfl d_X8_readUnit_99 0 rfl ?_
          refine aw_iconst (v := 2) d_X8_readUnit_100 ic_2 ?_
          refine aw_iconst (v := 0) d_X8_readUnit_101 ic_0 ?_
          refine aw_Vi 11 [.int 2, .int 0] [] d_X8_readUnit_102 (cV_X8_emit (d + 1) 0 0) kc_8 (ws_11 w30) tw_753 rfl (rr0 (Nat.le_of_ble_eq_true rfl) (Nat.le_of_ble_eq_true rfl)) (Nat.le_of_ble_eq_true rfl) xs0 k (fun r34 h32 kk => ?_)
          obtain ⟨w33, k⟩ := kk
          refine aw_pop d_X8_readUnit_105 rfl ?_
          refine aw_iload_n (i := 3) rfl d_X8_readUnit_106 3 rfl ?_
          obtain ⟨z35, k⟩ := k
          exact aw_zret rfl (nf_z z35).1 d_X8_readUnit_107 ⟨Nat.le_refl _, Nat.le_refl _⟩ ⟨_, rfl, k⟩
        · have k := k.2 c28
          refine aw_aload_n (i := 0) rfl d_X8_readUnit_66 0 rfl ?_
          refine aw_iload_n (i := 1) rfl d_X8_readUnit_67 1 rfl ?_
          refine aw_iconst (v := 1) d_X8_readUnit_68 ic_1 ?_
          refine aw_iadd d_X8_readUnit_69 ?_
          refine aw_Vi 11 [.int (x1 + 1)] [] d_X8_readUnit_70 (cV_X8_readCondition (d + 58) 0 0) kc_8 (ws_11 w2) tw_733 rfl (rr0 (Nat.le_of_ble_eq_true rfl) (Nat.le_of_ble_eq_true rfl)) (Nat.le_of_ble_eq_true rfl) xs0 k (fun r38 h36 kk => ?_)
          obtain ⟨w37, k⟩ := kk
          refine aw_if_eq (tgt := 89) d_X8_readUnit_73 rfl (fun c39 => ?_) (fun c39 => ?_)
          · have k := k.1 c39
            refine aw_iconst (v := 0) d_X8_readUnit_89 ic_0 ?_
            exact aw_zret rfl rfl d_X8_readUnit_90 ⟨Nat.le_refl _, Nat.le_refl _⟩ ⟨_, rfl, k⟩
          · have k := k.2 c39
            refine aw_aload_n (i := 0) rfl d_X8_readUnit_76 0 rfl ?_
            refine aw_bipush (v := 41) d_X8_readUnit_77 ib_41 ?_
            refine aw_Vi 11 [.int 41] [] d_X8_readUnit_79 (cV_X8_expect (d + 1) 0 0) kc_8 (ws_11 w37) tw_719 rfl (rr0 (Nat.le_of_ble_eq_true rfl) (Nat.le_of_ble_eq_true rfl)) (Nat.le_of_ble_eq_true rfl) xs0 k (fun r42 h40 kk => ?_)
            obtain ⟨w41, k⟩ := kk
            refine aw_if_eq (tgt := 89) d_X8_readUnit_82 rfl (fun c43 => ?_) (fun c43 => ?_)
            · have k := k.1 c43
              refine aw_iconst (v := 0) d_X8_readUnit_89 ic_0 ?_
              exact aw_zret rfl rfl d_X8_readUnit_90 ⟨Nat.le_refl _, Nat.le_refl _⟩ ⟨_, rfl, k⟩
            · have k := k.2 c43
              refine aw_iconst (v := 1) d_X8_readUnit_85 ic_1 ?_
              refine aw_goto (tgt := 90) d_X8_readUnit_86 rfl ?_
              exact aw_zret rfl rfl d_X8_readUnit_90 ⟨Nat.le_refl _, Nat.le_refl _⟩ ⟨_, rfl, k⟩
      · have k := k.2 c27
        refine aw_aload_n (i := 0) rfl d_X8_readUnit_45 0 rfl ?_
        refine aw_Vi 11 [] [] d_X8_readUnit_46 (cV_X8_fail (d + 0) 0 0) kc_8 (ws_11 w2) tw_715 rfl (rr0 (Nat.le_of_ble_eq_true rfl) (Nat.le_of_ble_eq_true rfl)) (Nat.le_of_ble_eq_true rfl) xs0 k (fun r46 h44 kk => ?_)
        obtain ⟨w45, k⟩ := kk
        obtain ⟨z47, k⟩ := k
        exact aw_zret rfl (nf_z z47).1 d_X8_readUnit_49 ⟨Nat.le_refl _, Nat.le_refl _⟩ ⟨_, rfl, k⟩
    · have k := k.2 c26
      refine aw_aload_n (i := 0) rfl d_X8_readUnit_17 0 rfl ?_
      refine aw_iload_n (i := 1) rfl d_X8_readUnit_18 1 rfl ?_
      refine aw_Vi 11 [.int x1] [] d_X8_readUnit_19 (cV_X8_readSum (d + 53) 0 0) kc_8 (ws_11 w2) tw_741 rfl (rr0 (Nat.le_of_ble_eq_true rfl) (Nat.le_of_ble_eq_true rfl)) (Nat.le_of_ble_eq_true rfl) xs0 k (fun r50 h48 kk => ?_)
      obtain ⟨w49, k⟩ := kk
      refine aw_if_eq (tgt := 37) d_X8_readUnit_22 rfl (fun c51 => ?_) (fun c51 => ?_)
      · have k := k.1 c51
        refine aw_iconst (v := 0) d_X8_readUnit_37 ic_0 ?_
        exact aw_zret rfl rfl d_X8_readUnit_38 ⟨Nat.le_refl _, Nat.le_refl _⟩ ⟨_, rfl, k⟩
      · have k := k.2 c51
        refine aw_aload_n (i := 0) rfl d_X8_readUnit_25 0 rfl ?_
        refine aw_iload_n (i := 1) rfl d_X8_readUnit_26 1 rfl ?_
        refine aw_Vi 11 [.int x1] [] d_X8_readUnit_27 (cV_X8_readComparison (d + 54) 0 0) kc_8 (ws_11 w49) tw_844 rfl (rr0 (Nat.le_of_ble_eq_true rfl) (Nat.le_of_ble_eq_true rfl)) (Nat.le_of_ble_eq_true rfl) xs0 k (fun r54 h52 kk => ?_)
        obtain ⟨w53, k⟩ := kk
        refine aw_if_eq (tgt := 37) d_X8_readUnit_30 rfl (fun c55 => ?_) (fun c55 => ?_)
        · have k := k.1 c55
          refine aw_iconst (v := 0) d_X8_readUnit_37 ic_0 ?_
          exact aw_zret rfl rfl d_X8_readUnit_38 ⟨Nat.le_refl _, Nat.le_refl _⟩ ⟨_, rfl, k⟩
        · have k := k.2 c55
          refine aw_iconst (v := 1) d_X8_readUnit_33 ic_1 ?_
          refine aw_goto (tgt := 38) d_X8_readUnit_34 rfl ?_
          exact aw_zret rfl rfl d_X8_readUnit_38 ⟨Nat.le_refl _, Nat.le_refl _⟩ ⟨_, rfl, k⟩
theorem t_X8_readMoreUnits (d : Nat) (h : Hp_) (x1 : Int32) (K : Int32 → Hp_ → Prop) (k : AW (m_X8_readMoreUnits (d + 56) 0 0) 0 0 4 [(0, .ref 11), (1, .int x1), (2, .int 1), (3, .int 0)] [] h (kI K)) : Ci (m_X8_readMoreUnits (d + 56) 0 0) [.ref 11, .int x1] h K := by
  refine Ct.of (fun _ _ _ => trivial) pn_X8 (Nat.le_of_ble_eq_true rfl) ?_
  show AW (m_X8_readMoreUnits (d + 56) 0 0) 0 0 0 [(0, .ref 11), (1, .int x1)] [] h (kI K)
  refine aw_iconst (v := 1) d_X8_readMoreUnits_0 ic_1 ?_
  refine aw_istore_n (i := 2) rfl [(0, .ref 11), (1, .int x1), (2, .int 1)] d_X8_readMoreUnits_1 (Nat.le_of_ble_eq_true rfl) rfl rfl ?_
  refine aw_iconst (v := 0) d_X8_readMoreUnits_2 ic_0 ?_
  refine aw_istore_n (i := 3) rfl [(0, .ref 11), (1, .int x1), (2, .int 1), (3, .int 0)] d_X8_readMoreUnits_3 (Nat.le_of_ble_eq_true rfl) rfl rfl ?_
  exact k
theorem t_X8_readMoreUnits_4 (d : Nat) (h : Hp_) (w : Wf h) (x1 : Int32) (x2 : Int32) (x3 : Int32) (K : Int32 → Hp_ → Prop) (k : (160 ≤ x3 → (x2 = 0 ∨ x2 = 1) ∧ (K x2 h)) ∧ (¬ 160 ≤ x3 → (x2 = 0 → (x2 = 0 ∨ x2 = 1) ∧ (K x2 h)) ∧ (¬ x2 = 0 → Ci (m_X8_peek (d + 0) 0 0) [.ref 11] h (fun r7 h5 => Wf h5 ∧ ((¬ r7 = 38 → (x2 = 0 ∨ x2 = 1) ∧ (K x2 h5)) ∧ (r7 = 38 → Ci (m_X8_readUnit (d + 55) 0 0) [.ref 11, .int x1] (h_im h5 11 2 ((h_i h5 11 2) + 1)) (fun r12 h10 => Wf h10 ∧ (Ci (m_X8_emit (d + 1) 0 0) [.ref 11, .int 11, .int 0] h10 (fun r15 h13 => Wf h13 ∧ (AW (m_X8_readMoreUnits (d + 56) 0 0) 0 0 4 [(0, .ref 11), (1, .int x1), (2, .int r12), (3, .int (x3 + 1))] [] h13 (kI K))))))))))) : AW (m_X8_readMoreUnits (d + 56) 0 0) 0 0 4 [(0, .ref 11), (1, .int x1), (2, .int x2), (3, .int x3)] [] h (kI K) := by
  refine aw_iload_n (i := 3) rfl d_X8_readMoreUnits_4 3 rfl ?_
  refine aw_sipush (v := 160) d_X8_readMoreUnits_5 is_160 ?_
  refine aw_icmp_ge (tgt := 54) d_X8_readMoreUnits_8 rfl (fun c1 => ?_) (fun c1 => ?_)
  · have k := k.1 c1
    refine aw_iload_n (i := 2) rfl d_X8_readMoreUnits_54 2 rfl ?_
    obtain ⟨z2, k⟩ := k
    exact aw_zret rfl (nf_z z2).1 d_X8_readMoreUnits_55 ⟨Nat.le_refl _, Nat.le_refl _⟩ ⟨_, rfl, k⟩
  · have k := k.2 c1
    refine aw_iload_n (i := 2) rfl d_X8_readMoreUnits_11 2 rfl ?_
    refine aw_if_eq (tgt := 54) d_X8_readMoreUnits_12 rfl (fun c3 => ?_) (fun c3 => ?_)
    · have k := k.1 c3
      refine aw_iload_n (i := 2) rfl d_X8_readMoreUnits_54 2 rfl ?_
      obtain ⟨z4, k⟩ := k
      exact aw_zret rfl (nf_z z4).1 d_X8_readMoreUnits_55 ⟨Nat.le_refl _, Nat.le_refl _⟩ ⟨_, rfl, k⟩
    · have k := k.2 c3
      refine aw_aload_n (i := 0) rfl d_X8_readMoreUnits_15 0 rfl ?_
      refine aw_Vi 11 [] [] d_X8_readMoreUnits_16 (cV_X8_peek (d + 0) 0 0) kc_8 (ws_11 w) tw_685 rfl (rr0 (Nat.le_of_ble_eq_true rfl) (Nat.le_of_ble_eq_true rfl)) (Nat.le_of_ble_eq_true rfl) xs0 k (fun r7 h5 kk => ?_)
      obtain ⟨w6, k⟩ := kk
      refine aw_bipush (v := 38) d_X8_readMoreUnits_19 ib_38 ?_
      refine aw_icmp_ne (tgt := 54) d_X8_readMoreUnits_21 rfl (fun c8 => ?_) (fun c8 => ?_)
      · have k := k.1 c8
        refine aw_iload_n (i := 2) rfl d_X8_readMoreUnits_54 2 rfl ?_
        obtain ⟨z9, k⟩ := k
        exact aw_zret rfl (nf_z z9).1 d_X8_readMoreUnits_55 ⟨Nat.le_refl _, Nat.le_refl _⟩ ⟨_, rfl, k⟩
      · have k := k.2 c8
        refine aw_aload_n (i := 0) rfl d_X8_readMoreUnits_24 0 rfl ?_
        refine aw_dup d_X8_readMoreUnits_25 rfl ?_
        refine aw_geti (k0 := 2) kc_8 (ws_11 w6) (Nat.le_of_ble_eq_true rfl) tw_62 d_X8_readMoreUnits_26 rfl ?_
        refine aw_iconst (v := 1) d_X8_readMoreUnits_29 ic_1 ?_
        refine aw_iadd d_X8_readMoreUnits_30 ?_
        refine aw_puti (k0 := 2) kc_8 (ws_11 w6) (Nat.le_of_ble_eq_true rfl) tw_62 d_X8_readMoreUnits_31 rfl rfl nf_i ?_
        refine aw_aload_n (i := 0) rfl d_X8_readMoreUnits_34 0 rfl ?_
        refine aw_iload_n (i := 1) rfl d_X8_readMoreUnits_35 1 rfl ?_
        refine aw_Vi 11 [.int x1] [] d_X8_readMoreUnits_36 (cV_X8_readUnit (d + 55) 0 0) kc_8 (ws_11 w6) tw_737 rfl (rr0 (Nat.le_of_ble_eq_true rfl) (Nat.le_of_ble_eq_true rfl)) (Nat.le_of_ble_eq_true rfl) xs0 k (fun r12 h10 kk => ?_)
        obtain ⟨w11, k⟩ := kk
        refine aw_istore_n (i := 2) rfl [(0, .ref 11), (1, .int x1), (2, .int r12), (3, .int x3)] d_X8_readMoreUnits_39 (Nat.le_of_ble_eq_true rfl) rfl rfl ?_
        refine aw_aload_n (i := 0) rfl d_X8_readMoreUnits_40 0 rfl ?_
        refine aw_bipush (v := 11) d_X8_readMoreUnits_41 ib_11 ?_
        refine aw_iconst (v := 0) d_X8_readMoreUnits_43 ic_0 ?_
        refine aw_Vi 11 [.int 11, .int 0] [] d_X8_readMoreUnits_44 (cV_X8_emit (d + 1) 0 0) kc_8 (ws_11 w11) tw_753 rfl (rr0 (Nat.le_of_ble_eq_true rfl) (Nat.le_of_ble_eq_true rfl)) (Nat.le_of_ble_eq_true rfl) xs0 k (fun r15 h13 kk => ?_)
        obtain ⟨w14, k⟩ := kk
        refine aw_pop d_X8_readMoreUnits_47 rfl ?_
        refine aw_iinc (v := (x3 + 1)) [(0, .ref 11), (1, .int x1), (2, .int r12), (3, .int (x3 + 1))] d_X8_readMoreUnits_48 3 rfl rfl (Nat.le_of_ble_eq_true rfl) rfl rfl ?_
        refine aw_goto (tgt := 4) d_X8_readMoreUnits_51 rfl ?_
        exact k
theorem t_X8_readMoreParts (d : Nat) (h : Hp_) (w : Wf h) (x1 : Int32) (K : Int32 → Hp_ → Prop) (k : Ci (m_X8_readMoreUnits (d + 56) 0 0) [.ref 11, .int x1] h (fun r3 h1 => Wf h1 ∧ (AW (m_X8_readMoreParts (d + 57) 0 0) 0 0 8 [(0, .ref 11), (1, .int x1), (2, .int r3), (3, .int 0)] [] h1 (kI K)))) : Ci (m_X8_readMoreParts (d + 57) 0 0) [.ref 11, .int x1] h K := by
  refine Ct.of (fun _ _ _ => trivial) pn_X8 (Nat.le_of_ble_eq_true rfl) ?_
  show AW (m_X8_readMoreParts (d + 57) 0 0) 0 0 0 [(0, .ref 11), (1, .int x1)] [] h (kI K)
  refine aw_aload_n (i := 0) rfl d_X8_readMoreParts_0 0 rfl ?_
  refine aw_iload_n (i := 1) rfl d_X8_readMoreParts_1 1 rfl ?_
  refine aw_Vi 11 [.int x1] [] d_X8_readMoreParts_2 (cV_X8_readMoreUnits (d + 56) 0 0) kc_8 (ws_11 w) tw_855 rfl (rr0 (Nat.le_of_ble_eq_true rfl) (Nat.le_of_ble_eq_true rfl)) (Nat.le_of_ble_eq_true rfl) xs0 k (fun r3 h1 kk => ?_)
  obtain ⟨w2, k⟩ := kk
  refine aw_istore_n (i := 2) rfl [(0, .ref 11), (1, .int x1), (2, .int r3)] d_X8_readMoreParts_5 (Nat.le_of_ble_eq_true rfl) rfl rfl ?_
  refine aw_iconst (v := 0) d_X8_readMoreParts_6 ic_0 ?_
  refine aw_istore_n (i := 3) rfl [(0, .ref 11), (1, .int x1), (2, .int r3), (3, .int 0)] d_X8_readMoreParts_7 (Nat.le_of_ble_eq_true rfl) rfl rfl ?_
  exact k
theorem t_X8_readMoreParts_8 (d : Nat) (h : Hp_) (w : Wf h) (x1 : Int32) (x2 : Int32) (x3 : Int32) (K : Int32 → Hp_ → Prop) (k : (160 ≤ x3 → (x2 = 0 ∨ x2 = 1) ∧ (K x2 h)) ∧ (¬ 160 ≤ x3 → (x2 = 0 → (x2 = 0 ∨ x2 = 1) ∧ (K x2 h)) ∧ (¬ x2 = 0 → Ci (m_X8_peek (d + 0) 0 0) [.ref 11] h (fun r10 h8 => Wf h8 ∧ ((¬ r10 = 124 → (x2 = 0 ∨ x2 = 1) ∧ (K x2 h8)) ∧ (r10 = 124 → Ci (m_X8_readUnit (d + 55) 0 0) [.ref 11, .int x1] (h_im h8 11 2 ((h_i h8 11 2) + 1)) (fun r15 h13 => Wf h13 ∧ ((r15 = 0 → Ci (m_X8_emit (d + 1) 0 0) [.ref 11, .int 12, .int 0] h13 (fun r19 h17 => Wf h17 ∧ (AW (m_X8_readMoreParts (d + 57) 0 0) 0 0 8 [(0, .ref 11), (1, .int x1), (2, .int 0), (3, .int (x3 + 1))] [] h17 (kI K)))) ∧ (¬ r15 = 0 → Ci (m_X8_readMoreUnits (d + 56) 0 0) [.ref 11, .int x1] h13 (fun r22 h20 => Wf h20 ∧ ((r22 = 0 → Ci (m_X8_emit (d + 1) 0 0) [.ref 11, .int 12, .int 0] h20 (fun r26 h24 => Wf h24 ∧ (AW (m_X8_readMoreParts (d + 57) 0 0) 0 0 8 [(0, .ref 11), (1, .int x1), (2, .int 0), (3, .int (x3 + 1))] [] h24 (kI K)))) ∧ (¬ r22 = 0 → Ci (m_X8_emit (d + 1) 0 0) [.ref 11, .int 12, .int 0] h20 (fun r29 h27 => Wf h27 ∧ (AW (m_X8_readMoreParts (d + 57) 0 0) 0 0 8 [(0, .ref 11), (1, .int x1), (2, .int 1), (3, .int (x3 + 1))] [] h27 (kI K))))))))))))))) : AW (m_X8_readMoreParts (d + 57) 0 0) 0 0 8 [(0, .ref 11), (1, .int x1), (2, .int x2), (3, .int x3)] [] h (kI K) := by
  refine aw_iload_n (i := 3) rfl d_X8_readMoreParts_8 3 rfl ?_
  refine aw_sipush (v := 160) d_X8_readMoreParts_9 is_160 ?_
  refine aw_icmp_ge (tgt := 74) d_X8_readMoreParts_12 rfl (fun c4 => ?_) (fun c4 => ?_)
  · have k := k.1 c4
    refine aw_iload_n (i := 2) rfl d_X8_readMoreParts_74 2 rfl ?_
    obtain ⟨z5, k⟩ := k
    exact aw_zret rfl (nf_z z5).1 d_X8_readMoreParts_75 ⟨Nat.le_refl _, Nat.le_refl _⟩ ⟨_, rfl, k⟩
  · have k := k.2 c4
    refine aw_iload_n (i := 2) rfl d_X8_readMoreParts_15 2 rfl ?_
    refine aw_if_eq (tgt := 74) d_X8_readMoreParts_16 rfl (fun c6 => ?_) (fun c6 => ?_)
    · have k := k.1 c6
      refine aw_iload_n (i := 2) rfl d_X8_readMoreParts_74 2 rfl ?_
      obtain ⟨z7, k⟩ := k
      exact aw_zret rfl (nf_z z7).1 d_X8_readMoreParts_75 ⟨Nat.le_refl _, Nat.le_refl _⟩ ⟨_, rfl, k⟩
    · have k := k.2 c6
      refine aw_aload_n (i := 0) rfl d_X8_readMoreParts_19 0 rfl ?_
      refine aw_Vi 11 [] [] d_X8_readMoreParts_20 (cV_X8_peek (d + 0) 0 0) kc_8 (ws_11 w) tw_685 rfl (rr0 (Nat.le_of_ble_eq_true rfl) (Nat.le_of_ble_eq_true rfl)) (Nat.le_of_ble_eq_true rfl) xs0 k (fun r10 h8 kk => ?_)
      obtain ⟨w9, k⟩ := kk
      refine aw_bipush (v := 124) d_X8_readMoreParts_23 ib_124 ?_
      refine aw_icmp_ne (tgt := 74) d_X8_readMoreParts_25 rfl (fun c11 => ?_) (fun c11 => ?_)
      · have k := k.1 c11
        refine aw_iload_n (i := 2) rfl d_X8_readMoreParts_74 2 rfl ?_
        obtain ⟨z12, k⟩ := k
        exact aw_zret rfl (nf_z z12).1 d_X8_readMoreParts_75 ⟨Nat.le_refl _, Nat.le_refl _⟩ ⟨_, rfl, k⟩
      · have k := k.2 c11
        refine aw_aload_n (i := 0) rfl d_X8_readMoreParts_28 0 rfl ?_
        refine aw_dup d_X8_readMoreParts_29 rfl ?_
        refine aw_geti (k0 := 2) kc_8 (ws_11 w9) (Nat.le_of_ble_eq_true rfl) tw_62 d_X8_readMoreParts_30 rfl ?_
        refine aw_iconst (v := 1) d_X8_readMoreParts_33 ic_1 ?_
        refine aw_iadd d_X8_readMoreParts_34 ?_
        refine aw_puti (k0 := 2) kc_8 (ws_11 w9) (Nat.le_of_ble_eq_true rfl) tw_62 d_X8_readMoreParts_35 rfl rfl nf_i ?_
        refine aw_aload_n (i := 0) rfl d_X8_readMoreParts_38 0 rfl ?_
        refine aw_iload_n (i := 1) rfl d_X8_readMoreParts_39 1 rfl ?_
        refine aw_Vi 11 [.int x1] [] d_X8_readMoreParts_40 (cV_X8_readUnit (d + 55) 0 0) kc_8 (ws_11 w9) tw_737 rfl (rr0 (Nat.le_of_ble_eq_true rfl) (Nat.le_of_ble_eq_true rfl)) (Nat.le_of_ble_eq_true rfl) xs0 k (fun r15 h13 kk => ?_)
        obtain ⟨w14, k⟩ := kk
        refine aw_if_eq (tgt := 58) d_X8_readMoreParts_43 rfl (fun c16 => ?_) (fun c16 => ?_)
        · have k := k.1 c16
          refine aw_iconst (v := 0) d_X8_readMoreParts_58 ic_0 ?_
          refine aw_istore_n (i := 2) rfl [(0, .ref 11), (1, .int x1), (2, .int 0), (3, .int x3)] d_X8_readMoreParts_59 (Nat.le_of_ble_eq_true rfl) rfl rfl ?_
          refine aw_aload_n (i := 0) rfl d_X8_readMoreParts_60 0 rfl ?_
          refine aw_bipush (v := 12) d_X8_readMoreParts_61 ib_12 ?_
          refine aw_iconst (v := 0) d_X8_readMoreParts_63 ic_0 ?_
          refine aw_Vi 11 [.int 12, .int 0] [] d_X8_readMoreParts_64 (cV_X8_emit (d + 1) 0 0) kc_8 (ws_11 w14) tw_753 rfl (rr0 (Nat.le_of_ble_eq_true rfl) (Nat.le_of_ble_eq_true rfl)) (Nat.le_of_ble_eq_true rfl) xs0 k (fun r19 h17 kk => ?_)
          obtain ⟨w18, k⟩ := kk
          refine aw_pop d_X8_readMoreParts_67 rfl ?_
          refine aw_iinc (v := (x3 + 1)) [(0, .ref 11), (1, .int x1), (2, .int 0), (3, .int (x3 + 1))] d_X8_readMoreParts_68 3 rfl rfl (Nat.le_of_ble_eq_true rfl) rfl rfl ?_
          refine aw_goto (tgt := 8) d_X8_readMoreParts_71 rfl ?_
          exact k
        · have k := k.2 c16
          refine aw_aload_n (i := 0) rfl d_X8_readMoreParts_46 0 rfl ?_
          refine aw_iload_n (i := 1) rfl d_X8_readMoreParts_47 1 rfl ?_
          refine aw_Vi 11 [.int x1] [] d_X8_readMoreParts_48 (cV_X8_readMoreUnits (d + 56) 0 0) kc_8 (ws_11 w14) tw_855 rfl (rr0 (Nat.le_of_ble_eq_true rfl) (Nat.le_of_ble_eq_true rfl)) (Nat.le_of_ble_eq_true rfl) xs0 k (fun r22 h20 kk => ?_)
          obtain ⟨w21, k⟩ := kk
          refine aw_if_eq (tgt := 58) d_X8_readMoreParts_51 rfl (fun c23 => ?_) (fun c23 => ?_)
          · have k := k.1 c23
            refine aw_iconst (v := 0) d_X8_readMoreParts_58 ic_0 ?_
            refine aw_istore_n (i := 2) rfl [(0, .ref 11), (1, .int x1), (2, .int 0), (3, .int x3)] d_X8_readMoreParts_59 (Nat.le_of_ble_eq_true rfl) rfl rfl ?_
            refine aw_aload_n (i := 0) rfl d_X8_readMoreParts_60 0 rfl ?_
            refine aw_bipush (v := 12) d_X8_readMoreParts_61 ib_12 ?_
            refine aw_iconst (v := 0) d_X8_readMoreParts_63 ic_0 ?_
            refine aw_Vi 11 [.int 12, .int 0] [] d_X8_readMoreParts_64 (cV_X8_emit (d + 1) 0 0) kc_8 (ws_11 w21) tw_753 rfl (rr0 (Nat.le_of_ble_eq_true rfl) (Nat.le_of_ble_eq_true rfl)) (Nat.le_of_ble_eq_true rfl) xs0 k (fun r26 h24 kk => ?_)
            obtain ⟨w25, k⟩ := kk
            refine aw_pop d_X8_readMoreParts_67 rfl ?_
            refine aw_iinc (v := (x3 + 1)) [(0, .ref 11), (1, .int x1), (2, .int 0), (3, .int (x3 + 1))] d_X8_readMoreParts_68 3 rfl rfl (Nat.le_of_ble_eq_true rfl) rfl rfl ?_
            refine aw_goto (tgt := 8) d_X8_readMoreParts_71 rfl ?_
            exact k
          · have k := k.2 c23
            refine aw_iconst (v := 1) d_X8_readMoreParts_54 ic_1 ?_
            refine aw_goto (tgt := 59) d_X8_readMoreParts_55 rfl ?_
            refine aw_istore_n (i := 2) rfl [(0, .ref 11), (1, .int x1), (2, .int 1), (3, .int x3)] d_X8_readMoreParts_59 (Nat.le_of_ble_eq_true rfl) rfl rfl ?_
            refine aw_aload_n (i := 0) rfl d_X8_readMoreParts_60 0 rfl ?_
            refine aw_bipush (v := 12) d_X8_readMoreParts_61 ib_12 ?_
            refine aw_iconst (v := 0) d_X8_readMoreParts_63 ic_0 ?_
            refine aw_Vi 11 [.int 12, .int 0] [] d_X8_readMoreParts_64 (cV_X8_emit (d + 1) 0 0) kc_8 (ws_11 w21) tw_753 rfl (rr0 (Nat.le_of_ble_eq_true rfl) (Nat.le_of_ble_eq_true rfl)) (Nat.le_of_ble_eq_true rfl) xs0 k (fun r29 h27 kk => ?_)
            obtain ⟨w28, k⟩ := kk
            refine aw_pop d_X8_readMoreParts_67 rfl ?_
            refine aw_iinc (v := (x3 + 1)) [(0, .ref 11), (1, .int x1), (2, .int 1), (3, .int (x3 + 1))] d_X8_readMoreParts_68 3 rfl rfl (Nat.le_of_ble_eq_true rfl) rfl rfl ?_
            refine aw_goto (tgt := 8) d_X8_readMoreParts_71 rfl ?_
            exact k
theorem t_X8_readCondition (d : Nat) (h : Hp_) (w : Wf h) (x1 : Int32) (K : Int32 → Hp_ → Prop) (k : Ci (m_X8_readUnit (d + 55) 0 0) [.ref 11, .int x1] h (fun r3 h1 => Wf h1 ∧ ((r3 = 0 → K 0 h1) ∧ (¬ r3 = 0 → Ci (m_X8_readMoreParts (d + 57) 0 0) [.ref 11, .int x1] h1 (fun r7 h5 => Wf h5 ∧ ((r7 = 0 → K 0 h5) ∧ (¬ r7 = 0 → K 1 h5))))))) : Ci (m_X8_readCondition (d + 58) 0 0) [.ref 11, .int x1] h K := by
  refine Ct.of (fun _ _ _ => trivial) pn_X8 (Nat.le_of_ble_eq_true rfl) ?_
  show AW (m_X8_readCondition (d + 58) 0 0) 0 0 0 [(0, .ref 11), (1, .int x1)] [] h (kI K)
  refine aw_aload_n (i := 0) rfl d_X8_readCondition_0 0 rfl ?_
  refine aw_iload_n (i := 1) rfl d_X8_readCondition_1 1 rfl ?_
  refine aw_Vi 11 [.int x1] [] d_X8_readCondition_2 (cV_X8_readUnit (d + 55) 0 0) kc_8 (ws_11 w) tw_737 rfl (rr0 (Nat.le_of_ble_eq_true rfl) (Nat.le_of_ble_eq_true rfl)) (Nat.le_of_ble_eq_true rfl) xs0 k (fun r3 h1 kk => ?_)
  obtain ⟨w2, k⟩ := kk
  refine aw_if_eq (tgt := 20) d_X8_readCondition_5 rfl (fun c4 => ?_) (fun c4 => ?_)
  · have k := k.1 c4
    refine aw_iconst (v := 0) d_X8_readCondition_20 ic_0 ?_
    exact aw_zret rfl rfl d_X8_readCondition_21 ⟨Nat.le_refl _, Nat.le_refl _⟩ ⟨_, rfl, k⟩
  · have k := k.2 c4
    refine aw_aload_n (i := 0) rfl d_X8_readCondition_8 0 rfl ?_
    refine aw_iload_n (i := 1) rfl d_X8_readCondition_9 1 rfl ?_
    refine aw_Vi 11 [.int x1] [] d_X8_readCondition_10 (cV_X8_readMoreParts (d + 57) 0 0) kc_8 (ws_11 w2) tw_851 rfl (rr0 (Nat.le_of_ble_eq_true rfl) (Nat.le_of_ble_eq_true rfl)) (Nat.le_of_ble_eq_true rfl) xs0 k (fun r7 h5 kk => ?_)
    obtain ⟨w6, k⟩ := kk
    refine aw_if_eq (tgt := 20) d_X8_readCondition_13 rfl (fun c8 => ?_) (fun c8 => ?_)
    · have k := k.1 c8
      refine aw_iconst (v := 0) d_X8_readCondition_20 ic_0 ?_
      exact aw_zret rfl rfl d_X8_readCondition_21 ⟨Nat.le_refl _, Nat.le_refl _⟩ ⟨_, rfl, k⟩
    · have k := k.2 c8
      refine aw_iconst (v := 1) d_X8_readCondition_16 ic_1 ?_
      refine aw_goto (tgt := 21) d_X8_readCondition_17 rfl ?_
      exact aw_zret rfl rfl d_X8_readCondition_21 ⟨Nat.le_refl _, Nat.le_refl _⟩ ⟨_, rfl, k⟩
theorem t_X8_readPayAnswer (d : Nat) (h : Hp_) (w : Wf h)  (K : Int32 → Hp_ → Prop) (k : Ci (m_X8_expect (d + 1) 0 0) [.ref 11, .int 63] h (fun r3 h1 => Wf h1 ∧ ((¬ r3 = 0 → Ci (m_X8_emit (d + 1) 0 0) [.ref 11, .int 3, .int 0] h1 (fun r7 h5 => Wf h5 ∧ (Ci (m_X8_readSum (d + 53) 0 0) [.ref 11, .int 0] h5 (fun r10 h8 => Wf h8 ∧ ((¬ r10 = 0 → Cv (m_X8_endClause (d + 2) 0 0) [.ref 11, .int r7] h8 (fun h12 => Wf h12 ∧ (K 1 h12))) ∧ (r10 = 0 → K 0 h8)))))) ∧ (r3 = 0 → K 0 h1)))) : Ci (m_X8_readPayAnswer (d + 54) 0 0) [.ref 11] h K := by
  refine Ct.of (fun _ _ _ => trivial) pn_X8 (Nat.le_of_ble_eq_true rfl) ?_
  show AW (m_X8_readPayAnswer (d + 54) 0 0) 0 0 0 [(0, .ref 11)] [] h (kI K)
  refine aw_aload_n (i := 0) rfl d_X8_readPayAnswer_0 0 rfl ?_
  refine aw_bipush (v := 63) d_X8_readPayAnswer_1 ib_63 ?_
  refine aw_Vi 11 [.int 63] [] d_X8_readPayAnswer_3 (cV_X8_expect (d + 1) 0 0) kc_8 (ws_11 w) tw_719 rfl (rr0 (Nat.le_of_ble_eq_true rfl) (Nat.le_of_ble_eq_true rfl)) (Nat.le_of_ble_eq_true rfl) xs0 k (fun r3 h1 kk => ?_)
  obtain ⟨w2, k⟩ := kk
  refine aw_if_ne (tgt := 11) d_X8_readPayAnswer_6 rfl (fun c4 => ?_) (fun c4 => ?_)
  · have k := k.1 c4
    refine aw_aload_n (i := 0) rfl d_X8_readPayAnswer_11 0 rfl ?_
    refine aw_iconst (v := 3) d_X8_readPayAnswer_12 ic_3 ?_
    refine aw_iconst (v := 0) d_X8_readPayAnswer_13 ic_0 ?_
    refine aw_Vi 11 [.int 3, .int 0] [] d_X8_readPayAnswer_14 (cV_X8_emit (d + 1) 0 0) kc_8 (ws_11 w2) tw_753 rfl (rr0 (Nat.le_of_ble_eq_true rfl) (Nat.le_of_ble_eq_true rfl)) (Nat.le_of_ble_eq_true rfl) xs0 k (fun r7 h5 kk => ?_)
    obtain ⟨w6, k⟩ := kk
    refine aw_istore_n (i := 1) rfl [(0, .ref 11), (1, .int r7)] d_X8_readPayAnswer_17 (Nat.le_of_ble_eq_true rfl) rfl rfl ?_
    refine aw_aload_n (i := 0) rfl d_X8_readPayAnswer_18 0 rfl ?_
    refine aw_iconst (v := 0) d_X8_readPayAnswer_19 ic_0 ?_
    refine aw_Vi 11 [.int 0] [] d_X8_readPayAnswer_20 (cV_X8_readSum (d + 53) 0 0) kc_8 (ws_11 w6) tw_741 rfl (rr0 (Nat.le_of_ble_eq_true rfl) (Nat.le_of_ble_eq_true rfl)) (Nat.le_of_ble_eq_true rfl) xs0 k (fun r10 h8 kk => ?_)
    obtain ⟨w9, k⟩ := kk
    refine aw_if_ne (tgt := 28) d_X8_readPayAnswer_23 rfl (fun c11 => ?_) (fun c11 => ?_)
    · have k := k.1 c11
      refine aw_aload_n (i := 0) rfl d_X8_readPayAnswer_28 0 rfl ?_
      refine aw_iload_n (i := 1) rfl d_X8_readPayAnswer_29 1 rfl ?_
      refine aw_Vv 11 [.int r7] [] d_X8_readPayAnswer_30 (cV_X8_endClause (d + 2) 0 0) kc_8 (ws_11 w9) tw_860 rfl (rr0 (Nat.le_of_ble_eq_true rfl) (Nat.le_of_ble_eq_true rfl)) (Nat.le_of_ble_eq_true rfl) xs0 k (fun h12 kk => ?_)
      obtain ⟨w13, k⟩ := kk
      refine aw_iconst (v := 1) d_X8_readPayAnswer_33 ic_1 ?_
      exact aw_zret rfl rfl d_X8_readPayAnswer_34 ⟨Nat.le_refl _, Nat.le_refl _⟩ ⟨_, rfl, k⟩
    · have k := k.2 c11
      refine aw_iconst (v := 0) d_X8_readPayAnswer_26 ic_0 ?_
      exact aw_zret rfl rfl d_X8_readPayAnswer_27 ⟨Nat.le_refl _, Nat.le_refl _⟩ ⟨_, rfl, k⟩
  · have k := k.2 c4
    refine aw_iconst (v := 0) d_X8_readPayAnswer_9 ic_0 ?_
    exact aw_zret rfl rfl d_X8_readPayAnswer_10 ⟨Nat.le_refl _, Nat.le_refl _⟩ ⟨_, rfl, k⟩
theorem t_X8_readPayClause (d : Nat) (h : Hp_) (w : Wf h)  (K : Int32 → Hp_ → Prop) (k : Ci (m_X8_peek (d + 0) 0 0) [.ref 11] h (fun r3 h1 => Wf h1 ∧ ((r3 = 33 → Ci (m_X8_readCondition (d + 58) 0 0) [.ref 11, .int 0] h1 (fun r7 h5 => Wf h5 ∧ ((r7 = 0 → K 0 h5) ∧ (¬ r7 = 0 → Ci (m_X8_readPayAnswer (d + 54) 0 0) [.ref 11] h5 (fun r11 h9 => Wf h9 ∧ ((r11 = 0 → K 0 h9) ∧ (¬ r11 = 0 → K 1 h9))))))) ∧ (¬ r3 = 33 → (¬ r3 = 40 → Ci (m_X8_readSum (d + 53) 0 0) [.ref 11, .int 0] h1 (fun r16 h14 => Wf h14 ∧ ((¬ r16 = 0 → Ci (m_X8_peek (d + 0) 0 0) [.ref 11] h14 (fun r20 h18 => Wf h18 ∧ (Ci (m_X8_isComparison (d + 0) 0 0) [.int r20] h18 (fun r23 h21 => Wf h21 ∧ ((r23 = 0 → Cv (m_X8_endClause (d + 2) 0 0) [.ref 11, .int (-1)] h21 (fun h25 => Wf h25 ∧ (K 1 h25))) ∧ (¬ r23 = 0 → Ci (m_X8_readComparison (d + 54) 0 0) [.ref 11, .int 0] h21 (fun r30 h28 => Wf h28 ∧ ((r30 = 0 → K 0 h28) ∧ (¬ r30 = 0 → Ci (m_X8_readMoreParts (d + 57) 0 0) [.ref 11, .int 0] h28 (fun r34 h32 => Wf h32 ∧ ((r34 = 0 → K 0 h32) ∧ (¬ r34 = 0 → Ci (m_X8_readPayAnswer (d + 54) 0 0) [.ref 11] h32 (fun r38 h36 => Wf h36 ∧ ((r38 = 0 → K 0 h36) ∧ (¬ r38 = 0 → K 1 h36))))))))))))))) ∧ (r16 = 0 → K 0 h14)))) ∧ (r3 = 40 → Ci (m_X8_readCondition (d + 58) 0 0) [.ref 11, .int 0] h1 (fun r42 h40 => Wf h40 ∧ ((r42 = 0 → K 0 h40) ∧ (¬ r42 = 0 → Ci (m_X8_readPayAnswer (d + 54) 0 0) [.ref 11] h40 (fun r46 h44 => Wf h44 ∧ ((r46 = 0 → K 0 h44) ∧ (¬ r46 = 0 → K 1 h44))))))))))) : Ci (m_X8_readPayClause (d + 59) 0 0) [.ref 11] h K := by
  refine Ct.of (fun _ _ _ => trivial) pn_X8 (Nat.le_of_ble_eq_true rfl) ?_
  show AW (m_X8_readPayClause (d + 59) 0 0) 0 0 0 [(0, .ref 11)] [] h (kI K)
  refine aw_aload_n (i := 0) rfl d_X8_readPayClause_0 0 rfl ?_
  refine aw_Vi 11 [] [] d_X8_readPayClause_1 (cV_X8_peek (d + 0) 0 0) kc_8 (ws_11 w) tw_685 rfl (rr0 (Nat.le_of_ble_eq_true rfl) (Nat.le_of_ble_eq_true rfl)) (Nat.le_of_ble_eq_true rfl) xs0 k (fun r3 h1 kk => ?_)
  obtain ⟨w2, k⟩ := kk
  refine aw_istore_n (i := 1) rfl [(0, .ref 11), (1, .int r3)] d_X8_readPayClause_4 (Nat.le_of_ble_eq_true rfl) rfl rfl ?_
  refine aw_iload_n (i := 1) rfl d_X8_readPayClause_5 1 rfl ?_
  refine aw_bipush (v := 33) d_X8_readPayClause_6 ib_33 ?_
  refine aw_icmp_eq (tgt := 17) d_X8_readPayClause_8 rfl (fun c4 => ?_) (fun c4 => ?_)
  · have k := k.1 c4
    refine aw_aload_n (i := 0) rfl d_X8_readPayClause_17 0 rfl ?_
    refine aw_iconst (v := 0) d_X8_readPayClause_18 ic_0 ?_
    refine aw_Vi 11 [.int 0] [] d_X8_readPayClause_19 (cV_X8_readCondition (d + 58) 0 0) kc_8 (ws_11 w2) tw_733 rfl (rr0 (Nat.le_of_ble_eq_true rfl) (Nat.le_of_ble_eq_true rfl)) (Nat.le_of_ble_eq_true rfl) xs0 k (fun r7 h5 kk => ?_)
    obtain ⟨w6, k⟩ := kk
    refine aw_if_eq (tgt := 36) d_X8_readPayClause_22 rfl (fun c8 => ?_) (fun c8 => ?_)
    · have k := k.1 c8
      refine aw_iconst (v := 0) d_X8_readPayClause_36 ic_0 ?_
      exact aw_zret rfl rfl d_X8_readPayClause_37 ⟨Nat.le_refl _, Nat.le_refl _⟩ ⟨_, rfl, k⟩
    · have k := k.2 c8
      refine aw_aload_n (i := 0) rfl d_X8_readPayClause_25 0 rfl ?_
      refine aw_Vi 11 [] [] d_X8_readPayClause_26 (cV_X8_readPayAnswer (d + 54) 0 0) kc_8 (ws_11 w6) tw_868 rfl (rr0 (Nat.le_of_ble_eq_true rfl) (Nat.le_of_ble_eq_true rfl)) (Nat.le_of_ble_eq_true rfl) xs0 k (fun r11 h9 kk => ?_)
      obtain ⟨w10, k⟩ := kk
      refine aw_if_eq (tgt := 36) d_X8_readPayClause_29 rfl (fun c12 => ?_) (fun c12 => ?_)
      · have k := k.1 c12
        refine aw_iconst (v := 0) d_X8_readPayClause_36 ic_0 ?_
        exact aw_zret rfl rfl d_X8_readPayClause_37 ⟨Nat.le_refl _, Nat.le_refl _⟩ ⟨_, rfl, k⟩
      · have k := k.2 c12
        refine aw_iconst (v := 1) d_X8_readPayClause_32 ic_1 ?_
        refine aw_goto (tgt := 37) d_X8_readPayClause_33 rfl ?_
        exact aw_zret rfl rfl d_X8_readPayClause_37 ⟨Nat.le_refl _, Nat.le_refl _⟩ ⟨_, rfl, k⟩
  · have k := k.2 c4
    refine aw_iload_n (i := 1) rfl d_X8_readPayClause_11 1 rfl ?_
    refine aw_bipush (v := 40) d_X8_readPayClause_12 ib_40 ?_
    refine aw_icmp_ne (tgt := 38) d_X8_readPayClause_14 rfl (fun c13 => ?_) (fun c13 => ?_)
    · have k := k.1 c13
      refine aw_aload_n (i := 0) rfl d_X8_readPayClause_38 0 rfl ?_
      refine aw_iconst (v := 0) d_X8_readPayClause_39 ic_0 ?_
      refine aw_Vi 11 [.int 0] [] d_X8_readPayClause_40 (cV_X8_readSum (d + 53) 0 0) kc_8 (ws_11 w2) tw_741 rfl (rr0 (Nat.le_of_ble_eq_true rfl) (Nat.le_of_ble_eq_true rfl)) (Nat.le_of_ble_eq_true rfl) xs0 k (fun r16 h14 kk => ?_)
      obtain ⟨w15, k⟩ := kk
      refine aw_if_ne (tgt := 48) d_X8_readPayClause_43 rfl (fun c17 => ?_) (fun c17 => ?_)
      · have k := k.1 c17
        refine aw_aload_n (i := 0) rfl d_X8_readPayClause_48 0 rfl ?_
        refine aw_Vi 11 [] [] d_X8_readPayClause_49 (cV_X8_peek (d + 0) 0 0) kc_8 (ws_11 w15) tw_685 rfl (rr0 (Nat.le_of_ble_eq_true rfl) (Nat.le_of_ble_eq_true rfl)) (Nat.le_of_ble_eq_true rfl) xs0 k (fun r20 h18 kk => ?_)
        obtain ⟨w19, k⟩ := kk
        refine aw_Si [.int r20] [] d_X8_readPayClause_52 (cS_X8_isComparison (d + 0) 0 0) tw_848 rfl (rr0 (Nat.le_of_ble_eq_true rfl) (Nat.le_of_ble_eq_true rfl)) (Nat.le_of_ble_eq_true rfl) xs0 k (fun r23 h21 kk => ?_)
        obtain ⟨w22, k⟩ := kk
        refine aw_if_eq (tgt := 87) d_X8_readPayClause_55 rfl (fun c24 => ?_) (fun c24 => ?_)
        · have k := k.1 c24
          refine aw_aload_n (i := 0) rfl d_X8_readPayClause_87 0 rfl ?_
          refine aw_iconst (v := (-1)) d_X8_readPayClause_88 ic_m1 ?_
          refine aw_Vv 11 [.int (-1)] [] d_X8_readPayClause_89 (cV_X8_endClause (d + 2) 0 0) kc_8 (ws_11 w22) tw_860 rfl (rr0 (Nat.le_of_ble_eq_true rfl) (Nat.le_of_ble_eq_true rfl)) (Nat.le_of_ble_eq_true rfl) xs0 k (fun h25 kk => ?_)
          obtain ⟨w26, k⟩ := kk
          refine aw_iconst (v := 1) d_X8_readPayClause_92 ic_1 ?_
          exact aw_zret rfl rfl d_X8_readPayClause_93 ⟨Nat.le_refl _, Nat.le_refl _⟩ ⟨_, rfl, k⟩
        · have k := k.2 c24
          refine aw_aload_n (i := 0) rfl d_X8_readPayClause_58 0 rfl ?_
          refine aw_iconst (v := 0) d_X8_readPayClause_59 ic_0 ?_
          refine aw_Vi 11 [.int 0] [] d_X8_readPayClause_60 (cV_X8_readComparison (d + 54) 0 0) kc_8 (ws_11 w22) tw_844 rfl (rr0 (Nat.le_of_ble_eq_true rfl) (Nat.le_of_ble_eq_true rfl)) (Nat.le_of_ble_eq_true rfl) xs0 k (fun r30 h28 kk => ?_)
          obtain ⟨w29, k⟩ := kk
          refine aw_if_eq (tgt := 85) d_X8_readPayClause_63 rfl (fun c31 => ?_) (fun c31 => ?_)
          · have k := k.1 c31
            refine aw_iconst (v := 0) d_X8_readPayClause_85 ic_0 ?_
            exact aw_zret rfl rfl d_X8_readPayClause_86 ⟨Nat.le_refl _, Nat.le_refl _⟩ ⟨_, rfl, k⟩
          · have k := k.2 c31
            refine aw_aload_n (i := 0) rfl d_X8_readPayClause_66 0 rfl ?_
            refine aw_iconst (v := 0) d_X8_readPayClause_67 ic_0 ?_
            refine aw_Vi 11 [.int 0] [] d_X8_readPayClause_68 (cV_X8_readMoreParts (d + 57) 0 0) kc_8 (ws_11 w29) tw_851 rfl (rr0 (Nat.le_of_ble_eq_true rfl) (Nat.le_of_ble_eq_true rfl)) (Nat.le_of_ble_eq_true rfl) xs0 k (fun r34 h32 kk => ?_)
            obtain ⟨w33, k⟩ := kk
            refine aw_if_eq (tgt := 85) d_X8_readPayClause_71 rfl (fun c35 => ?_) (fun c35 => ?_)
            · have k := k.1 c35
              refine aw_iconst (v := 0) d_X8_readPayClause_85 ic_0 ?_
              exact aw_zret rfl rfl d_X8_readPayClause_86 ⟨Nat.le_refl _, Nat.le_refl _⟩ ⟨_, rfl, k⟩
            · have k := k.2 c35
              refine aw_aload_n (i := 0) rfl d_X8_readPayClause_74 0 rfl ?_
              refine aw_Vi 11 [] [] d_X8_readPayClause_75 (cV_X8_readPayAnswer (d + 54) 0 0) kc_8 (ws_11 w33) tw_868 rfl (rr0 (Nat.le_of_ble_eq_true rfl) (Nat.le_of_ble_eq_true rfl)) (Nat.le_of_ble_eq_true rfl) xs0 k (fun r38 h36 kk => ?_)
              obtain ⟨w37, k⟩ := kk
              refine aw_if_eq (tgt := 85) d_X8_readPayClause_78 rfl (fun c39 => ?_) (fun c39 => ?_)
              · have k := k.1 c39
                refine aw_iconst (v := 0) d_X8_readPayClause_85 ic_0 ?_
                exact aw_zret rfl rfl d_X8_readPayClause_86 ⟨Nat.le_refl _, Nat.le_refl _⟩ ⟨_, rfl, k⟩
              · have k := k.2 c39
                refine aw_iconst (v := 1) d_X8_readPayClause_81 ic_1 ?_
                refine aw_goto (tgt := 86) d_X8_readPayClause_82 rfl ?_
                exact aw_zret rfl rfl d_X8_readPayClause_86 ⟨Nat.le_refl _, Nat.le_refl _⟩ ⟨_, rfl, k⟩
      · have k := k.2 c17
        refine aw_iconst (v := 0) d_X8_readPayClause_46 ic_0 ?_
        exact aw_zret rfl rfl d_X8_readPayClause_47 ⟨Nat.le_refl _, Nat.le_refl _⟩ ⟨_, rfl, k⟩
    · have k := k.2 c13
      refine aw_aload_n (i := 0) rfl d_X8_readPayClause_17 0 rfl ?_
      refine aw_iconst (v := 0) d_X8_readPayClause_18 ic_0 ?_
      refine aw_Vi 11 [.int 0] [] d_X8_readPayClause_19 (cV_X8_readCondition (d + 58) 0 0) kc_8 (ws_11 w2) tw_733 rfl (rr0 (Nat.le_of_ble_eq_true rfl) (Nat.le_of_ble_eq_true rfl)) (Nat.le_of_ble_eq_true rfl) xs0 k (fun r42 h40 kk => ?_)
      obtain ⟨w41, k⟩ := kk
      refine aw_if_eq (tgt := 36) d_X8_readPayClause_22 rfl (fun c43 => ?_) (fun c43 => ?_)
      · have k := k.1 c43
        refine aw_iconst (v := 0) d_X8_readPayClause_36 ic_0 ?_
        exact aw_zret rfl rfl d_X8_readPayClause_37 ⟨Nat.le_refl _, Nat.le_refl _⟩ ⟨_, rfl, k⟩
      · have k := k.2 c43
        refine aw_aload_n (i := 0) rfl d_X8_readPayClause_25 0 rfl ?_
        refine aw_Vi 11 [] [] d_X8_readPayClause_26 (cV_X8_readPayAnswer (d + 54) 0 0) kc_8 (ws_11 w41) tw_868 rfl (rr0 (Nat.le_of_ble_eq_true rfl) (Nat.le_of_ble_eq_true rfl)) (Nat.le_of_ble_eq_true rfl) xs0 k (fun r46 h44 kk => ?_)
        obtain ⟨w45, k⟩ := kk
        refine aw_if_eq (tgt := 36) d_X8_readPayClause_29 rfl (fun c47 => ?_) (fun c47 => ?_)
        · have k := k.1 c47
          refine aw_iconst (v := 0) d_X8_readPayClause_36 ic_0 ?_
          exact aw_zret rfl rfl d_X8_readPayClause_37 ⟨Nat.le_refl _, Nat.le_refl _⟩ ⟨_, rfl, k⟩
        · have k := k.2 c47
          refine aw_iconst (v := 1) d_X8_readPayClause_32 ic_1 ?_
          refine aw_goto (tgt := 37) d_X8_readPayClause_33 rfl ?_
          exact aw_zret rfl rfl d_X8_readPayClause_37 ⟨Nat.le_refl _, Nat.le_refl _⟩ ⟨_, rfl, k⟩
theorem t_X8_readActClause (d : Nat) (h : Hp_) (w : Wf h)  (K : Int32 → Hp_ → Prop) (k : Ci (m_X8_readCondition (d + 58) 0 0) [.ref 11, .int 0] h (fun r3 h1 => Wf h1 ∧ ((r3 = 0 → K 0 h1) ∧ (¬ r3 = 0 → Ci (m_X8_expect (d + 1) 0 0) [.ref 11, .int 63] h1 (fun r7 h5 => Wf h5 ∧ ((¬ r7 = 0 → Ci (m_X8_emit (d + 1) 0 0) [.ref 11, .int 3, .int 0] h5 (fun r11 h9 => Wf h9 ∧ (Ci (m_X8_peek (d + 0) 0 0) [.ref 11] h9 (fun r14 h12 => Wf h12 ∧ ((¬ r14 = (-1) → Ci (m_J0_indexOf_0f7a4 (d + 3) 0 0) [.ref 1003, .int (((r14 : Int32).toUInt32 % 65536).toInt32)] h12 (fun r18 h16 => Wf h16 ∧ ((0 ≤ r18 → Ci (m_X8_emit (d + 1) 0 0) [.ref 11, .int 0, .int r18] (h_im h16 11 2 ((h_i h16 11 2) + 1)) (fun r22 h20 => Wf h20 ∧ (Cv (m_X8_endClause (d + 2) 0 0) [.ref 11, .int r11] h20 (fun h23 => Wf h23 ∧ (K 1 h23))))) ∧ (¬ 0 ≤ r18 → Ci (m_X8_fail (d + 0) 0 0) [.ref 11] h16 (fun r28 h26 => Wf h26 ∧ ((r28 = 0 ∨ r28 = 1) ∧ (K r28 h26))))))) ∧ (r14 = (-1) → Ci (m_X8_fail (d + 0) 0 0) [.ref 11] h12 (fun r33 h31 => Wf h31 ∧ ((r33 = 0 ∨ r33 = 1) ∧ (K r33 h31))))))))) ∧ (r7 = 0 → K 0 h5))))))) : Ci (m_X8_readActClause (d + 59) 0 0) [.ref 11] h K := by
  refine Ct.of (fun _ _ _ => trivial) pn_X8 (Nat.le_of_ble_eq_true rfl) ?_
  show AW (m_X8_readActClause (d + 59) 0 0) 0 0 0 [(0, .ref 11)] [] h (kI K)
  refine aw_aload_n (i := 0) rfl d_X8_readActClause_0 0 rfl ?_
  refine aw_iconst (v := 0) d_X8_readActClause_1 ic_0 ?_
  refine aw_Vi 11 [.int 0] [] d_X8_readActClause_2 (cV_X8_readCondition (d + 58) 0 0) kc_8 (ws_11 w) tw_733 rfl (rr0 (Nat.le_of_ble_eq_true rfl) (Nat.le_of_ble_eq_true rfl)) (Nat.le_of_ble_eq_true rfl) xs0 k (fun r3 h1 kk => ?_)
  obtain ⟨w2, k⟩ := kk
  refine aw_if_eq (tgt := 17) d_X8_readActClause_5 rfl (fun c4 => ?_) (fun c4 => ?_)
  · have k := k.1 c4
    refine aw_iconst (v := 0) d_X8_readActClause_17 ic_0 ?_
    exact aw_zret rfl rfl d_X8_readActClause_18 ⟨Nat.le_refl _, Nat.le_refl _⟩ ⟨_, rfl, k⟩
  · have k := k.2 c4
    refine aw_aload_n (i := 0) rfl d_X8_readActClause_8 0 rfl ?_
    refine aw_bipush (v := 63) d_X8_readActClause_9 ib_63 ?_
    refine aw_Vi 11 [.int 63] [] d_X8_readActClause_11 (cV_X8_expect (d + 1) 0 0) kc_8 (ws_11 w2) tw_719 rfl (rr0 (Nat.le_of_ble_eq_true rfl) (Nat.le_of_ble_eq_true rfl)) (Nat.le_of_ble_eq_true rfl) xs0 k (fun r7 h5 kk => ?_)
    obtain ⟨w6, k⟩ := kk
    refine aw_if_ne (tgt := 19) d_X8_readActClause_14 rfl (fun c8 => ?_) (fun c8 => ?_)
    · have k := k.1 c8
      refine aw_aload_n (i := 0) rfl d_X8_readActClause_19 0 rfl ?_
      refine aw_iconst (v := 3) d_X8_readActClause_20 ic_3 ?_
      refine aw_iconst (v := 0) d_X8_readActClause_21 ic_0 ?_
      refine aw_Vi 11 [.int 3, .int 0] [] d_X8_readActClause_22 (cV_X8_emit (d + 1) 0 0) kc_8 (ws_11 w6) tw_753 rfl (rr0 (Nat.le_of_ble_eq_true rfl) (Nat.le_of_ble_eq_true rfl)) (Nat.le_of_ble_eq_true rfl) xs0 k (fun r11 h9 kk => ?_)
      obtain ⟨w10, k⟩ := kk
      refine aw_istore_n (i := 1) rfl [(0, .ref 11), (1, .int r11)] d_X8_readActClause_25 (Nat.le_of_ble_eq_true rfl) rfl rfl ?_
      refine aw_aload_n (i := 0) rfl d_X8_readActClause_26 0 rfl ?_
      refine aw_Vi 11 [] [] d_X8_readActClause_27 (cV_X8_peek (d + 0) 0 0) kc_8 (ws_11 w10) tw_685 rfl (rr0 (Nat.le_of_ble_eq_true rfl) (Nat.le_of_ble_eq_true rfl)) (Nat.le_of_ble_eq_true rfl) xs0 k (fun r14 h12 kk => ?_)
      obtain ⟨w13, k⟩ := kk
      refine aw_istore_n (i := 2) rfl [(0, .ref 11), (1, .int r11), (2, .int r14)] d_X8_readActClause_30 (Nat.le_of_ble_eq_true rfl) rfl rfl ?_
      refine aw_iload_n (i := 2) rfl d_X8_readActClause_31 2 rfl ?_
      refine aw_iconst (v := (-1)) d_X8_readActClause_32 ic_m1 ?_
      refine aw_icmp_ne (tgt := 40) d_X8_readActClause_33 rfl (fun c15 => ?_) (fun c15 => ?_)
      · have k := k.1 c15
        refine aw_ldcT (row := 3) (n := 3) (q := 1003) d_X8_readActClause_40 rfl rfl ?_
        refine aw_iload_n (i := 2) rfl d_X8_readActClause_42 2 rfl ?_
        refine aw_i2c d_X8_readActClause_43 ?_
        refine aw_Ti (i := 3) [.int (((r14 : Int32).toUInt32 % 65536).toInt32)] [] (show 3 < 4 by decide) d_X8_readActClause_44 rfl (cV_J0_indexOf_0f7a4 (d + 3) 0 0) tw_760 rfl (rr0 (Nat.le_of_ble_eq_true rfl) (Nat.le_of_ble_eq_true rfl)) (Nat.le_of_ble_eq_true rfl) xs0 k (fun r18 h16 kk => ?_)
        obtain ⟨w17, k⟩ := kk
        refine aw_istore_n (i := 3) rfl [(0, .ref 11), (1, .int r11), (2, .int r14), (3, .int r18)] d_X8_readActClause_47 (Nat.le_of_ble_eq_true rfl) rfl rfl ?_
        refine aw_iload_n (i := 3) rfl d_X8_readActClause_48 3 rfl ?_
        refine aw_if_ge (tgt := 57) d_X8_readActClause_49 rfl (fun c19 => ?_) (fun c19 => ?_)
        · have k := k.1 c19
          refine aw_aload_n (i := 0) rfl d_X8_readActClause_57 0 rfl ?_
          refine aw_dup d_X8_readActClause_58 rfl ?_
          refine aw_geti (k0 := 2) kc_8 (ws_11 w17) (Nat.le_of_ble_eq_true rfl) tw_62 d_X8_readActClause_59 rfl ?_
          refine aw_iconst (v := 1) d_X8_readActClause_62 ic_1 ?_
          refine aw_iadd d_X8_readActClause_63 ?_
          refine aw_puti (k0 := 2) kc_8 (ws_11 w17) (Nat.le_of_ble_eq_true rfl) tw_62 d_X8_readActClause_64 rfl rfl nf_i ?_
          refine aw_aload_n (i := 0) rfl d_X8_readActClause_67 0 rfl ?_
          refine aw_iconst (v := 0) d_X8_readActClause_68 ic_0 ?_
          refine aw_iload_n (i := 3) rfl d_X8_readActClause_69 3 rfl ?_
          refine aw_Vi 11 [.int 0, .int r18] [] d_X8_readActClause_70 (cV_X8_emit (d + 1) 0 0) kc_8 (ws_11 w17) tw_753 rfl (rr0 (Nat.le_of_ble_eq_true rfl) (Nat.le_of_ble_eq_true rfl)) (Nat.le_of_ble_eq_true rfl) xs0 k (fun r22 h20 kk => ?_)
          obtain ⟨w21, k⟩ := kk
          refine aw_pop d_X8_readActClause_73 rfl ?_
          refine aw_aload_n (i := 0) rfl d_X8_readActClause_74 0 rfl ?_
          refine aw_iload_n (i := 1) rfl d_X8_readActClause_75 1 rfl ?_
          refine aw_Vv 11 [.int r11] [] d_X8_readActClause_76 (cV_X8_endClause (d + 2) 0 0) kc_8 (ws_11 w21) tw_860 rfl (rr0 (Nat.le_of_ble_eq_true rfl) (Nat.le_of_ble_eq_true rfl)) (Nat.le_of_ble_eq_true rfl) xs0 k (fun h23 kk => ?_)
          obtain ⟨w24, k⟩ := kk
          refine aw_iconst (v := 1) d_X8_readActClause_79 ic_1 ?_
          exact aw_zret rfl rfl d_X8_readActClause_80 ⟨Nat.le_refl _, Nat.le_refl _⟩ ⟨_, rfl, k⟩
        · have k := k.2 c19
          refine aw_aload_n (i := 0) rfl d_X8_readActClause_52 0 rfl ?_
          refine aw_Vi 11 [] [] d_X8_readActClause_53 (cV_X8_fail (d + 0) 0 0) kc_8 (ws_11 w17) tw_715 rfl (rr0 (Nat.le_of_ble_eq_true rfl) (Nat.le_of_ble_eq_true rfl)) (Nat.le_of_ble_eq_true rfl) xs0 k (fun r28 h26 kk => ?_)
          obtain ⟨w27, k⟩ := kk
          obtain ⟨z29, k⟩ := k
          exact aw_zret rfl (nf_z z29).1 d_X8_readActClause_56 ⟨Nat.le_refl _, Nat.le_refl _⟩ ⟨_, rfl, k⟩
      · have k := k.2 c15
        refine aw_iconst (v := (-1)) d_X8_readActClause_36 ic_m1 ?_
        refine aw_goto (tgt := 47) d_X8_readActClause_37 rfl ?_
        refine aw_istore_n (i := 3) rfl [(0, .ref 11), (1, .int r11), (2, .int r14), (3, .int (-1))] d_X8_readActClause_47 (Nat.le_of_ble_eq_true rfl) rfl rfl ?_
        refine aw_iload_n (i := 3) rfl d_X8_readActClause_48 3 rfl ?_
        refine aw_if_ge (tgt := 57) d_X8_readActClause_49 rfl (fun c => absurd c (by decide)) (fun _ => ?_)
        refine aw_aload_n (i := 0) rfl d_X8_readActClause_52 0 rfl ?_
        refine aw_Vi 11 [] [] d_X8_readActClause_53 (cV_X8_fail (d + 0) 0 0) kc_8 (ws_11 w13) tw_715 rfl (rr0 (Nat.le_of_ble_eq_true rfl) (Nat.le_of_ble_eq_true rfl)) (Nat.le_of_ble_eq_true rfl) xs0 k (fun r33 h31 kk => ?_)
        obtain ⟨w32, k⟩ := kk
        obtain ⟨z34, k⟩ := k
        exact aw_zret rfl (nf_z z34).1 d_X8_readActClause_56 ⟨Nat.le_refl _, Nat.le_refl _⟩ ⟨_, rfl, k⟩
    · have k := k.2 c8
      refine aw_iconst (v := 0) d_X8_readActClause_17 ic_0 ?_
      exact aw_zret rfl rfl d_X8_readActClause_18 ⟨Nat.le_refl _, Nat.le_refl _⟩ ⟨_, rfl, k⟩
theorem t_X8_readRule (d : Nat) (h : Hp_) (w : Wf h) (x1 : Int32) (K : Int32 → Hp_ → Prop) (k : (x1 = 0 → Cv (m_X8_restart (d + 0) 0 0) [.ref 11, .ref 1002] h (fun h2 => Wf h2 ∧ ((x1 = 0 → Ci (m_X8_readPayClause (d + 59) 0 0) [.ref 11] h2 (fun r8 h6 => Wf h6 ∧ (AW (m_X8_readRule (d + 60) 0 0) 0 0 33 [(0, .ref 11), (1, .int x1), (2, .int r8), (3, .int 0)] [] h6 (kI K)))) ∧ (¬ x1 = 0 → Ci (m_X8_readActClause (d + 59) 0 0) [.ref 11] h2 (fun r11 h9 => Wf h9 ∧ (AW (m_X8_readRule (d + 60) 0 0) 0 0 33 [(0, .ref 11), (1, .int x1), (2, .int r11), (3, .int 0)] [] h9 (kI K))))))) ∧ (¬ x1 = 0 → Cv (m_X8_restart (d + 0) 0 0) [.ref 11, .ref 1001] h (fun h12 => Wf h12 ∧ ((x1 = 0 → Ci (m_X8_readPayClause (d + 59) 0 0) [.ref 11] h12 (fun r18 h16 => Wf h16 ∧ (AW (m_X8_readRule (d + 60) 0 0) 0 0 33 [(0, .ref 11), (1, .int x1), (2, .int r18), (3, .int 0)] [] h16 (kI K)))) ∧ (¬ x1 = 0 → Ci (m_X8_readActClause (d + 59) 0 0) [.ref 11] h12 (fun r21 h19 => Wf h19 ∧ (AW (m_X8_readRule (d + 60) 0 0) 0 0 33 [(0, .ref 11), (1, .int x1), (2, .int r21), (3, .int 0)] [] h19 (kI K)))))))) : Ci (m_X8_readRule (d + 60) 0 0) [.ref 11, .int x1] h K := by
  refine Ct.of (fun _ _ _ => trivial) pn_X8 (Nat.le_of_ble_eq_true rfl) ?_
  show AW (m_X8_readRule (d + 60) 0 0) 0 0 0 [(0, .ref 11), (1, .int x1)] [] h (kI K)
  refine aw_aload_n (i := 0) rfl d_X8_readRule_0 0 rfl ?_
  refine aw_iload_n (i := 1) rfl d_X8_readRule_1 1 rfl ?_
  refine aw_if_eq (tgt := 10) d_X8_readRule_2 rfl (fun c1 => ?_) (fun c1 => ?_)
  · have k := k.1 c1
    refine aw_ldcT (row := 2) (n := 2) (q := 1002) d_X8_readRule_10 rfl rfl ?_
    refine aw_Vv 11 [.ref 1002] [] d_X8_readRule_12 (cV_X8_restart (d + 0) 0 0) kc_8 (ws_11 w) tw_673 rfl (rr0 (Nat.le_of_ble_eq_true rfl) (Nat.le_of_ble_eq_true rfl)) (Nat.le_of_ble_eq_true rfl) xs0 k (fun h2 kk => ?_)
    obtain ⟨w3, k⟩ := kk
    refine aw_iload_n (i := 1) rfl d_X8_readRule_15 1 rfl ?_
    refine aw_if_eq (tgt := 26) d_X8_readRule_16 rfl (fun c5 => ?_) (fun c5 => ?_)
    · have k := k.1 c5
      refine aw_aload_n (i := 0) rfl d_X8_readRule_26 0 rfl ?_
      refine aw_Vi 11 [] [] d_X8_readRule_27 (cV_X8_readPayClause (d + 59) 0 0) kc_8 (ws_11 w3) tw_864 rfl (rr0 (Nat.le_of_ble_eq_true rfl) (Nat.le_of_ble_eq_true rfl)) (Nat.le_of_ble_eq_true rfl) xs0 k (fun r8 h6 kk => ?_)
      obtain ⟨w7, k⟩ := kk
      refine aw_istore_n (i := 2) rfl [(0, .ref 11), (1, .int x1), (2, .int r8)] d_X8_readRule_30 (Nat.le_of_ble_eq_true rfl) rfl rfl ?_
      refine aw_iconst (v := 0) d_X8_readRule_31 ic_0 ?_
      refine aw_istore_n (i := 3) rfl [(0, .ref 11), (1, .int x1), (2, .int r8), (3, .int 0)] d_X8_readRule_32 (Nat.le_of_ble_eq_true rfl) rfl rfl ?_
      exact k
    · have k := k.2 c5
      refine aw_aload_n (i := 0) rfl d_X8_readRule_19 0 rfl ?_
      refine aw_Vi 11 [] [] d_X8_readRule_20 (cV_X8_readActClause (d + 59) 0 0) kc_8 (ws_11 w3) tw_729 rfl (rr0 (Nat.le_of_ble_eq_true rfl) (Nat.le_of_ble_eq_true rfl)) (Nat.le_of_ble_eq_true rfl) xs0 k (fun r11 h9 kk => ?_)
      obtain ⟨w10, k⟩ := kk
      refine aw_goto (tgt := 30) d_X8_readRule_23 rfl ?_
      refine aw_istore_n (i := 2) rfl [(0, .ref 11), (1, .int x1), (2, .int r11)] d_X8_readRule_30 (Nat.le_of_ble_eq_true rfl) rfl rfl ?_
      refine aw_iconst (v := 0) d_X8_readRule_31 ic_0 ?_
      refine aw_istore_n (i := 3) rfl [(0, .ref 11), (1, .int x1), (2, .int r11), (3, .int 0)] d_X8_readRule_32 (Nat.le_of_ble_eq_true rfl) rfl rfl ?_
      exact k
  · have k := k.2 c1
    refine aw_ldcT (row := 1) (n := 1) (q := 1001) d_X8_readRule_5 rfl rfl ?_
    refine aw_goto (tgt := 12) d_X8_readRule_7 rfl ?_
    refine aw_Vv 11 [.ref 1001] [] d_X8_readRule_12 (cV_X8_restart (d + 0) 0 0) kc_8 (ws_11 w) tw_673 rfl (rr0 (Nat.le_of_ble_eq_true rfl) (Nat.le_of_ble_eq_true rfl)) (Nat.le_of_ble_eq_true rfl) xs0 k (fun h12 kk => ?_)
    obtain ⟨w13, k⟩ := kk
    refine aw_iload_n (i := 1) rfl d_X8_readRule_15 1 rfl ?_
    refine aw_if_eq (tgt := 26) d_X8_readRule_16 rfl (fun c15 => ?_) (fun c15 => ?_)
    · have k := k.1 c15
      refine aw_aload_n (i := 0) rfl d_X8_readRule_26 0 rfl ?_
      refine aw_Vi 11 [] [] d_X8_readRule_27 (cV_X8_readPayClause (d + 59) 0 0) kc_8 (ws_11 w13) tw_864 rfl (rr0 (Nat.le_of_ble_eq_true rfl) (Nat.le_of_ble_eq_true rfl)) (Nat.le_of_ble_eq_true rfl) xs0 k (fun r18 h16 kk => ?_)
      obtain ⟨w17, k⟩ := kk
      refine aw_istore_n (i := 2) rfl [(0, .ref 11), (1, .int x1), (2, .int r18)] d_X8_readRule_30 (Nat.le_of_ble_eq_true rfl) rfl rfl ?_
      refine aw_iconst (v := 0) d_X8_readRule_31 ic_0 ?_
      refine aw_istore_n (i := 3) rfl [(0, .ref 11), (1, .int x1), (2, .int r18), (3, .int 0)] d_X8_readRule_32 (Nat.le_of_ble_eq_true rfl) rfl rfl ?_
      exact k
    · have k := k.2 c15
      refine aw_aload_n (i := 0) rfl d_X8_readRule_19 0 rfl ?_
      refine aw_Vi 11 [] [] d_X8_readRule_20 (cV_X8_readActClause (d + 59) 0 0) kc_8 (ws_11 w13) tw_729 rfl (rr0 (Nat.le_of_ble_eq_true rfl) (Nat.le_of_ble_eq_true rfl)) (Nat.le_of_ble_eq_true rfl) xs0 k (fun r21 h19 kk => ?_)
      obtain ⟨w20, k⟩ := kk
      refine aw_goto (tgt := 30) d_X8_readRule_23 rfl ?_
      refine aw_istore_n (i := 2) rfl [(0, .ref 11), (1, .int x1), (2, .int r21)] d_X8_readRule_30 (Nat.le_of_ble_eq_true rfl) rfl rfl ?_
      refine aw_iconst (v := 0) d_X8_readRule_31 ic_0 ?_
      refine aw_istore_n (i := 3) rfl [(0, .ref 11), (1, .int x1), (2, .int r21), (3, .int 0)] d_X8_readRule_32 (Nat.le_of_ble_eq_true rfl) rfl rfl ?_
      exact k
theorem t_X8_readRule_33 (d : Nat) (h : Hp_) (w : Wf h) (x1 : Int32) (x2 : Int32) (x3 : Int32) (K : Int32 → Hp_ → Prop) (k : (160 ≤ x3 → (x2 = 0 → K (h_i h 11 3) h) ∧ (¬ x2 = 0 → Ci (m_X8_peek (d + 0) 0 0) [.ref 11] h (fun r26 h24 => Wf h24 ∧ ((r26 = (-1) → K (h_i h24 11 3) h24) ∧ (¬ r26 = (-1) → Ci (m_X8_fail (d + 0) 0 0) [.ref 11] h24 (fun r30 h28 => Wf h28 ∧ (K (h_i h28 11 3) h28))))))) ∧ (¬ 160 ≤ x3 → (x2 = 0 → (x2 = 0 → K (h_i h 11 3) h) ∧ (¬ x2 = 0 → Ci (m_X8_peek (d + 0) 0 0) [.ref 11] h (fun r35 h33 => Wf h33 ∧ ((r35 = (-1) → K (h_i h33 11 3) h33) ∧ (¬ r35 = (-1) → Ci (m_X8_fail (d + 0) 0 0) [.ref 11] h33 (fun r39 h37 => Wf h37 ∧ (K (h_i h37 11 3) h37))))))) ∧ (¬ x2 = 0 → Ci (m_X8_peek (d + 0) 0 0) [.ref 11] h (fun r42 h40 => Wf h40 ∧ ((¬ r42 = 59 → (x2 = 0 → K (h_i h40 11 3) h40) ∧ (¬ x2 = 0 → Ci (m_X8_peek (d + 0) 0 0) [.ref 11] h40 (fun r47 h45 => Wf h45 ∧ ((r47 = (-1) → K (h_i h45 11 3) h45) ∧ (¬ r47 = (-1) → Ci (m_X8_fail (d + 0) 0 0) [.ref 11] h45 (fun r51 h49 => Wf h49 ∧ (K (h_i h49 11 3) h49))))))) ∧ (r42 = 59 → (x1 = 0 → Ci (m_X8_readPayClause (d + 59) 0 0) [.ref 11] (h_im h40 11 2 ((h_i h40 11 2) + 1)) (fun r55 h53 => Wf h53 ∧ (AW (m_X8_readRule (d + 60) 0 0) 0 0 33 [(0, .ref 11), (1, .int x1), (2, .int r55), (3, .int (x3 + 1))] [] h53 (kI K)))) ∧ (¬ x1 = 0 → Ci (m_X8_readActClause (d + 59) 0 0) [.ref 11] (h_im h40 11 2 ((h_i h40 11 2) + 1)) (fun r58 h56 => Wf h56 ∧ (AW (m_X8_readRule (d + 60) 0 0) 0 0 33 [(0, .ref 11), (1, .int x1), (2, .int r58), (3, .int (x3 + 1))] [] h56 (kI K)))))))))) : AW (m_X8_readRule (d + 60) 0 0) 0 0 33 [(0, .ref 11), (1, .int x1), (2, .int x2), (3, .int x3)] [] h (kI K) := by
  refine aw_iload_n (i := 3) rfl d_X8_readRule_33 3 rfl ?_
  refine aw_sipush (v := 160) d_X8_readRule_34 is_160 ?_
  refine aw_icmp_ge (tgt := 85) d_X8_readRule_37 rfl (fun c22 => ?_) (fun c22 => ?_)
  · have k := k.1 c22
    refine aw_iload_n (i := 2) rfl d_X8_readRule_85 2 rfl ?_
    refine aw_if_eq (tgt := 102) d_X8_readRule_86 rfl (fun c23 => ?_) (fun c23 => ?_)
    · have k := k.1 c23
      refine aw_aload_n (i := 0) rfl d_X8_readRule_102 0 rfl ?_
      refine aw_geti (k0 := 3) kc_8 (ws_11 w) (Nat.le_of_ble_eq_true rfl) tw_63 d_X8_readRule_103 rfl ?_
      exact aw_iret rfl d_X8_readRule_106 ⟨Nat.le_refl _, Nat.le_refl _⟩ ⟨_, rfl, k⟩
    · have k := k.2 c23
      refine aw_aload_n (i := 0) rfl d_X8_readRule_89 0 rfl ?_
      refine aw_Vi 11 [] [] d_X8_readRule_90 (cV_X8_peek (d + 0) 0 0) kc_8 (ws_11 w) tw_685 rfl (rr0 (Nat.le_of_ble_eq_true rfl) (Nat.le_of_ble_eq_true rfl)) (Nat.le_of_ble_eq_true rfl) xs0 k (fun r26 h24 kk => ?_)
      obtain ⟨w25, k⟩ := kk
      refine aw_iconst (v := (-1)) d_X8_readRule_93 ic_m1 ?_
      refine aw_icmp_eq (tgt := 102) d_X8_readRule_94 rfl (fun c27 => ?_) (fun c27 => ?_)
      · have k := k.1 c27
        refine aw_aload_n (i := 0) rfl d_X8_readRule_102 0 rfl ?_
        refine aw_geti (k0 := 3) kc_8 (ws_11 w25) (Nat.le_of_ble_eq_true rfl) tw_63 d_X8_readRule_103 rfl ?_
        exact aw_iret rfl d_X8_readRule_106 ⟨Nat.le_refl _, Nat.le_refl _⟩ ⟨_, rfl, k⟩
      · have k := k.2 c27
        refine aw_aload_n (i := 0) rfl d_X8_readRule_97 0 rfl ?_
        refine aw_Vi 11 [] [] d_X8_readRule_98 (cV_X8_fail (d + 0) 0 0) kc_8 (ws_11 w25) tw_715 rfl (rr0 (Nat.le_of_ble_eq_true rfl) (Nat.le_of_ble_eq_true rfl)) (Nat.le_of_ble_eq_true rfl) xs0 k (fun r30 h28 kk => ?_)
        obtain ⟨w29, k⟩ := kk
        refine aw_pop d_X8_readRule_101 rfl ?_
        refine aw_aload_n (i := 0) rfl d_X8_readRule_102 0 rfl ?_
        refine aw_geti (k0 := 3) kc_8 (ws_11 w29) (Nat.le_of_ble_eq_true rfl) tw_63 d_X8_readRule_103 rfl ?_
        exact aw_iret rfl d_X8_readRule_106 ⟨Nat.le_refl _, Nat.le_refl _⟩ ⟨_, rfl, k⟩
  · have k := k.2 c22
    refine aw_iload_n (i := 2) rfl d_X8_readRule_40 2 rfl ?_
    refine aw_if_eq (tgt := 85) d_X8_readRule_41 rfl (fun c31 => ?_) (fun c31 => ?_)
    · have k := k.1 c31
      refine aw_iload_n (i := 2) rfl d_X8_readRule_85 2 rfl ?_
      refine aw_if_eq (tgt := 102) d_X8_readRule_86 rfl (fun c32 => ?_) (fun c32 => ?_)
      · have k := k.1 c32
        refine aw_aload_n (i := 0) rfl d_X8_readRule_102 0 rfl ?_
        refine aw_geti (k0 := 3) kc_8 (ws_11 w) (Nat.le_of_ble_eq_true rfl) tw_63 d_X8_readRule_103 rfl ?_
        exact aw_iret rfl d_X8_readRule_106 ⟨Nat.le_refl _, Nat.le_refl _⟩ ⟨_, rfl, k⟩
      · have k := k.2 c32
        refine aw_aload_n (i := 0) rfl d_X8_readRule_89 0 rfl ?_
        refine aw_Vi 11 [] [] d_X8_readRule_90 (cV_X8_peek (d + 0) 0 0) kc_8 (ws_11 w) tw_685 rfl (rr0 (Nat.le_of_ble_eq_true rfl) (Nat.le_of_ble_eq_true rfl)) (Nat.le_of_ble_eq_true rfl) xs0 k (fun r35 h33 kk => ?_)
        obtain ⟨w34, k⟩ := kk
        refine aw_iconst (v := (-1)) d_X8_readRule_93 ic_m1 ?_
        refine aw_icmp_eq (tgt := 102) d_X8_readRule_94 rfl (fun c36 => ?_) (fun c36 => ?_)
        · have k := k.1 c36
          refine aw_aload_n (i := 0) rfl d_X8_readRule_102 0 rfl ?_
          refine aw_geti (k0 := 3) kc_8 (ws_11 w34) (Nat.le_of_ble_eq_true rfl) tw_63 d_X8_readRule_103 rfl ?_
          exact aw_iret rfl d_X8_readRule_106 ⟨Nat.le_refl _, Nat.le_refl _⟩ ⟨_, rfl, k⟩
        · have k := k.2 c36
          refine aw_aload_n (i := 0) rfl d_X8_readRule_97 0 rfl ?_
          refine aw_Vi 11 [] [] d_X8_readRule_98 (cV_X8_fail (d + 0) 0 0) kc_8 (ws_11 w34) tw_715 rfl (rr0 (Nat.le_of_ble_eq_true rfl) (Nat.le_of_ble_eq_true rfl)) (Nat.le_of_ble_eq_true rfl) xs0 k (fun r39 h37 kk => ?_)
          obtain ⟨w38, k⟩ := kk
          refine aw_pop d_X8_readRule_101 rfl ?_
          refine aw_aload_n (i := 0) rfl d_X8_readRule_102 0 rfl ?_
          refine aw_geti (k0 := 3) kc_8 (ws_11 w38) (Nat.le_of_ble_eq_true rfl) tw_63 d_X8_readRule_103 rfl ?_
          exact aw_iret rfl d_X8_readRule_106 ⟨Nat.le_refl _, Nat.le_refl _⟩ ⟨_, rfl, k⟩
    · have k := k.2 c31
      refine aw_aload_n (i := 0) rfl d_X8_readRule_44 0 rfl ?_
      refine aw_Vi 11 [] [] d_X8_readRule_45 (cV_X8_peek (d + 0) 0 0) kc_8 (ws_11 w) tw_685 rfl (rr0 (Nat.le_of_ble_eq_true rfl) (Nat.le_of_ble_eq_true rfl)) (Nat.le_of_ble_eq_true rfl) xs0 k (fun r42 h40 kk => ?_)
      obtain ⟨w41, k⟩ := kk
      refine aw_bipush (v := 59) d_X8_readRule_48 ib_59 ?_
      refine aw_icmp_ne (tgt := 85) d_X8_readRule_50 rfl (fun c43 => ?_) (fun c43 => ?_)
      · have k := k.1 c43
        refine aw_iload_n (i := 2) rfl d_X8_readRule_85 2 rfl ?_
        refine aw_if_eq (tgt := 102) d_X8_readRule_86 rfl (fun c44 => ?_) (fun c44 => ?_)
        · have k := k.1 c44
          refine aw_aload_n (i := 0) rfl d_X8_readRule_102 0 rfl ?_
          refine aw_geti (k0 := 3) kc_8 (ws_11 w41) (Nat.le_of_ble_eq_true rfl) tw_63 d_X8_readRule_103 rfl ?_
          exact aw_iret rfl d_X8_readRule_106 ⟨Nat.le_refl _, Nat.le_refl _⟩ ⟨_, rfl, k⟩
        · have k := k.2 c44
          refine aw_aload_n (i := 0) rfl d_X8_readRule_89 0 rfl ?_
          refine aw_Vi 11 [] [] d_X8_readRule_90 (cV_X8_peek (d + 0) 0 0) kc_8 (ws_11 w41) tw_685 rfl (rr0 (Nat.le_of_ble_eq_true rfl) (Nat.le_of_ble_eq_true rfl)) (Nat.le_of_ble_eq_true rfl) xs0 k (fun r47 h45 kk => ?_)
          obtain ⟨w46, k⟩ := kk
          refine aw_iconst (v := (-1)) d_X8_readRule_93 ic_m1 ?_
          refine aw_icmp_eq (tgt := 102) d_X8_readRule_94 rfl (fun c48 => ?_) (fun c48 => ?_)
          · have k := k.1 c48
            refine aw_aload_n (i := 0) rfl d_X8_readRule_102 0 rfl ?_
            refine aw_geti (k0 := 3) kc_8 (ws_11 w46) (Nat.le_of_ble_eq_true rfl) tw_63 d_X8_readRule_103 rfl ?_
            exact aw_iret rfl d_X8_readRule_106 ⟨Nat.le_refl _, Nat.le_refl _⟩ ⟨_, rfl, k⟩
          · have k := k.2 c48
            refine aw_aload_n (i := 0) rfl d_X8_readRule_97 0 rfl ?_
            refine aw_Vi 11 [] [] d_X8_readRule_98 (cV_X8_fail (d + 0) 0 0) kc_8 (ws_11 w46) tw_715 rfl (rr0 (Nat.le_of_ble_eq_true rfl) (Nat.le_of_ble_eq_true rfl)) (Nat.le_of_ble_eq_true rfl) xs0 k (fun r51 h49 kk => ?_)
            obtain ⟨w50, k⟩ := kk
            refine aw_pop d_X8_readRule_101 rfl ?_
            refine aw_aload_n (i := 0) rfl d_X8_readRule_102 0 rfl ?_
            refine aw_geti (k0 := 3) kc_8 (ws_11 w50) (Nat.le_of_ble_eq_true rfl) tw_63 d_X8_readRule_103 rfl ?_
            exact aw_iret rfl d_X8_readRule_106 ⟨Nat.le_refl _, Nat.le_refl _⟩ ⟨_, rfl, k⟩
      · have k := k.2 c43
        refine aw_aload_n (i := 0) rfl d_X8_readRule_53 0 rfl ?_
        refine aw_dup d_X8_readRule_54 rfl ?_
        refine aw_geti (k0 := 2) kc_8 (ws_11 w41) (Nat.le_of_ble_eq_true rfl) tw_62 d_X8_readRule_55 rfl ?_
        refine aw_iconst (v := 1) d_X8_readRule_58 ic_1 ?_
        refine aw_iadd d_X8_readRule_59 ?_
        refine aw_puti (k0 := 2) kc_8 (ws_11 w41) (Nat.le_of_ble_eq_true rfl) tw_62 d_X8_readRule_60 rfl rfl nf_i ?_
        refine aw_iload_n (i := 1) rfl d_X8_readRule_63 1 rfl ?_
        refine aw_if_eq (tgt := 74) d_X8_readRule_64 rfl (fun c52 => ?_) (fun c52 => ?_)
        · have k := k.1 c52
          refine aw_aload_n (i := 0) rfl d_X8_readRule_74 0 rfl ?_
          refine aw_Vi 11 [] [] d_X8_readRule_75 (cV_X8_readPayClause (d + 59) 0 0) kc_8 (ws_11 w41) tw_864 rfl (rr0 (Nat.le_of_ble_eq_true rfl) (Nat.le_of_ble_eq_true rfl)) (Nat.le_of_ble_eq_true rfl) xs0 k (fun r55 h53 kk => ?_)
          obtain ⟨w54, k⟩ := kk
          refine aw_istore_n (i := 2) rfl [(0, .ref 11), (1, .int x1), (2, .int r55), (3, .int x3)] d_X8_readRule_78 (Nat.le_of_ble_eq_true rfl) rfl rfl ?_
          refine aw_iinc (v := (x3 + 1)) [(0, .ref 11), (1, .int x1), (2, .int r55), (3, .int (x3 + 1))] d_X8_readRule_79 3 rfl rfl (Nat.le_of_ble_eq_true rfl) rfl rfl ?_
          refine aw_goto (tgt := 33) d_X8_readRule_82 rfl ?_
          exact k
        · have k := k.2 c52
          refine aw_aload_n (i := 0) rfl d_X8_readRule_67 0 rfl ?_
          refine aw_Vi 11 [] [] d_X8_readRule_68 (cV_X8_readActClause (d + 59) 0 0) kc_8 (ws_11 w41) tw_729 rfl (rr0 (Nat.le_of_ble_eq_true rfl) (Nat.le_of_ble_eq_true rfl)) (Nat.le_of_ble_eq_true rfl) xs0 k (fun r58 h56 kk => ?_)
          obtain ⟨w57, k⟩ := kk
          refine aw_goto (tgt := 78) d_X8_readRule_71 rfl ?_
          refine aw_istore_n (i := 2) rfl [(0, .ref 11), (1, .int x1), (2, .int r58), (3, .int x3)] d_X8_readRule_78 (Nat.le_of_ble_eq_true rfl) rfl rfl ?_
          refine aw_iinc (v := (x3 + 1)) [(0, .ref 11), (1, .int x1), (2, .int r58), (3, .int (x3 + 1))] d_X8_readRule_79 3 rfl rfl (Nat.le_of_ble_eq_true rfl) rfl rfl ?_
          refine aw_goto (tgt := 33) d_X8_readRule_82 rfl ?_
          exact k
theorem t_X8_readBeat (d : Nat) (h : Hp_) (w : Wf h)  (K : Int32 → Hp_ → Prop) (k : Cv (m_X8_restart (d + 0) 0 0) [.ref 11, .ref 1000] h (fun h1 => Wf h1 ∧ (Ci (m_X8_readSteps (d + 53) 0 0) [.ref 11, .int 0] h1 (fun r6 h4 => Wf h4 ∧ ((r6 = 0 → K (h_i h4 11 3) h4) ∧ (¬ r6 = 0 → Ci (m_X8_peek (d + 0) 0 0) [.ref 11] h4 (fun r10 h8 => Wf h8 ∧ ((r10 = (-1) → K (h_i h8 11 3) h8) ∧ (¬ r10 = (-1) → Ci (m_X8_fail (d + 0) 0 0) [.ref 11] h8 (fun r14 h12 => Wf h12 ∧ (K (h_i h12 11 3) h12))))))))))) : Ci (m_X8_readBeat (d + 54) 0 0) [.ref 11] h K := by
  refine Ct.of (fun _ _ _ => trivial) pn_X8 (Nat.le_of_ble_eq_true rfl) ?_
  show AW (m_X8_readBeat (d + 54) 0 0) 0 0 0 [(0, .ref 11)] [] h (kI K)
  refine aw_aload_n (i := 0) rfl d_X8_readBeat_0 0 rfl ?_
  refine aw_ldcT (row := 0) (n := 0) (q := 1000) d_X8_readBeat_1 rfl rfl ?_
  refine aw_Vv 11 [.ref 1000] [] d_X8_readBeat_3 (cV_X8_restart (d + 0) 0 0) kc_8 (ws_11 w) tw_673 rfl (rr0 (Nat.le_of_ble_eq_true rfl) (Nat.le_of_ble_eq_true rfl)) (Nat.le_of_ble_eq_true rfl) xs0 k (fun h1 kk => ?_)
  obtain ⟨w2, k⟩ := kk
  refine aw_aload_n (i := 0) rfl d_X8_readBeat_6 0 rfl ?_
  refine aw_iconst (v := 0) d_X8_readBeat_7 ic_0 ?_
  refine aw_Vi 11 [.int 0] [] d_X8_readBeat_8 (cV_X8_readSteps (d + 53) 0 0) kc_8 (ws_11 w2) tw_677 rfl (rr0 (Nat.le_of_ble_eq_true rfl) (Nat.le_of_ble_eq_true rfl)) (Nat.le_of_ble_eq_true rfl) xs0 k (fun r6 h4 kk => ?_)
  obtain ⟨w5, k⟩ := kk
  refine aw_if_eq (tgt := 27) d_X8_readBeat_11 rfl (fun c7 => ?_) (fun c7 => ?_)
  · have k := k.1 c7
    refine aw_aload_n (i := 0) rfl d_X8_readBeat_27 0 rfl ?_
    refine aw_geti (k0 := 3) kc_8 (ws_11 w5) (Nat.le_of_ble_eq_true rfl) tw_63 d_X8_readBeat_28 rfl ?_
    exact aw_iret rfl d_X8_readBeat_31 ⟨Nat.le_refl _, Nat.le_refl _⟩ ⟨_, rfl, k⟩
  · have k := k.2 c7
    refine aw_aload_n (i := 0) rfl d_X8_readBeat_14 0 rfl ?_
    refine aw_Vi 11 [] [] d_X8_readBeat_15 (cV_X8_peek (d + 0) 0 0) kc_8 (ws_11 w5) tw_685 rfl (rr0 (Nat.le_of_ble_eq_true rfl) (Nat.le_of_ble_eq_true rfl)) (Nat.le_of_ble_eq_true rfl) xs0 k (fun r10 h8 kk => ?_)
    obtain ⟨w9, k⟩ := kk
    refine aw_iconst (v := (-1)) d_X8_readBeat_18 ic_m1 ?_
    refine aw_icmp_eq (tgt := 27) d_X8_readBeat_19 rfl (fun c11 => ?_) (fun c11 => ?_)
    · have k := k.1 c11
      refine aw_aload_n (i := 0) rfl d_X8_readBeat_27 0 rfl ?_
      refine aw_geti (k0 := 3) kc_8 (ws_11 w9) (Nat.le_of_ble_eq_true rfl) tw_63 d_X8_readBeat_28 rfl ?_
      exact aw_iret rfl d_X8_readBeat_31 ⟨Nat.le_refl _, Nat.le_refl _⟩ ⟨_, rfl, k⟩
    · have k := k.2 c11
      refine aw_aload_n (i := 0) rfl d_X8_readBeat_22 0 rfl ?_
      refine aw_Vi 11 [] [] d_X8_readBeat_23 (cV_X8_fail (d + 0) 0 0) kc_8 (ws_11 w9) tw_715 rfl (rr0 (Nat.le_of_ble_eq_true rfl) (Nat.le_of_ble_eq_true rfl)) (Nat.le_of_ble_eq_true rfl) xs0 k (fun r14 h12 kk => ?_)
      obtain ⟨w13, k⟩ := kk
      refine aw_pop d_X8_readBeat_26 rfl ?_
      refine aw_aload_n (i := 0) rfl d_X8_readBeat_27 0 rfl ?_
      refine aw_geti (k0 := 3) kc_8 (ws_11 w13) (Nat.le_of_ble_eq_true rfl) tw_63 d_X8_readBeat_28 rfl ?_
      exact aw_iret rfl d_X8_readBeat_31 ⟨Nat.le_refl _, Nat.le_refl _⟩ ⟨_, rfl, k⟩
theorem t_X8_readStep (d : Nat) (h : Hp_) (w : Wf h) (x1 : Int32) (K : Int32 → Hp_ → Prop) (k : Ci (m_X8_peek (d + 0) 0 0) [.ref 11] h (fun r3 h1 => Wf h1 ∧ ((r3 = 40 → Ci (m_X8_readGroup (d + 51) 0 0) [.ref 11, .int x1] h1 (fun r7 h5 => Wf h5 ∧ ((r7 = 0 ∨ r7 = 1) ∧ (K r7 h5)))) ∧ ((r3 = 103 → Ci (m_X8_readNumber (d + 1) 0 0) [.ref 11, .int 0, .int 15] (h_im h1 11 2 ((h_i h1 11 2) + 1)) (fun r12 h10 => Wf h10 ∧ (Ci (m_X8_addStep (d + 1) 0 0) [.ref 11, .int 0, .int r12, .int 0] h10 (fun r15 h13 => Wf h13 ∧ ((r15 = 0 ∨ r15 = 1) ∧ (K r15 h13)))))) ∧ ((r3 = 108 → Ci (m_X8_addStep (d + 1) 0 0) [.ref 11, .int 3, .int 0, .int 0] (h_im h1 11 2 ((h_i h1 11 2) + 1)) (fun r20 h18 => Wf h18 ∧ ((r20 = 0 ∨ r20 = 1) ∧ (K r20 h18)))) ∧ ((r3 = 112 → Ci (m_X8_readPoint (d + 2) 0 0) [.ref 11] (h_im h1 11 2 ((h_i h1 11 2) + 1)) (fun r25 h23 => Wf h23 ∧ ((r25 = 0 ∨ r25 = 1) ∧ (K r25 h23)))) ∧ ((r3 = 119 → Ci (m_X8_readNumber (d + 1) 0 0) [.ref 11, .int 1, .int 240] (h_im h1 11 2 ((h_i h1 11 2) + 1)) (fun r30 h28 => Wf h28 ∧ (Ci (m_X8_addStep (d + 1) 0 0) [.ref 11, .int 1, .int 0, .int r30] h28 (fun r33 h31 => Wf h31 ∧ ((r33 = 0 ∨ r33 = 1) ∧ (K r33 h31)))))) ∧ ((¬ r3 = 40 ∧ ¬ r3 = 103 ∧ ¬ r3 = 108 ∧ ¬ r3 = 112 ∧ ¬ r3 = 119 → Ci (m_X8_fail (d + 0) 0 0) [.ref 11] h1 (fun r37 h35 => Wf h35 ∧ ((r37 = 0 ∨ r37 = 1) ∧ (K r37 h35)))))))))))) : Ci (m_X8_readStep (d + 52) 0 0) [.ref 11, .int x1] h K := by
  refine Ct.of (fun _ _ _ => trivial) pn_X8 (Nat.le_of_ble_eq_true rfl) ?_
  show AW (m_X8_readStep (d + 52) 0 0) 0 0 0 [(0, .ref 11), (1, .int x1)] [] h (kI K)
  refine aw_aload_n (i := 0) rfl d_X8_readStep_0 0 rfl ?_
  refine aw_Vi 11 [] [] d_X8_readStep_1 (cV_X8_peek (d + 0) 0 0) kc_8 (ws_11 w) tw_685 rfl (rr0 (Nat.le_of_ble_eq_true rfl) (Nat.le_of_ble_eq_true rfl)) (Nat.le_of_ble_eq_true rfl) xs0 k (fun r3 h1 kk => ?_)
  obtain ⟨w2, k⟩ := kk
  by_cases e4 : r3 = 40
  · refine aw_lookup (off := 134) (tgt := 138) d_X8_readStep_4 (by decide) (by rw [e4]; decide) rfl ?_
    have k := k.1 e4
    refine aw_aload_n (i := 0) rfl d_X8_readStep_138 0 rfl ?_
    refine aw_iload_n (i := 1) rfl d_X8_readStep_139 1 rfl ?_
    refine aw_Vi 11 [.int x1] [] d_X8_readStep_140 (cV_X8_readGroup (d + 51) 0 0) kc_8 (ws_11 w2) tw_711 rfl (rr0 (Nat.le_of_ble_eq_true rfl) (Nat.le_of_ble_eq_true rfl)) (Nat.le_of_ble_eq_true rfl) xs0 k (fun r7 h5 kk => ?_)
    obtain ⟨w6, k⟩ := kk
    obtain ⟨z8, k⟩ := k
    exact aw_zret rfl (nf_z z8).1 d_X8_readStep_143 ⟨Nat.le_refl _, Nat.le_refl _⟩ ⟨_, rfl, k⟩
  · have k := k.2
    by_cases e9 : r3 = 103
    · refine aw_lookup (off := 52) (tgt := 56) d_X8_readStep_4 (by decide) (by rw [e9]; decide) rfl ?_
      have k := k.1 e9
      refine aw_aload_n (i := 0) rfl d_X8_readStep_56 0 rfl ?_
      refine aw_dup d_X8_readStep_57 rfl ?_
      refine aw_geti (k0 := 2) kc_8 (ws_11 w2) (Nat.le_of_ble_eq_true rfl) tw_62 d_X8_readStep_58 rfl ?_
      refine aw_iconst (v := 1) d_X8_readStep_61 ic_1 ?_
      refine aw_iadd d_X8_readStep_62 ?_
      refine aw_puti (k0 := 2) kc_8 (ws_11 w2) (Nat.le_of_ble_eq_true rfl) tw_62 d_X8_readStep_63 rfl rfl nf_i ?_
      refine aw_aload_n (i := 0) rfl d_X8_readStep_66 0 rfl ?_
      refine aw_iconst (v := 0) d_X8_readStep_67 ic_0 ?_
      refine aw_aload_n (i := 0) rfl d_X8_readStep_68 0 rfl ?_
      refine aw_iconst (v := 0) d_X8_readStep_69 ic_0 ?_
      refine aw_bipush (v := 15) d_X8_readStep_70 ib_15 ?_
      refine aw_Vi 11 [.int 0, .int 15] [.int 0, .ref 11] d_X8_readStep_72 (cV_X8_readNumber (d + 1) 0 0) kc_8 (ws_11 w2) tw_689 rfl (rr0 (Nat.le_of_ble_eq_true rfl) (Nat.le_of_ble_eq_true rfl)) (Nat.le_of_ble_eq_true rfl) xs0 k (fun r12 h10 kk => ?_)
      obtain ⟨w11, k⟩ := kk
      refine aw_iconst (v := 0) d_X8_readStep_75 ic_0 ?_
      refine aw_Vi 11 [.int 0, .int r12, .int 0] [] d_X8_readStep_76 (cV_X8_addStep (d + 1) 0 0) kc_8 (ws_11 w11) tw_696 rfl (rr0 (Nat.le_of_ble_eq_true rfl) (Nat.le_of_ble_eq_true rfl)) (Nat.le_of_ble_eq_true rfl) xs0 k (fun r15 h13 kk => ?_)
      obtain ⟨w14, k⟩ := kk
      obtain ⟨z16, k⟩ := k
      exact aw_zret rfl (nf_z z16).1 d_X8_readStep_79 ⟨Nat.le_refl _, Nat.le_refl _⟩ ⟨_, rfl, k⟩
    · have k := k.2
      by_cases e17 : r3 = 108
      · refine aw_lookup (off := 116) (tgt := 120) d_X8_readStep_4 (by decide) (by rw [e17]; decide) rfl ?_
        have k := k.1 e17
        refine aw_aload_n (i := 0) rfl d_X8_readStep_120 0 rfl ?_
        refine aw_dup d_X8_readStep_121 rfl ?_
        refine aw_geti (k0 := 2) kc_8 (ws_11 w2) (Nat.le_of_ble_eq_true rfl) tw_62 d_X8_readStep_122 rfl ?_
        refine aw_iconst (v := 1) d_X8_readStep_125 ic_1 ?_
        refine aw_iadd d_X8_readStep_126 ?_
        refine aw_puti (k0 := 2) kc_8 (ws_11 w2) (Nat.le_of_ble_eq_true rfl) tw_62 d_X8_readStep_127 rfl rfl nf_i ?_
        refine aw_aload_n (i := 0) rfl d_X8_readStep_130 0 rfl ?_
        refine aw_iconst (v := 3) d_X8_readStep_131 ic_3 ?_
        refine aw_iconst (v := 0) d_X8_readStep_132 ic_0 ?_
        refine aw_iconst (v := 0) d_X8_readStep_133 ic_0 ?_
        refine aw_Vi 11 [.int 3, .int 0, .int 0] [] d_X8_readStep_134 (cV_X8_addStep (d + 1) 0 0) kc_8 (ws_11 w2) tw_696 rfl (rr0 (Nat.le_of_ble_eq_true rfl) (Nat.le_of_ble_eq_true rfl)) (Nat.le_of_ble_eq_true rfl) xs0 k (fun r20 h18 kk => ?_)
        obtain ⟨w19, k⟩ := kk
        obtain ⟨z21, k⟩ := k
        exact aw_zret rfl (nf_z z21).1 d_X8_readStep_137 ⟨Nat.le_refl _, Nat.le_refl _⟩ ⟨_, rfl, k⟩
      · have k := k.2
        by_cases e22 : r3 = 112
        · refine aw_lookup (off := 101) (tgt := 105) d_X8_readStep_4 (by decide) (by rw [e22]; decide) rfl ?_
          have k := k.1 e22
          refine aw_aload_n (i := 0) rfl d_X8_readStep_105 0 rfl ?_
          refine aw_dup d_X8_readStep_106 rfl ?_
          refine aw_geti (k0 := 2) kc_8 (ws_11 w2) (Nat.le_of_ble_eq_true rfl) tw_62 d_X8_readStep_107 rfl ?_
          refine aw_iconst (v := 1) d_X8_readStep_110 ic_1 ?_
          refine aw_iadd d_X8_readStep_111 ?_
          refine aw_puti (k0 := 2) kc_8 (ws_11 w2) (Nat.le_of_ble_eq_true rfl) tw_62 d_X8_readStep_112 rfl rfl nf_i ?_
          refine aw_aload_n (i := 0) rfl d_X8_readStep_115 0 rfl ?_
          refine aw_Vi 11 [] [] d_X8_readStep_116 (cV_X8_readPoint (d + 2) 0 0) kc_8 (ws_11 w2) tw_707 rfl (rr0 (Nat.le_of_ble_eq_true rfl) (Nat.le_of_ble_eq_true rfl)) (Nat.le_of_ble_eq_true rfl) xs0 k (fun r25 h23 kk => ?_)
          obtain ⟨w24, k⟩ := kk
          obtain ⟨z26, k⟩ := k
          exact aw_zret rfl (nf_z z26).1 d_X8_readStep_119 ⟨Nat.le_refl _, Nat.le_refl _⟩ ⟨_, rfl, k⟩
        · have k := k.2
          by_cases e27 : r3 = 119
          · refine aw_lookup (off := 76) (tgt := 80) d_X8_readStep_4 (by decide) (by rw [e27]; decide) rfl ?_
            have k := k.1 e27
            refine aw_aload_n (i := 0) rfl d_X8_readStep_80 0 rfl ?_
            refine aw_dup d_X8_readStep_81 rfl ?_
            refine aw_geti (k0 := 2) kc_8 (ws_11 w2) (Nat.le_of_ble_eq_true rfl) tw_62 d_X8_readStep_82 rfl ?_
            refine aw_iconst (v := 1) d_X8_readStep_85 ic_1 ?_
            refine aw_iadd d_X8_readStep_86 ?_
            refine aw_puti (k0 := 2) kc_8 (ws_11 w2) (Nat.le_of_ble_eq_true rfl) tw_62 d_X8_readStep_87 rfl rfl nf_i ?_
            refine aw_aload_n (i := 0) rfl d_X8_readStep_90 0 rfl ?_
            refine aw_iconst (v := 1) d_X8_readStep_91 ic_1 ?_
            refine aw_iconst (v := 0) d_X8_readStep_92 ic_0 ?_
            refine aw_aload_n (i := 0) rfl d_X8_readStep_93 0 rfl ?_
            refine aw_iconst (v := 1) d_X8_readStep_94 ic_1 ?_
            refine aw_sipush (v := 240) d_X8_readStep_95 is_240 ?_
            refine aw_Vi 11 [.int 1, .int 240] [.int 0, .int 1, .ref 11] d_X8_readStep_98 (cV_X8_readNumber (d + 1) 0 0) kc_8 (ws_11 w2) tw_689 rfl (rr0 (Nat.le_of_ble_eq_true rfl) (Nat.le_of_ble_eq_true rfl)) (Nat.le_of_ble_eq_true rfl) xs0 k (fun r30 h28 kk => ?_)
            obtain ⟨w29, k⟩ := kk
            refine aw_Vi 11 [.int 1, .int 0, .int r30] [] d_X8_readStep_101 (cV_X8_addStep (d + 1) 0 0) kc_8 (ws_11 w29) tw_696 rfl (rr0 (Nat.le_of_ble_eq_true rfl) (Nat.le_of_ble_eq_true rfl)) (Nat.le_of_ble_eq_true rfl) xs0 k (fun r33 h31 kk => ?_)
            obtain ⟨w32, k⟩ := kk
            obtain ⟨z34, k⟩ := k
            exact aw_zret rfl (nf_z z34).1 d_X8_readStep_104 ⟨Nat.le_refl _, Nat.le_refl _⟩ ⟨_, rfl, k⟩
          · have k := k.2
            have k := k ⟨e4, e9, e17, e22, e27⟩
            have n39 := sw_ne (40) (by decide) e4
            have n40 := sw_ne (103) (by decide) e9
            have n41 := sw_ne (108) (by decide) e17
            have n42 := sw_ne (112) (by decide) e22
            have n43 := sw_ne (119) (by decide) e27
            refine aw_lookup (off := 140) (tgt := 144) d_X8_readStep_4 (by decide) (by simp [Op.lookupswitch.offset, n39, n40, n41, n42, n43, Ne.symm n39, Ne.symm n40, Ne.symm n41, Ne.symm n42, Ne.symm n43]) rfl ?_
            refine aw_aload_n (i := 0) rfl d_X8_readStep_144 0 rfl ?_
            refine aw_Vi 11 [] [] d_X8_readStep_145 (cV_X8_fail (d + 0) 0 0) kc_8 (ws_11 w2) tw_715 rfl (rr0 (Nat.le_of_ble_eq_true rfl) (Nat.le_of_ble_eq_true rfl)) (Nat.le_of_ble_eq_true rfl) xs0 k (fun r37 h35 kk => ?_)
            obtain ⟨w36, k⟩ := kk
            obtain ⟨z38, k⟩ := k
            exact aw_zret rfl (nf_z z38).1 d_X8_readStep_148 ⟨Nat.le_refl _, Nat.le_refl _⟩ ⟨_, rfl, k⟩
theorem t_X8_readSteps (d : Nat) (h : Hp_) (w : Wf h) (x1 : Int32) (K : Int32 → Hp_ → Prop) (k : Ci (m_X8_readStep (d + 52) 0 0) [.ref 11, .int x1] h (fun r3 h1 => Wf h1 ∧ (AW (m_X8_readSteps (d + 53) 0 0) 0 0 8 [(0, .ref 11), (1, .int x1), (2, .int r3), (3, .int 0)] [] h1 (kI K)))) : Ci (m_X8_readSteps (d + 53) 0 0) [.ref 11, .int x1] h K := by
  refine Ct.of (fun _ _ _ => trivial) pn_X8 (Nat.le_of_ble_eq_true rfl) ?_
  show AW (m_X8_readSteps (d + 53) 0 0) 0 0 0 [(0, .ref 11), (1, .int x1)] [] h (kI K)
  refine aw_aload_n (i := 0) rfl d_X8_readSteps_0 0 rfl ?_
  refine aw_iload_n (i := 1) rfl d_X8_readSteps_1 1 rfl ?_
  refine aw_Vi 11 [.int x1] [] d_X8_readSteps_2 (cV_X8_readStep (d + 52) 0 0) kc_8 (ws_11 w) tw_681 rfl (rr0 (Nat.le_of_ble_eq_true rfl) (Nat.le_of_ble_eq_true rfl)) (Nat.le_of_ble_eq_true rfl) xs0 k (fun r3 h1 kk => ?_)
  obtain ⟨w2, k⟩ := kk
  refine aw_istore_n (i := 2) rfl [(0, .ref 11), (1, .int x1), (2, .int r3)] d_X8_readSteps_5 (Nat.le_of_ble_eq_true rfl) rfl rfl ?_
  refine aw_iconst (v := 0) d_X8_readSteps_6 ic_0 ?_
  refine aw_istore_n (i := 3) rfl [(0, .ref 11), (1, .int x1), (2, .int r3), (3, .int 0)] d_X8_readSteps_7 (Nat.le_of_ble_eq_true rfl) rfl rfl ?_
  exact k
theorem t_X8_readSteps_8 (d : Nat) (h : Hp_) (w : Wf h) (x1 : Int32) (x2 : Int32) (x3 : Int32) (K : Int32 → Hp_ → Prop) (k : (160 ≤ x3 → (x2 = 0 ∨ x2 = 1) ∧ (K x2 h)) ∧ (¬ 160 ≤ x3 → (x2 = 0 → (x2 = 0 ∨ x2 = 1) ∧ (K x2 h)) ∧ (¬ x2 = 0 → Ci (m_X8_peek (d + 0) 0 0) [.ref 11] h (fun r10 h8 => Wf h8 ∧ ((¬ r10 = 59 → (x2 = 0 ∨ x2 = 1) ∧ (K x2 h8)) ∧ (r10 = 59 → Ci (m_X8_readStep (d + 52) 0 0) [.ref 11, .int x1] (h_im h8 11 2 ((h_i h8 11 2) + 1)) (fun r15 h13 => Wf h13 ∧ (AW (m_X8_readSteps (d + 53) 0 0) 0 0 8 [(0, .ref 11), (1, .int x1), (2, .int r15), (3, .int (x3 + 1))] [] h13 (kI K))))))))) : AW (m_X8_readSteps (d + 53) 0 0) 0 0 8 [(0, .ref 11), (1, .int x1), (2, .int x2), (3, .int x3)] [] h (kI K) := by
  refine aw_iload_n (i := 3) rfl d_X8_readSteps_8 3 rfl ?_
  refine aw_sipush (v := 160) d_X8_readSteps_9 is_160 ?_
  refine aw_icmp_ge (tgt := 50) d_X8_readSteps_12 rfl (fun c4 => ?_) (fun c4 => ?_)
  · have k := k.1 c4
    refine aw_iload_n (i := 2) rfl d_X8_readSteps_50 2 rfl ?_
    obtain ⟨z5, k⟩ := k
    exact aw_zret rfl (nf_z z5).1 d_X8_readSteps_51 ⟨Nat.le_refl _, Nat.le_refl _⟩ ⟨_, rfl, k⟩
  · have k := k.2 c4
    refine aw_iload_n (i := 2) rfl d_X8_readSteps_15 2 rfl ?_
    refine aw_if_eq (tgt := 50) d_X8_readSteps_16 rfl (fun c6 => ?_) (fun c6 => ?_)
    · have k := k.1 c6
      refine aw_iload_n (i := 2) rfl d_X8_readSteps_50 2 rfl ?_
      obtain ⟨z7, k⟩ := k
      exact aw_zret rfl (nf_z z7).1 d_X8_readSteps_51 ⟨Nat.le_refl _, Nat.le_refl _⟩ ⟨_, rfl, k⟩
    · have k := k.2 c6
      refine aw_aload_n (i := 0) rfl d_X8_readSteps_19 0 rfl ?_
      refine aw_Vi 11 [] [] d_X8_readSteps_20 (cV_X8_peek (d + 0) 0 0) kc_8 (ws_11 w) tw_685 rfl (rr0 (Nat.le_of_ble_eq_true rfl) (Nat.le_of_ble_eq_true rfl)) (Nat.le_of_ble_eq_true rfl) xs0 k (fun r10 h8 kk => ?_)
      obtain ⟨w9, k⟩ := kk
      refine aw_bipush (v := 59) d_X8_readSteps_23 ib_59 ?_
      refine aw_icmp_ne (tgt := 50) d_X8_readSteps_25 rfl (fun c11 => ?_) (fun c11 => ?_)
      · have k := k.1 c11
        refine aw_iload_n (i := 2) rfl d_X8_readSteps_50 2 rfl ?_
        obtain ⟨z12, k⟩ := k
        exact aw_zret rfl (nf_z z12).1 d_X8_readSteps_51 ⟨Nat.le_refl _, Nat.le_refl _⟩ ⟨_, rfl, k⟩
      · have k := k.2 c11
        refine aw_aload_n (i := 0) rfl d_X8_readSteps_28 0 rfl ?_
        refine aw_dup d_X8_readSteps_29 rfl ?_
        refine aw_geti (k0 := 2) kc_8 (ws_11 w9) (Nat.le_of_ble_eq_true rfl) tw_62 d_X8_readSteps_30 rfl ?_
        refine aw_iconst (v := 1) d_X8_readSteps_33 ic_1 ?_
        refine aw_iadd d_X8_readSteps_34 ?_
        refine aw_puti (k0 := 2) kc_8 (ws_11 w9) (Nat.le_of_ble_eq_true rfl) tw_62 d_X8_readSteps_35 rfl rfl nf_i ?_
        refine aw_aload_n (i := 0) rfl d_X8_readSteps_38 0 rfl ?_
        refine aw_iload_n (i := 1) rfl d_X8_readSteps_39 1 rfl ?_
        refine aw_Vi 11 [.int x1] [] d_X8_readSteps_40 (cV_X8_readStep (d + 52) 0 0) kc_8 (ws_11 w9) tw_681 rfl (rr0 (Nat.le_of_ble_eq_true rfl) (Nat.le_of_ble_eq_true rfl)) (Nat.le_of_ble_eq_true rfl) xs0 k (fun r15 h13 kk => ?_)
        obtain ⟨w14, k⟩ := kk
        refine aw_istore_n (i := 2) rfl [(0, .ref 11), (1, .int x1), (2, .int r15), (3, .int x3)] d_X8_readSteps_43 (Nat.le_of_ble_eq_true rfl) rfl rfl ?_
        refine aw_iinc (v := (x3 + 1)) [(0, .ref 11), (1, .int x1), (2, .int r15), (3, .int (x3 + 1))] d_X8_readSteps_44 3 rfl rfl (Nat.le_of_ble_eq_true rfl) rfl rfl ?_
        refine aw_goto (tgt := 8) d_X8_readSteps_47 rfl ?_
        exact k
theorem t_X8_readPoint (d : Nat) (h : Hp_) (w : Wf h)  (K : Int32 → Hp_ → Prop) (k : Ci (m_X8_readNumber (d + 1) 0 0) [.ref 11, .int 0, .int 15] h (fun r3 h1 => Wf h1 ∧ ((r3 = (-1) → K 0 h1) ∧ (¬ r3 = (-1) → Ci (m_X8_readNumber (d + 1) 0 0) [.ref 11, .int 0, .int 1440] h1 (fun r7 h5 => Wf h5 ∧ (Ci (m_X8_addStep (d + 1) 0 0) [.ref 11, .int 2, .int r3, .int r7] h5 (fun r10 h8 => Wf h8 ∧ ((r10 = 0 → K 0 h8) ∧ (¬ r10 = 0 → K 1 h8))))))))) : Ci (m_X8_readPoint (d + 2) 0 0) [.ref 11] h K := by
  refine Ct.of (fun _ _ _ => trivial) pn_X8 (Nat.le_of_ble_eq_true rfl) ?_
  show AW (m_X8_readPoint (d + 2) 0 0) 0 0 0 [(0, .ref 11)] [] h (kI K)
  refine aw_aload_n (i := 0) rfl d_X8_readPoint_0 0 rfl ?_
  refine aw_iconst (v := 0) d_X8_readPoint_1 ic_0 ?_
  refine aw_bipush (v := 15) d_X8_readPoint_2 ib_15 ?_
  refine aw_Vi 11 [.int 0, .int 15] [] d_X8_readPoint_4 (cV_X8_readNumber (d + 1) 0 0) kc_8 (ws_11 w) tw_689 rfl (rr0 (Nat.le_of_ble_eq_true rfl) (Nat.le_of_ble_eq_true rfl)) (Nat.le_of_ble_eq_true rfl) xs0 k (fun r3 h1 kk => ?_)
  obtain ⟨w2, k⟩ := kk
  refine aw_istore_n (i := 1) rfl [(0, .ref 11), (1, .int r3)] d_X8_readPoint_7 (Nat.le_of_ble_eq_true rfl) rfl rfl ?_
  refine aw_iload_n (i := 1) rfl d_X8_readPoint_8 1 rfl ?_
  refine aw_iconst (v := (-1)) d_X8_readPoint_9 ic_m1 ?_
  refine aw_icmp_eq (tgt := 34) d_X8_readPoint_10 rfl (fun c4 => ?_) (fun c4 => ?_)
  · have k := k.1 c4
    refine aw_iconst (v := 0) d_X8_readPoint_34 ic_0 ?_
    exact aw_zret rfl rfl d_X8_readPoint_35 ⟨Nat.le_refl _, Nat.le_refl _⟩ ⟨_, rfl, k⟩
  · have k := k.2 c4
    refine aw_aload_n (i := 0) rfl d_X8_readPoint_13 0 rfl ?_
    refine aw_iconst (v := 2) d_X8_readPoint_14 ic_2 ?_
    refine aw_iload_n (i := 1) rfl d_X8_readPoint_15 1 rfl ?_
    refine aw_aload_n (i := 0) rfl d_X8_readPoint_16 0 rfl ?_
    refine aw_iconst (v := 0) d_X8_readPoint_17 ic_0 ?_
    refine aw_sipush (v := 1440) d_X8_readPoint_18 is_1440 ?_
    refine aw_Vi 11 [.int 0, .int 1440] [.int r3, .int 2, .ref 11] d_X8_readPoint_21 (cV_X8_readNumber (d + 1) 0 0) kc_8 (ws_11 w2) tw_689 rfl (rr0 (Nat.le_of_ble_eq_true rfl) (Nat.le_of_ble_eq_true rfl)) (Nat.le_of_ble_eq_true rfl) xs0 k (fun r7 h5 kk => ?_)
    obtain ⟨w6, k⟩ := kk
    refine aw_Vi 11 [.int 2, .int r3, .int r7] [] d_X8_readPoint_24 (cV_X8_addStep (d + 1) 0 0) kc_8 (ws_11 w6) tw_696 rfl (rr0 (Nat.le_of_ble_eq_true rfl) (Nat.le_of_ble_eq_true rfl)) (Nat.le_of_ble_eq_true rfl) xs0 k (fun r10 h8 kk => ?_)
    obtain ⟨w9, k⟩ := kk
    refine aw_if_eq (tgt := 34) d_X8_readPoint_27 rfl (fun c11 => ?_) (fun c11 => ?_)
    · have k := k.1 c11
      refine aw_iconst (v := 0) d_X8_readPoint_34 ic_0 ?_
      exact aw_zret rfl rfl d_X8_readPoint_35 ⟨Nat.le_refl _, Nat.le_refl _⟩ ⟨_, rfl, k⟩
    · have k := k.2 c11
      refine aw_iconst (v := 1) d_X8_readPoint_30 ic_1 ?_
      refine aw_goto (tgt := 35) d_X8_readPoint_31 rfl ?_
      exact aw_zret rfl rfl d_X8_readPoint_35 ⟨Nat.le_refl _, Nat.le_refl _⟩ ⟨_, rfl, k⟩
theorem t_X8_readGroup (d : Nat) (h : Hp_) (w : Wf h) (x1 : Int32) (K : Int32 → Hp_ → Prop) (k : (x1 < 4 → Ci (m_X8_readSteps (d + 53) 0 0) [.ref 11, .int (x1 + 1)] (h_im h 11 2 ((h_i h 11 2) + 1)) (fun r4 h2 => Wf h2 ∧ ((r4 = 0 → K 0 h2) ∧ (¬ r4 = 0 → Ci (m_X8_expect (d + 1) 0 0) [.ref 11, .int 41] h2 (fun r8 h6 => Wf h6 ∧ ((¬ r8 = 0 → Ci (m_X8_readNumber (d + 1) 0 0) [.ref 11, .int 1, .int 20] h6 (fun r12 h10 => Wf h10 ∧ ((¬ r12 = (-1) → AW (m_X8_readGroup (d + 61) 0 0) 0 0 70 [(0, .ref 11), (2, .int (h_i h 11 6)), (3, .int r12), (4, .int (h_i h10 11 6)), (5, .int 1)] [] h10 (kI K)) ∧ (r12 = (-1) → K 0 h10)))) ∧ (r8 = 0 → K 0 h6))))))) ∧ (¬ x1 < 4 → Ci (m_X8_fail (d + 0) 0 0) [.ref 11] h (fun r16 h14 => Wf h14 ∧ ((r16 = 0 ∨ r16 = 1) ∧ (K r16 h14))))) : Ci (m_X8_readGroup (d + 61) 0 0) [.ref 11, .int x1] h K := by
  refine Ct.of (fun _ _ _ => trivial) pn_X8 (Nat.le_of_ble_eq_true rfl) ?_
  show AW (m_X8_readGroup (d + 61) 0 0) 0 0 0 [(0, .ref 11), (1, .int x1)] [] h (kI K)
  refine aw_iload_n (i := 1) rfl d_X8_readGroup_0 1 rfl ?_
  refine aw_iconst (v := 4) d_X8_readGroup_1 ic_4 ?_
  refine aw_icmp_lt (tgt := 10) d_X8_readGroup_2 rfl (fun c1 => ?_) (fun c1 => ?_)
  · have k := k.1 c1
    refine aw_aload_n (i := 0) rfl d_X8_readGroup_10 0 rfl ?_
    refine aw_dup d_X8_readGroup_11 rfl ?_
    refine aw_geti (k0 := 2) kc_8 (ws_11 w) (Nat.le_of_ble_eq_true rfl) tw_62 d_X8_readGroup_12 rfl ?_
    refine aw_iconst (v := 1) d_X8_readGroup_15 ic_1 ?_
    refine aw_iadd d_X8_readGroup_16 ?_
    refine aw_puti (k0 := 2) kc_8 (ws_11 w) (Nat.le_of_ble_eq_true rfl) tw_62 d_X8_readGroup_17 rfl rfl nf_i ?_
    refine aw_aload_n (i := 0) rfl d_X8_readGroup_20 0 rfl ?_
    refine aw_geti (k0 := 6) kc_8 (ws_11 w) (Nat.le_of_ble_eq_true rfl) tw_68 d_X8_readGroup_21 rfl ?_
    refine aw_vi (v2 := (h_i h 11 6)) (rfl) ?_
    refine aw_istore_n (i := 2) rfl [(0, .ref 11), (1, .int x1), (2, .int (h_i h 11 6))] d_X8_readGroup_24 (Nat.le_of_ble_eq_true rfl) rfl rfl ?_
    refine aw_aload_n (i := 0) rfl d_X8_readGroup_25 0 rfl ?_
    refine aw_iload_n (i := 1) rfl d_X8_readGroup_26 1 rfl ?_
    refine aw_iconst (v := 1) d_X8_readGroup_27 ic_1 ?_
    refine aw_iadd d_X8_readGroup_28 ?_
    refine aw_Vi 11 [.int (x1 + 1)] [] d_X8_readGroup_29 (cV_X8_readSteps (d + 53) 0 0) kc_8 (ws_11 w) tw_677 rfl (rr0 (Nat.le_of_ble_eq_true rfl) (Nat.le_of_ble_eq_true rfl)) (Nat.le_of_ble_eq_true rfl) xs0 k (fun r4 h2 kk => ?_)
    obtain ⟨w3, k⟩ := kk
    refine aw_if_eq (tgt := 44) d_X8_readGroup_32 rfl (fun c5 => ?_) (fun c5 => ?_)
    · have k := k.1 c5
      refine aw_iconst (v := 0) d_X8_readGroup_44 ic_0 ?_
      exact aw_zret rfl rfl d_X8_readGroup_45 ⟨Nat.le_refl _, Nat.le_refl _⟩ ⟨_, rfl, k⟩
    · have k := k.2 c5
      refine aw_aload_n (i := 0) rfl d_X8_readGroup_35 0 rfl ?_
      refine aw_bipush (v := 41) d_X8_readGroup_36 ib_41 ?_
      refine aw_Vi 11 [.int 41] [] d_X8_readGroup_38 (cV_X8_expect (d + 1) 0 0) kc_8 (ws_11 w3) tw_719 rfl (rr0 (Nat.le_of_ble_eq_true rfl) (Nat.le_of_ble_eq_true rfl)) (Nat.le_of_ble_eq_true rfl) xs0 k (fun r8 h6 kk => ?_)
      obtain ⟨w7, k⟩ := kk
      refine aw_if_ne (tgt := 46) d_X8_readGroup_41 rfl (fun c9 => ?_) (fun c9 => ?_)
      · have k := k.1 c9
        refine aw_aload_n (i := 0) rfl d_X8_readGroup_46 0 rfl ?_
        refine aw_iconst (v := 1) d_X8_readGroup_47 ic_1 ?_
        refine aw_bipush (v := 20) d_X8_readGroup_48 ib_20 ?_
        refine aw_Vi 11 [.int 1, .int 20] [] d_X8_readGroup_50 (cV_X8_readNumber (d + 1) 0 0) kc_8 (ws_11 w7) tw_689 rfl (rr0 (Nat.le_of_ble_eq_true rfl) (Nat.le_of_ble_eq_true rfl)) (Nat.le_of_ble_eq_true rfl) xs0 k (fun r12 h10 kk => ?_)
        obtain ⟨w11, k⟩ := kk
        refine aw_istore_n (i := 3) rfl [(0, .ref 11), (1, .int x1), (2, .int (h_i h 11 6)), (3, .int r12)] d_X8_readGroup_53 (Nat.le_of_ble_eq_true rfl) rfl rfl ?_
        refine aw_iload_n (i := 3) rfl d_X8_readGroup_54 3 rfl ?_
        refine aw_iconst (v := (-1)) d_X8_readGroup_55 ic_m1 ?_
        refine aw_icmp_ne (tgt := 61) d_X8_readGroup_56 rfl (fun c13 => ?_) (fun c13 => ?_)
        · have k := k.1 c13
          refine aw_aload_n (i := 0) rfl d_X8_readGroup_61 0 rfl ?_
          refine aw_geti (k0 := 6) kc_8 (ws_11 w11) (Nat.le_of_ble_eq_true rfl) tw_68 d_X8_readGroup_62 rfl ?_
          refine aw_istore [(0, .ref 11), (1, .int x1), (2, .int (h_i h 11 6)), (3, .int r12), (4, .int (h_i h10 11 6))] d_X8_readGroup_65 (Nat.le_of_ble_eq_true rfl) rfl rfl ?_
          refine aw_iconst (v := 1) d_X8_readGroup_67 ic_1 ?_
          refine aw_istore [(0, .ref 11), (1, .int x1), (2, .int (h_i h 11 6)), (3, .int r12), (4, .int (h_i h10 11 6)), (5, .int 1)] d_X8_readGroup_68 (Nat.le_of_ble_eq_true rfl) rfl rfl ?_
          exact aw_lvp [0, 2, 3, 4, 5] [(0, .ref 11), (2, .int (h_i h 11 6)), (3, .int r12), (4, .int (h_i h10 11 6)), (5, .int 1)] rfl k
        · have k := k.2 c13
          refine aw_iconst (v := 0) d_X8_readGroup_59 ic_0 ?_
          exact aw_zret rfl rfl d_X8_readGroup_60 ⟨Nat.le_refl _, Nat.le_refl _⟩ ⟨_, rfl, k⟩
      · have k := k.2 c9
        refine aw_iconst (v := 0) d_X8_readGroup_44 ic_0 ?_
        exact aw_zret rfl rfl d_X8_readGroup_45 ⟨Nat.le_refl _, Nat.le_refl _⟩ ⟨_, rfl, k⟩
  · have k := k.2 c1
    refine aw_aload_n (i := 0) rfl d_X8_readGroup_5 0 rfl ?_
    refine aw_Vi 11 [] [] d_X8_readGroup_6 (cV_X8_fail (d + 0) 0 0) kc_8 (ws_11 w) tw_715 rfl (rr0 (Nat.le_of_ble_eq_true rfl) (Nat.le_of_ble_eq_true rfl)) (Nat.le_of_ble_eq_true rfl) xs0 k (fun r16 h14 kk => ?_)
    obtain ⟨w15, k⟩ := kk
    obtain ⟨z17, k⟩ := k
    exact aw_zret rfl (nf_z z17).1 d_X8_readGroup_9 ⟨Nat.le_refl _, Nat.le_refl _⟩ ⟨_, rfl, k⟩
theorem t_X8_readGroup_70 (d : Nat) (h : Hp_) (w : Wf h) (x2 : Int32) (x3 : Int32) (x4 : Int32) (x5 : Int32) (K : Int32 → Hp_ → Prop) (k : (x3 ≤ x5 → K 1 h) ∧ (¬ x3 ≤ x5 → (¬ (h_i h 11 7) = 0 → K 1 h) ∧ ((h_i h 11 7) = 0 → AW (m_X8_readGroup (d + 61) 0 0) 0 0 86 [(0, .ref 11), (2, .int x2), (3, .int x3), (4, .int x4), (5, .int x5), (6, .int x2)] [] h (kI K)))) : AW (m_X8_readGroup (d + 61) 0 0) 0 0 70 [(0, .ref 11), (2, .int x2), (3, .int x3), (4, .int x4), (5, .int x5)] [] h (kI K) := by
  refine aw_iload d_X8_readGroup_70 4 rfl ?_
  refine aw_iload_n (i := 3) rfl d_X8_readGroup_72 2 rfl ?_
  refine aw_icmp_ge (tgt := 116) d_X8_readGroup_73 rfl (fun c18 => ?_) (fun c18 => ?_)
  · have k := k.1 c18
    refine aw_iconst (v := 1) d_X8_readGroup_116 ic_1 ?_
    exact aw_zret rfl rfl d_X8_readGroup_117 ⟨Nat.le_refl _, Nat.le_refl _⟩ ⟨_, rfl, k⟩
  · have k := k.2 c18
    refine aw_aload_n (i := 0) rfl d_X8_readGroup_76 0 rfl ?_
    refine aw_geti (k0 := 7) kc_8 (ws_11 w) (Nat.le_of_ble_eq_true rfl) tw_70 d_X8_readGroup_77 rfl ?_
    refine aw_if_ne (tgt := 116) d_X8_readGroup_80 rfl (fun c19 => ?_) (fun c19 => ?_)
    · have k := k.1 c19
      refine aw_iconst (v := 1) d_X8_readGroup_116 ic_1 ?_
      exact aw_zret rfl rfl d_X8_readGroup_117 ⟨Nat.le_refl _, Nat.le_refl _⟩ ⟨_, rfl, k⟩
    · have k := k.2 c19
      refine aw_iload_n (i := 2) rfl d_X8_readGroup_83 1 rfl ?_
      refine aw_istore [(0, .ref 11), (2, .int x2), (3, .int x3), (4, .int x4), (5, .int x5), (6, .int x2)] d_X8_readGroup_84 (Nat.le_of_ble_eq_true rfl) rfl rfl ?_
      exact k
theorem t_X8_readGroup_86 (d : Nat) (h : Hp_) (w : Wf h) (x2 : Int32) (x3 : Int32) (x4 : Int32) (x5 : Int32) (x6 : Int32) (K : Int32 → Hp_ → Prop) (k : (x4 ≤ x6 → AW (m_X8_readGroup (d + 61) 0 0) 0 0 70 [(0, .ref 11), (2, .int x2), (3, .int x3), (4, .int x4), (5, .int (x5 + 1))] [] h (kI K)) ∧ (¬ x4 ≤ x6 → vp_in x6 150 ∧ (Cv (m_X8_appendStep (d + 0) 0 0) [.ref 11, .int (h_i h 32 x6.toNatClampNeg)] h (fun h22 => Wf h22 ∧ (AW (m_X8_readGroup (d + 61) 0 0) 0 0 86 [(0, .ref 11), (2, .int x2), (3, .int x3), (4, .int x4), (5, .int x5), (6, .int (x6 + 1))] [] h22 (kI K)))))) : AW (m_X8_readGroup (d + 61) 0 0) 0 0 86 [(0, .ref 11), (2, .int x2), (3, .int x3), (4, .int x4), (5, .int x5), (6, .int x6)] [] h (kI K) := by
  refine aw_iload d_X8_readGroup_86 5 rfl ?_
  refine aw_iload d_X8_readGroup_88 3 rfl ?_
  refine aw_icmp_ge (tgt := 110) d_X8_readGroup_90 rfl (fun c20 => ?_) (fun c20 => ?_)
  · have k := k.1 c20
    refine aw_iinc (v := (x5 + 1)) [(0, .ref 11), (2, .int x2), (3, .int x3), (4, .int x4), (5, .int (x5 + 1)), (6, .int x6)] d_X8_readGroup_110 4 rfl rfl (Nat.le_of_ble_eq_true rfl) rfl rfl ?_
    refine aw_goto (tgt := 70) d_X8_readGroup_113 rfl ?_
    exact aw_lvp [0, 1, 2, 3, 4] [(0, .ref 11), (2, .int x2), (3, .int x3), (4, .int x4), (5, .int (x5 + 1))] rfl k
  · have k := k.2 c20
    refine aw_aload_n (i := 0) rfl d_X8_readGroup_93 0 rfl ?_
    refine aw_aload_n (i := 0) rfl d_X8_readGroup_94 0 rfl ?_
    refine aw_getr (k0 := 5) kc_8 (ws_11 w) (Nat.le_of_ble_eq_true rfl) tw_65 d_X8_readGroup_95 rfl (wr_11_5 w) ?_
    refine aw_iload d_X8_readGroup_98 5 rfl ?_
    obtain ⟨b21, k⟩ := k
    refine aw_iald (ws_32 w) b21 d_X8_readGroup_100 ?_
    refine aw_Vv 11 [.int (h_i h 32 x6.toNatClampNeg)] [] d_X8_readGroup_101 (cV_X8_appendStep (d + 0) 0 0) kc_8 (ws_11 w) tw_703 rfl (rr0 (Nat.le_of_ble_eq_true rfl) (Nat.le_of_ble_eq_true rfl)) (Nat.le_of_ble_eq_true rfl) xs0 k (fun h22 kk => ?_)
    obtain ⟨w23, k⟩ := kk
    refine aw_iinc (v := (x6 + 1)) [(0, .ref 11), (2, .int x2), (3, .int x3), (4, .int x4), (5, .int x5), (6, .int (x6 + 1))] d_X8_readGroup_104 5 rfl rfl (Nat.le_of_ble_eq_true rfl) rfl rfl ?_
    refine aw_goto (tgt := 86) d_X8_readGroup_107 rfl ?_
    exact k
theorem t_X8_addStep (d : Nat) (h : Hp_) (x1 : Int32) (x2 : Int32) (x3 : Int32) (K : Int32 → Hp_ → Prop) (k : (x2 = (-1) → K 0 h) ∧ (¬ x2 = (-1) → (¬ x3 = (-1) → Ci (m_X0_pack (d + 0) 0 0) [.int x1, .int x2, .int x3] h (fun r5 h3 => Wf h3 ∧ (Cv (m_X8_appendStep (d + 0) 0 0) [.ref 11, .int r5] h3 (fun h6 => Wf h6 ∧ (K 1 h6))))) ∧ (x3 = (-1) → K 0 h))) : Ci (m_X8_addStep (d + 1) 0 0) [.ref 11, .int x1, .int x2, .int x3] h K := by
  refine Ct.of (fun _ _ _ => trivial) pn_X8 (Nat.le_of_ble_eq_true rfl) ?_
  show AW (m_X8_addStep (d + 1) 0 0) 0 0 0 [(0, .ref 11), (1, .int x1), (2, .int x2), (3, .int x3)] [] h (kI K)
  refine aw_iload_n (i := 2) rfl d_X8_addStep_0 2 rfl ?_
  refine aw_iconst (v := (-1)) d_X8_addStep_1 ic_m1 ?_
  refine aw_icmp_eq (tgt := 10) d_X8_addStep_2 rfl (fun c1 => ?_) (fun c1 => ?_)
  · have k := k.1 c1
    refine aw_iconst (v := 0) d_X8_addStep_10 ic_0 ?_
    exact aw_zret rfl rfl d_X8_addStep_11 ⟨Nat.le_refl _, Nat.le_refl _⟩ ⟨_, rfl, k⟩
  · have k := k.2 c1
    refine aw_iload_n (i := 3) rfl d_X8_addStep_5 3 rfl ?_
    refine aw_iconst (v := (-1)) d_X8_addStep_6 ic_m1 ?_
    refine aw_icmp_ne (tgt := 12) d_X8_addStep_7 rfl (fun c2 => ?_) (fun c2 => ?_)
    · have k := k.1 c2
      refine aw_aload_n (i := 0) rfl d_X8_addStep_12 0 rfl ?_
      refine aw_iload_n (i := 1) rfl d_X8_addStep_13 1 rfl ?_
      refine aw_iload_n (i := 2) rfl d_X8_addStep_14 2 rfl ?_
      refine aw_iload_n (i := 3) rfl d_X8_addStep_15 3 rfl ?_
      refine aw_Si [.int x1, .int x2, .int x3] [.ref 11] d_X8_addStep_16 (cS_X0_pack (d + 0) 0 0) tw_700 rfl (rr0 (Nat.le_of_ble_eq_true rfl) (Nat.le_of_ble_eq_true rfl)) (Nat.le_of_ble_eq_true rfl) xs0 k (fun r5 h3 kk => ?_)
      obtain ⟨w4, k⟩ := kk
      refine aw_Vv 11 [.int r5] [] d_X8_addStep_19 (cV_X8_appendStep (d + 0) 0 0) kc_8 (ws_11 w4) tw_703 rfl (rr0 (Nat.le_of_ble_eq_true rfl) (Nat.le_of_ble_eq_true rfl)) (Nat.le_of_ble_eq_true rfl) xs0 k (fun h6 kk => ?_)
      obtain ⟨w7, k⟩ := kk
      refine aw_iconst (v := 1) d_X8_addStep_22 ic_1 ?_
      exact aw_zret rfl rfl d_X8_addStep_23 ⟨Nat.le_refl _, Nat.le_refl _⟩ ⟨_, rfl, k⟩
    · have k := k.2 c2
      refine aw_iconst (v := 0) d_X8_addStep_10 ic_0 ?_
      exact aw_zret rfl rfl d_X8_addStep_11 ⟨Nat.le_refl _, Nat.le_refl _⟩ ⟨_, rfl, k⟩
theorem t_X8_appendStep (d : Nat) (h : Hp_) (w : Wf h) (x1 : Int32) (K : Hp_ → Prop) (k : (150 ≤ (h_i h 11 6) → K (h_im h 11 7 1)) ∧ (¬ 150 ≤ (h_i h 11 6) → vp_in (h_i h 11 6) 150 ∧ (K (h_im (h_im h 32 ((h_i h 11 6) : Int32).toNatClampNeg x1) 11 6 ((h_i h 11 6) + 1))))) : Cv (m_X8_appendStep (d + 0) 0 0) [.ref 11, .int x1] h K := by
  refine Ct.of (fun _ _ _ => trivial) pn_X8 (Nat.le_of_ble_eq_true rfl) ?_
  show AW (m_X8_appendStep (d + 0) 0 0) 0 0 0 [(0, .ref 11), (1, .int x1)] [] h (kV K)
  refine aw_aload_n (i := 0) rfl d_X8_appendStep_0 0 rfl ?_
  refine aw_geti (k0 := 6) kc_8 (ws_11 w) (Nat.le_of_ble_eq_true rfl) tw_68 d_X8_appendStep_1 rfl ?_
  refine aw_aload_n (i := 0) rfl d_X8_appendStep_4 0 rfl ?_
  refine aw_getr (k0 := 5) kc_8 (ws_11 w) (Nat.le_of_ble_eq_true rfl) tw_65 d_X8_appendStep_5 rfl (wr_11_5 w) ?_
  refine aw_alen (v := 150) (ws_32 w) (Nat.le_of_ble_eq_true rfl) rfl d_X8_appendStep_8 ?_
  refine aw_icmp_ge (tgt := 35) d_X8_appendStep_9 rfl (fun c1 => ?_) (fun c1 => ?_)
  · have k := k.1 c1
    refine aw_aload_n (i := 0) rfl d_X8_appendStep_35 0 rfl ?_
    refine aw_iconst (v := 1) d_X8_appendStep_36 ic_1 ?_
    refine aw_puti (k0 := 7) kc_8 (ws_11 w) (Nat.le_of_ble_eq_true rfl) tw_70 d_X8_appendStep_37 rfl rfl ⟨rfl, rfl⟩ ?_
    exact aw_vret rfl d_X8_appendStep_40 ⟨Nat.le_refl _, Nat.le_refl _⟩ ⟨rfl, k⟩
  · have k := k.2 c1
    refine aw_aload_n (i := 0) rfl d_X8_appendStep_12 0 rfl ?_
    refine aw_getr (k0 := 5) kc_8 (ws_11 w) (Nat.le_of_ble_eq_true rfl) tw_65 d_X8_appendStep_13 rfl (wr_11_5 w) ?_
    refine aw_aload_n (i := 0) rfl d_X8_appendStep_16 0 rfl ?_
    refine aw_geti (k0 := 6) kc_8 (ws_11 w) (Nat.le_of_ble_eq_true rfl) tw_68 d_X8_appendStep_17 rfl ?_
    refine aw_iload_n (i := 1) rfl d_X8_appendStep_20 1 rfl ?_
    obtain ⟨b2, k⟩ := k
    refine aw_iast (ws_32 w) b2 d_X8_appendStep_21 ?_
    refine aw_aload_n (i := 0) rfl d_X8_appendStep_22 0 rfl ?_
    refine aw_dup d_X8_appendStep_23 rfl ?_
    refine aw_geti (k0 := 6) kc_8 (ws_11 w) (Nat.le_of_ble_eq_true rfl) tw_68 d_X8_appendStep_24 rfl ?_
    refine aw_vi (v2 := (h_i h 11 6)) (rfl) ?_
    refine aw_iconst (v := 1) d_X8_appendStep_27 ic_1 ?_
    refine aw_iadd d_X8_appendStep_28 ?_
    refine aw_puti (k0 := 6) kc_8 (ws_11 w) (Nat.le_of_ble_eq_true rfl) tw_68 d_X8_appendStep_29 rfl rfl nf_i ?_
    refine aw_goto (tgt := 40) d_X8_appendStep_32 rfl ?_
    exact aw_vret rfl d_X8_appendStep_40 ⟨Nat.le_refl _, Nat.le_refl _⟩ ⟨rfl, k⟩
theorem t_X0_pack (d : Nat) (h : Hp_) (x0 : Int32) (x1 : Int32) (x2 : Int32) (K : Int32 → Hp_ → Prop) (k : K ((x0 ||| (x1 <<< ((2 : Int32) &&& 31))) ||| (x2 <<< ((6 : Int32) &&& 31))) h) : Ci (m_X0_pack (d + 0) 0 0) [.int x0, .int x1, .int x2] h K := by
  refine Ct.of (fun _ _ _ => trivial) pn_X0 (Nat.le_of_ble_eq_true rfl) ?_
  show AW (m_X0_pack (d + 0) 0 0) 0 0 0 [(0, .int x0), (1, .int x1), (2, .int x2)] [] h (kI K)
  refine aw_iload_n (i := 0) rfl d_X0_pack_0 0 rfl ?_
  refine aw_iload_n (i := 1) rfl d_X0_pack_1 1 rfl ?_
  refine aw_iconst (v := 2) d_X0_pack_2 ic_2 ?_
  refine aw_ishl d_X0_pack_3 ?_
  refine aw_ior d_X0_pack_4 ?_
  refine aw_iload_n (i := 2) rfl d_X0_pack_5 2 rfl ?_
  refine aw_bipush (v := 6) d_X0_pack_6 ib_6 ?_
  refine aw_ishl d_X0_pack_8 ?_
  refine aw_ior d_X0_pack_9 ?_
  exact aw_iret rfl d_X0_pack_10 ⟨Nat.le_refl _, Nat.le_refl _⟩ ⟨_, rfl, k⟩
theorem t_X0_keep (d : Nat) (h : Hp_) (w : Wf h)  (K : Int32 → Hp_ → Prop) (k : (12 ≤ (h_i h 12 3) → K (-1) h) ∧ (¬ 12 ≤ (h_i h 12 3) → ((h_i h 11 7) = 0 → AW (m_X0_keep (d + 1) 0 0) 0 0 22 [(0, .ref 12), (1, .ref 11), (2, .int 0), (3, .int 0)] [] h (kI K)) ∧ (¬ (h_i h 11 7) = 0 → K (-1) h))) : Ci (m_X0_keep (d + 1) 0 0) [.ref 12, .ref 11] h K := by
  refine Ct.of (fun _ _ _ => trivial) pn_X0 (Nat.le_of_ble_eq_true rfl) ?_
  show AW (m_X0_keep (d + 1) 0 0) 0 0 0 [(0, .ref 12), (1, .ref 11)] [] h (kI K)
  refine aw_aload_n (i := 0) rfl d_X0_keep_0 0 rfl ?_
  refine aw_geti (k0 := 3) kc_0 (ws_12 w) (Nat.le_of_ble_eq_true rfl) tw_106 d_X0_keep_1 rfl ?_
  refine aw_bipush (v := 12) d_X0_keep_4 ib_12 ?_
  refine aw_icmp_ge (tgt := 16) d_X0_keep_6 rfl (fun c1 => ?_) (fun c1 => ?_)
  · have k := k.1 c1
    refine aw_iconst (v := (-1)) d_X0_keep_16 ic_m1 ?_
    exact aw_iret rfl d_X0_keep_17 ⟨Nat.le_refl _, Nat.le_refl _⟩ ⟨_, rfl, k⟩
  · have k := k.2 c1
    refine aw_aload_n (i := 1) rfl d_X0_keep_9 1 rfl ?_
    refine aw_geti (k0 := 7) kc_8 (ws_11 w) (Nat.le_of_ble_eq_true rfl) tw_69 d_X0_keep_10 rfl ?_
    refine aw_if_eq (tgt := 18) d_X0_keep_13 rfl (fun c2 => ?_) (fun c2 => ?_)
    · have k := k.1 c2
      refine aw_iconst (v := 0) d_X0_keep_18 ic_0 ?_
      refine aw_istore_n (i := 2) rfl [(0, .ref 12), (1, .ref 11), (2, .int 0)] d_X0_keep_19 (Nat.le_of_ble_eq_true rfl) rfl rfl ?_
      refine aw_iconst (v := 0) d_X0_keep_20 ic_0 ?_
      refine aw_istore_n (i := 3) rfl [(0, .ref 12), (1, .ref 11), (2, .int 0), (3, .int 0)] d_X0_keep_21 (Nat.le_of_ble_eq_true rfl) rfl rfl ?_
      exact k
    · have k := k.2 c2
      refine aw_iconst (v := (-1)) d_X0_keep_16 ic_m1 ?_
      exact aw_iret rfl d_X0_keep_17 ⟨Nat.le_refl _, Nat.le_refl _⟩ ⟨_, rfl, k⟩
theorem t_X0_keep_22 (d : Nat) (h : Hp_) (w : Wf h) (x2 : Int32) (x3 : Int32) (K : Int32 → Hp_ → Prop) (k : ((h_i h 11 6) ≤ x3 → vp_in (h_i h 12 3) 12 ∧ (vp_in (h_i h 12 3) 12 ∧ (K (((h_i h 12 3) + 1) - 1) (h_im (h_im (h_im h 35 ((h_i h 12 3) : Int32).toNatClampNeg (h_i h 11 6)) 36 ((h_i h 12 3) : Int32).toNatClampNeg x2) 12 3 ((h_i h 12 3) + 1))))) ∧ (¬ (h_i h 11 6) ≤ x3 → vp_in x3 150 ∧ (vp_in (((h_i h 12 3) * 150) + x3) 1800 ∧ (vp_in x3 150 ∧ (Ci (m_X0_kindOf (d + 0) 0 0) [.int (h_i h 32 x3.toNatClampNeg)] (h_im h 34 ((((h_i h 12 3) * 150) + x3) : Int32).toNatClampNeg (h_i h 32 x3.toNatClampNeg)) (fun r11 h9 => Wf h9 ∧ ((¬ r11 = 2 → AW (m_X0_keep (d + 1) 0 0) 0 0 22 [(0, .ref 12), (1, .ref 11), (2, .int x2), (3, .int (x3 + 1))] [] h9 (kI K)) ∧ (r11 = 2 → AW (m_X0_keep (d + 1) 0 0) 0 0 22 [(0, .ref 12), (1, .ref 11), (2, .int (x2 + 1)), (3, .int (x3 + 1))] [] h9 (kI K))))))))) : AW (m_X0_keep (d + 1) 0 0) 0 0 22 [(0, .ref 12), (1, .ref 11), (2, .int x2), (3, .int x3)] [] h (kI K) := by
  refine aw_iload_n (i := 3) rfl d_X0_keep_22 3 rfl ?_
  refine aw_aload_n (i := 1) rfl d_X0_keep_23 1 rfl ?_
  refine aw_geti (k0 := 6) kc_8 (ws_11 w) (Nat.le_of_ble_eq_true rfl) tw_67 d_X0_keep_24 rfl ?_
  refine aw_icmp_ge (tgt := 73) d_X0_keep_27 rfl (fun c3 => ?_) (fun c3 => ?_)
  · have k := k.1 c3
    refine aw_aload_n (i := 0) rfl d_X0_keep_73 0 rfl ?_
    refine aw_getr (k0 := 1) kc_0 (ws_12 w) (Nat.le_of_ble_eq_true rfl) tw_104 d_X0_keep_74 rfl (wr_12_1 w) ?_
    refine aw_aload_n (i := 0) rfl d_X0_keep_77 0 rfl ?_
    refine aw_geti (k0 := 3) kc_0 (ws_12 w) (Nat.le_of_ble_eq_true rfl) tw_106 d_X0_keep_78 rfl ?_
    refine aw_aload_n (i := 1) rfl d_X0_keep_81 1 rfl ?_
    refine aw_geti (k0 := 6) kc_8 (ws_11 w) (Nat.le_of_ble_eq_true rfl) tw_67 d_X0_keep_82 rfl ?_
    obtain ⟨b4, k⟩ := k
    refine aw_iast (ws_35 w) b4 d_X0_keep_85 ?_
    refine aw_aload_n (i := 0) rfl d_X0_keep_86 0 rfl ?_
    refine aw_getr (k0 := 2) kc_0 (ws_12 w) (Nat.le_of_ble_eq_true rfl) tw_105 d_X0_keep_87 rfl (wr_12_2 w) ?_
    refine aw_aload_n (i := 0) rfl d_X0_keep_90 0 rfl ?_
    refine aw_geti (k0 := 3) kc_0 (ws_12 w) (Nat.le_of_ble_eq_true rfl) tw_106 d_X0_keep_91 rfl ?_
    refine aw_vi (v2 := (h_i h 12 3)) (rfl) ?_
    refine aw_iload_n (i := 2) rfl d_X0_keep_94 2 rfl ?_
    obtain ⟨b5, k⟩ := k
    refine aw_iast (ws_36 w) b5 d_X0_keep_95 ?_
    refine aw_aload_n (i := 0) rfl d_X0_keep_96 0 rfl ?_
    refine aw_dup d_X0_keep_97 rfl ?_
    refine aw_geti (k0 := 3) kc_0 (ws_12 w) (Nat.le_of_ble_eq_true rfl) tw_106 d_X0_keep_98 rfl ?_
    refine aw_vi (v2 := (h_i h 12 3)) (rfl) ?_
    refine aw_iconst (v := 1) d_X0_keep_101 ic_1 ?_
    refine aw_iadd d_X0_keep_102 ?_
    refine aw_puti (k0 := 3) kc_0 (ws_12 w) (Nat.le_of_ble_eq_true rfl) tw_106 d_X0_keep_103 rfl rfl nf_i ?_
    refine aw_aload_n (i := 0) rfl d_X0_keep_106 0 rfl ?_
    refine aw_geti (k0 := 3) kc_0 (ws_12 w) (Nat.le_of_ble_eq_true rfl) tw_106 d_X0_keep_107 rfl ?_
    refine aw_vi (v2 := ((h_i h 12 3) + 1)) (rfl) ?_
    refine aw_iconst (v := 1) d_X0_keep_110 ic_1 ?_
    refine aw_isub d_X0_keep_111 ?_
    exact aw_iret rfl d_X0_keep_112 ⟨Nat.le_refl _, Nat.le_refl _⟩ ⟨_, rfl, k⟩
  · have k := k.2 c3
    refine aw_aload_n (i := 0) rfl d_X0_keep_30 0 rfl ?_
    refine aw_getr (k0 := 0) kc_0 (ws_12 w) (Nat.le_of_ble_eq_true rfl) tw_103 d_X0_keep_31 rfl (wr_12_0 w) ?_
    refine aw_aload_n (i := 0) rfl d_X0_keep_34 0 rfl ?_
    refine aw_geti (k0 := 3) kc_0 (ws_12 w) (Nat.le_of_ble_eq_true rfl) tw_106 d_X0_keep_35 rfl ?_
    refine aw_sipush (v := 150) d_X0_keep_38 is_150 ?_
    refine aw_imul d_X0_keep_41 ?_
    refine aw_iload_n (i := 3) rfl d_X0_keep_42 3 rfl ?_
    refine aw_iadd d_X0_keep_43 ?_
    refine aw_aload_n (i := 1) rfl d_X0_keep_44 1 rfl ?_
    refine aw_getr (k0 := 5) kc_8 (ws_11 w) (Nat.le_of_ble_eq_true rfl) tw_66 d_X0_keep_45 rfl (wr_11_5 w) ?_
    refine aw_iload_n (i := 3) rfl d_X0_keep_48 3 rfl ?_
    obtain ⟨b6, k⟩ := k
    refine aw_iald (ws_32 w) b6 d_X0_keep_49 ?_
    obtain ⟨b7, k⟩ := k
    refine aw_iast (ws_34 w) b7 d_X0_keep_50 ?_
    refine aw_aload_n (i := 1) rfl d_X0_keep_51 1 rfl ?_
    refine aw_getr (k0 := 5) kc_8 (ws_11 w) (Nat.le_of_ble_eq_true rfl) tw_66 d_X0_keep_52 rfl (wr_11_5 w) ?_
    refine aw_iload_n (i := 3) rfl d_X0_keep_55 3 rfl ?_
    obtain ⟨b8, k⟩ := k
    refine aw_iald (ws_32 w) b8 d_X0_keep_56 ?_
    refine aw_vi (v2 := (h_i h 32 x3.toNatClampNeg)) (rfl) ?_
    refine aw_Si [.int (h_i h 32 x3.toNatClampNeg)] [] d_X0_keep_57 (cS_X0_kindOf (d + 0) 0 0) tw_880 rfl (rr0 (Nat.le_of_ble_eq_true rfl) (Nat.le_of_ble_eq_true rfl)) (Nat.le_of_ble_eq_true rfl) xs0 k (fun r11 h9 kk => ?_)
    obtain ⟨w10, k⟩ := kk
    refine aw_iconst (v := 2) d_X0_keep_60 ic_2 ?_
    refine aw_icmp_ne (tgt := 67) d_X0_keep_61 rfl (fun c12 => ?_) (fun c12 => ?_)
    · have k := k.1 c12
      refine aw_iinc (v := (x3 + 1)) [(0, .ref 12), (1, .ref 11), (2, .int x2), (3, .int (x3 + 1))] d_X0_keep_67 3 rfl rfl (Nat.le_of_ble_eq_true rfl) rfl rfl ?_
      refine aw_goto (tgt := 22) d_X0_keep_70 rfl ?_
      exact k
    · have k := k.2 c12
      refine aw_iinc (v := (x2 + 1)) [(0, .ref 12), (1, .ref 11), (2, .int (x2 + 1)), (3, .int x3)] d_X0_keep_64 2 rfl rfl (Nat.le_of_ble_eq_true rfl) rfl rfl ?_
      refine aw_iinc (v := (x3 + 1)) [(0, .ref 12), (1, .ref 11), (2, .int (x2 + 1)), (3, .int (x3 + 1))] d_X0_keep_67 3 rfl rfl (Nat.le_of_ble_eq_true rfl) rfl rfl ?_
      refine aw_goto (tgt := 22) d_X0_keep_70 rfl ?_
      exact k
theorem t_X0_kindOf (d : Nat) (h : Hp_) (x0 : Int32) (K : Int32 → Hp_ → Prop) (k : K (x0 &&& 3) h) : Ci (m_X0_kindOf (d + 0) 0 0) [.int x0] h K := by
  refine Ct.of (fun _ _ _ => trivial) pn_X0 (Nat.le_of_ble_eq_true rfl) ?_
  show AW (m_X0_kindOf (d + 0) 0 0) 0 0 0 [(0, .int x0)] [] h (kI K)
  refine aw_iload_n (i := 0) rfl d_X0_kindOf_0 0 rfl ?_
  refine aw_iconst (v := 3) d_X0_kindOf_1 ic_3 ?_
  refine aw_iand d_X0_kindOf_2 ?_
  exact aw_iret rfl d_X0_kindOf_3 ⟨Nat.le_refl _, Nat.le_refl _⟩ ⟨_, rfl, k⟩
theorem t_X11_beat (d : Nat) (h : Hp_) (w : Wf h)  (K : Int32 → Hp_ → Prop) (k : Ci (m_X8_readBeat (d + 104) 0 0) [.ref 11] h (fun r3 h1 => Wf h1 ∧ ((r3 = (-1) → Ci (m_X0_keep (d + 1) 0 0) [.ref 12, .ref 11] h1 (fun r7 h5 => Wf h5 ∧ ((r7 = (-1) → K r7 h5) ∧ (¬ r7 = (-1) → Ci (m_X8_cut (d + 1) 0 0) [.ref 11, .int 0] h5 (fun r11 h9 => Wf h9 ∧ (K r7 h9)))))) ∧ (¬ r3 = (-1) → K (-1) h1)))) : Ci (m_X11_beat (d + 105) 0 0) [.ref 0] h K := by
  refine Ct.of (fun _ _ _ => trivial) pn_X11 (Nat.le_of_ble_eq_true rfl) ?_
  show AW (m_X11_beat (d + 105) 0 0) 0 0 0 [(0, .ref 0)] [] h (kI K)
  refine aw_aload_n (i := 0) rfl d_X11_beat_0 0 rfl ?_
  refine aw_getr (k0 := 2) kc_11 (ws_0 w) (Nat.le_of_ble_eq_true rfl) tw_489 d_X11_beat_1 rfl (wr_0_2 w) ?_
  refine aw_Vi 11 [] [] d_X11_beat_4 (cV_X8_readBeat (d + 104) 0 0) kc_8 (ws_11 w) tw_669 rfl (rr0 (Nat.le_of_ble_eq_true rfl) (Nat.le_of_ble_eq_true rfl)) (Nat.le_of_ble_eq_true rfl) xs0 k (fun r3 h1 kk => ?_)
  obtain ⟨w2, k⟩ := kk
  refine aw_iconst (v := (-1)) d_X11_beat_7 ic_m1 ?_
  refine aw_icmp_eq (tgt := 13) d_X11_beat_8 rfl (fun c4 => ?_) (fun c4 => ?_)
  · have k := k.1 c4
    refine aw_aload_n (i := 0) rfl d_X11_beat_13 0 rfl ?_
    refine aw_getr (k0 := 3) kc_11 (ws_0 w2) (Nat.le_of_ble_eq_true rfl) tw_490 d_X11_beat_14 rfl (wr_0_3 w2) ?_
    refine aw_aload_n (i := 0) rfl d_X11_beat_17 0 rfl ?_
    refine aw_getr (k0 := 2) kc_11 (ws_0 w2) (Nat.le_of_ble_eq_true rfl) tw_489 d_X11_beat_18 rfl (wr_0_2 w2) ?_
    refine aw_Vi 12 [.ref 11] [] d_X11_beat_21 (cV_X0_keep (d + 1) 0 0) kc_0 (ws_12 w2) tw_876 rfl (rr0 (Nat.le_of_ble_eq_true rfl) (Nat.le_of_ble_eq_true rfl)) (Nat.le_of_ble_eq_true rfl) xs0 k (fun r7 h5 kk => ?_)
    obtain ⟨w6, k⟩ := kk
    refine aw_istore_n (i := 1) rfl [(0, .ref 0), (1, .int r7)] d_X11_beat_24 (Nat.le_of_ble_eq_true rfl) rfl rfl ?_
    refine aw_iload_n (i := 1) rfl d_X11_beat_25 1 rfl ?_
    refine aw_iconst (v := (-1)) d_X11_beat_26 ic_m1 ?_
    refine aw_icmp_eq (tgt := 39) d_X11_beat_27 rfl (fun c8 => ?_) (fun c8 => ?_)
    · have k := k.1 c8
      refine aw_iload_n (i := 1) rfl d_X11_beat_39 1 rfl ?_
      exact aw_iret rfl d_X11_beat_40 ⟨Nat.le_refl _, Nat.le_refl _⟩ ⟨_, rfl, k⟩
    · have k := k.2 c8
      refine aw_aload_n (i := 0) rfl d_X11_beat_30 0 rfl ?_
      refine aw_getr (k0 := 2) kc_11 (ws_0 w6) (Nat.le_of_ble_eq_true rfl) tw_489 d_X11_beat_31 rfl (wr_0_2 w6) ?_
      refine aw_iconst (v := 0) d_X11_beat_34 ic_0 ?_
      refine aw_Vi 11 [.int 0] [] d_X11_beat_35 (cV_X8_cut (d + 1) 0 0) kc_8 (ws_11 w6) tw_660 rfl (rr0 (Nat.le_of_ble_eq_true rfl) (Nat.le_of_ble_eq_true rfl)) (Nat.le_of_ble_eq_true rfl) xs0 k (fun r11 h9 kk => ?_)
      obtain ⟨w10, k⟩ := kk
      refine aw_pop d_X11_beat_38 rfl ?_
      refine aw_iload_n (i := 1) rfl d_X11_beat_39 1 rfl ?_
      exact aw_iret rfl d_X11_beat_40 ⟨Nat.le_refl _, Nat.le_refl _⟩ ⟨_, rfl, k⟩
  · have k := k.2 c4
    refine aw_iconst (v := (-1)) d_X11_beat_11 ic_m1 ?_
    exact aw_iret rfl d_X11_beat_12 ⟨Nat.le_refl _, Nat.le_refl _⟩ ⟨_, rfl, k⟩
theorem t_X8_cut (d : Nat) (h : Hp_) (w : Wf h) (x1 : Int32) (K : Int32 → Hp_ → Prop) (k : ((0 ≤ x1 ∧ x1 ≤ (h_i h 11 1)) → K 1 (h_im h 11 1 x1)) ∧ (¬ (0 ≤ x1 ∧ x1 ≤ (h_i h 11 1)) → K 0 h)) : Ci (m_X8_cut (d + 1) 0 0) [.ref 11, .int x1] h K := by
  refine Ct.of (fun _ _ _ => trivial) pn_X8 (Nat.le_of_ble_eq_true rfl) ?_
  show AW (m_X8_cut (d + 1) 0 0) 0 0 0 [(0, .ref 11), (1, .int x1)] [] h (kI K)
  refine aw_iload_n (i := 1) rfl d_X8_cut_0 1 rfl ?_
  refine aw_iconst (v := 0) d_X8_cut_1 ic_0 ?_
  refine aw_aload_n (i := 0) rfl d_X8_cut_2 0 rfl ?_
  refine aw_geti (k0 := 1) kc_8 (ws_11 w) (Nat.le_of_ble_eq_true rfl) tw_60 d_X8_cut_3 rfl ?_
  refine aw_SNi [.int x1, .int 0, .int (h_i h 11 1)] [] d_X8_cut_6 (cS_X11_within (d + 0) 0 0) (List.mem_of_getElem? (i := 8) rfl) rfl (rr0 (Nat.le_of_ble_eq_true rfl) (Nat.le_of_ble_eq_true rfl)) (Nat.le_of_ble_eq_true rfl) xs0 (s_X11_within _ _ x1 0 (h_i h 11 1)) (fun _ _ kk => ?_)
  obtain ⟨e1, e2⟩ := kk
  rw [e1, e2]
  refine aw_ifb_ne (tgt := 14) d_X8_cut_9 rfl (fun c3 => ?_) (fun c3 => ?_)
  · have k := k.1 c3
    refine aw_aload_n (i := 0) rfl d_X8_cut_14 0 rfl ?_
    refine aw_iload_n (i := 1) rfl d_X8_cut_15 1 rfl ?_
    refine aw_puti (k0 := 1) kc_8 (ws_11 w) (Nat.le_of_ble_eq_true rfl) tw_60 d_X8_cut_16 rfl rfl nf_i ?_
    refine aw_iconst (v := 1) d_X8_cut_19 ic_1 ?_
    exact aw_zret rfl rfl d_X8_cut_20 ⟨Nat.le_refl _, Nat.le_refl _⟩ ⟨_, rfl, k⟩
  · have k := k.2 c3
    refine aw_iconst (v := 0) d_X8_cut_12 ic_0 ?_
    exact aw_zret rfl rfl d_X8_cut_13 ⟨Nat.le_refl _, Nat.le_refl _⟩ ⟨_, rfl, k⟩
theorem t_X10_keep_13 (d : Nat) (h : Hp_) (w : Wf h) (x1 : Int32) (x2 : Int32) (K : Int32 → Hp_ → Prop) (k : ((h_i h 13 5) < 20 → vp_in (h_i h 13 5) 20 ∧ (vp_in (h_i h 13 5) 20 ∧ (vp_in (h_i h 13 5) 20 ∧ ((¬ (0 : Int32) < 0 ∧ ¬ ((h_i h 13 5) * 164) < 0 ∧ ¬ (h_i h 11 9) < 0 ∧ (0 : Int32).toNatClampNeg + (h_i h 11 9).toNatClampNeg ≤ 164 ∧ ((h_i h 13 5) * 164).toNatClampNeg + (h_i h 11 9).toNatClampNeg ≤ 3280) ∧ (AW (m_X10_keep (d + 1) 0 0) 0 0 68 [(0, .ref 13)] [] (h_iw (h_im (h_im (h_im h 37 ((h_i h 13 5) : Int32).toNatClampNeg x1) 38 ((h_i h 13 5) : Int32).toNatClampNeg x2) 39 ((h_i h 13 5) : Int32).toNatClampNeg (h_i h 11 9)) 40 (va_cpy (h_i (h_im (h_im (h_im h 37 ((h_i h 13 5) : Int32).toNatClampNeg x1) 38 ((h_i h 13 5) : Int32).toNatClampNeg x2) 39 ((h_i h 13 5) : Int32).toNatClampNeg (h_i h 11 9)) 33) (h_i (h_im (h_im (h_im h 37 ((h_i h 13 5) : Int32).toNatClampNeg x1) 38 ((h_i h 13 5) : Int32).toNatClampNeg x2) 39 ((h_i h 13 5) : Int32).toNatClampNeg (h_i h 11 9)) 40) (0 : Int32).toNatClampNeg ((h_i h 13 5) * 164).toNatClampNeg (h_i h 11 9).toNatClampNeg)) (kI K)))))) ∧ (¬ (h_i h 13 5) < 20 → K (-1) h)) : Ci (m_X10_keep (d + 1) 0 0) [.ref 13, .int x1, .int x2, .ref 11] h K := by
  refine Ct.of (fun _ _ _ => trivial) pn_X10 (Nat.le_of_ble_eq_true rfl) ?_
  show AW (m_X10_keep (d + 1) 0 0) 0 0 0 [(0, .ref 13), (1, .int x1), (2, .int x2), (3, .ref 11)] [] h (kI K)
  refine aw_aload_n (i := 0) rfl d_X10_keep_0 0 rfl ?_
  refine aw_geti (k0 := 5) kc_10 (ws_13 w) (Nat.le_of_ble_eq_true rfl) tw_129 d_X10_keep_1 rfl ?_
  refine aw_bipush (v := 20) d_X10_keep_4 ib_20 ?_
  refine aw_icmp_lt (tgt := 11) d_X10_keep_6 rfl (fun c1 => ?_) (fun c1 => ?_)
  · have k := k.1 c1
    refine aw_aload_n (i := 0) rfl d_X10_keep_11 0 rfl ?_
    refine aw_getr (k0 := 0) kc_10 (ws_13 w) (Nat.le_of_ble_eq_true rfl) tw_124 d_X10_keep_12 rfl (wr_13_0 w) ?_
    refine aw_aload_n (i := 0) rfl d_X10_keep_15 0 rfl ?_
    refine aw_geti (k0 := 5) kc_10 (ws_13 w) (Nat.le_of_ble_eq_true rfl) tw_129 d_X10_keep_16 rfl ?_
    refine aw_iload_n (i := 1) rfl d_X10_keep_19 1 rfl ?_
    obtain ⟨b2, k⟩ := k
    refine aw_iast (ws_37 w) b2 d_X10_keep_20 ?_
    refine aw_aload_n (i := 0) rfl d_X10_keep_21 0 rfl ?_
    refine aw_getr (k0 := 1) kc_10 (ws_13 w) (Nat.le_of_ble_eq_true rfl) tw_125 d_X10_keep_22 rfl (wr_13_1 w) ?_
    refine aw_aload_n (i := 0) rfl d_X10_keep_25 0 rfl ?_
    refine aw_geti (k0 := 5) kc_10 (ws_13 w) (Nat.le_of_ble_eq_true rfl) tw_129 d_X10_keep_26 rfl ?_
    refine aw_vi (v2 := (h_i h 13 5)) (rfl) ?_
    refine aw_iload_n (i := 2) rfl d_X10_keep_29 2 rfl ?_
    obtain ⟨b3, k⟩ := k
    refine aw_iast (ws_38 w) b3 d_X10_keep_30 ?_
    refine aw_aload_n (i := 0) rfl d_X10_keep_31 0 rfl ?_
    refine aw_getr (k0 := 2) kc_10 (ws_13 w) (Nat.le_of_ble_eq_true rfl) tw_126 d_X10_keep_32 rfl (wr_13_2 w) ?_
    refine aw_aload_n (i := 0) rfl d_X10_keep_35 0 rfl ?_
    refine aw_geti (k0 := 5) kc_10 (ws_13 w) (Nat.le_of_ble_eq_true rfl) tw_129 d_X10_keep_36 rfl ?_
    refine aw_vi (v2 := (h_i h 13 5)) (rfl) ?_
    refine aw_aload_n (i := 3) rfl d_X10_keep_39 3 rfl ?_
    refine aw_geti (k0 := 9) kc_8 (ws_11 w) (Nat.le_of_ble_eq_true rfl) tw_73 d_X10_keep_40 rfl ?_
    refine aw_vi (v2 := (h_i h 11 9)) (rfl) ?_
    obtain ⟨b4, k⟩ := k
    refine aw_iast (ws_39 w) b4 d_X10_keep_43 ?_
    refine aw_aload_n (i := 3) rfl d_X10_keep_44 3 rfl ?_
    refine aw_getr (k0 := 8) kc_8 (ws_11 w) (Nat.le_of_ble_eq_true rfl) tw_72 d_X10_keep_45 rfl (wr_11_8 w) ?_
    refine aw_iconst (v := 0) d_X10_keep_48 ic_0 ?_
    refine aw_aload_n (i := 0) rfl d_X10_keep_49 0 rfl ?_
    refine aw_getr (k0 := 3) kc_10 (ws_13 w) (Nat.le_of_ble_eq_true rfl) tw_127 d_X10_keep_50 rfl (wr_13_3 w) ?_
    refine aw_aload_n (i := 0) rfl d_X10_keep_53 0 rfl ?_
    refine aw_geti (k0 := 5) kc_10 (ws_13 w) (Nat.le_of_ble_eq_true rfl) tw_129 d_X10_keep_54 rfl ?_
    refine aw_vi (v2 := (h_i h 13 5)) (rfl) ?_
    refine aw_sipush (v := 164) d_X10_keep_57 is_164 ?_
    refine aw_imul d_X10_keep_60 ?_
    refine aw_aload_n (i := 3) rfl d_X10_keep_61 3 rfl ?_
    refine aw_geti (k0 := 9) kc_8 (ws_11 w) (Nat.le_of_ble_eq_true rfl) tw_73 d_X10_keep_62 rfl ?_
    refine aw_vi (v2 := (h_i h 11 9)) (rfl) ?_
    obtain ⟨b5, k⟩ := k
    refine aw_copyi (ws_33 w) (ws_40 w) b5.1 b5.2.1 b5.2.2.1 b5.2.2.2.1 b5.2.2.2.2 tw_1167 (show 1 ≤ (d + 1) by omega) (Nat.le_trans (Nat.le_of_ble_eq_true rfl) (show 100 ≤ 100 * (d + 1) by omega)) d_X10_keep_65 ?_
    exact aw_lvp [0] [(0, .ref 13)] rfl k
  · have k := k.2 c1
    refine aw_iconst (v := (-1)) d_X10_keep_9 ic_m1 ?_
    exact aw_iret rfl d_X10_keep_10 ⟨Nat.le_refl _, Nat.le_refl _⟩ ⟨_, rfl, k⟩
theorem t_X10_keep_13_68 (d : Nat) (h : Hp_) (w : Wf h)  (K : Int32 → Hp_ → Prop) (k : K (((h_i h 13 5) + 1) - 1) (h_im h 13 5 ((h_i h 13 5) + 1))) : AW (m_X10_keep (d + 1) 0 0) 0 0 68 [(0, .ref 13)] [] h (kI K) := by
  refine aw_aload_n (i := 0) rfl d_X10_keep_68 0 rfl ?_
  refine aw_dup d_X10_keep_69 rfl ?_
  refine aw_geti (k0 := 5) kc_10 (ws_13 w) (Nat.le_of_ble_eq_true rfl) tw_129 d_X10_keep_70 rfl ?_
  refine aw_iconst (v := 1) d_X10_keep_73 ic_1 ?_
  refine aw_iadd d_X10_keep_74 ?_
  refine aw_puti (k0 := 5) kc_10 (ws_13 w) (Nat.le_of_ble_eq_true rfl) tw_129 d_X10_keep_75 rfl rfl nf_i ?_
  refine aw_aload_n (i := 0) rfl d_X10_keep_78 0 rfl ?_
  refine aw_geti (k0 := 5) kc_10 (ws_13 w) (Nat.le_of_ble_eq_true rfl) tw_129 d_X10_keep_79 rfl ?_
  refine aw_vi (v2 := ((h_i h 13 5) + 1)) (rfl) ?_
  refine aw_iconst (v := 1) d_X10_keep_82 ic_1 ?_
  refine aw_isub d_X10_keep_83 ?_
  exact aw_iret rfl d_X10_keep_84 ⟨Nat.le_refl _, Nat.le_refl _⟩ ⟨_, rfl, k⟩
theorem t_X10_keep_14 (d : Nat) (h : Hp_) (w : Wf h) (x1 : Int32) (x2 : Int32) (K : Int32 → Hp_ → Prop) (k : ((h_i h 14 5) < 20 → vp_in (h_i h 14 5) 20 ∧ (vp_in (h_i h 14 5) 20 ∧ (vp_in (h_i h 14 5) 20 ∧ ((¬ (0 : Int32) < 0 ∧ ¬ ((h_i h 14 5) * 164) < 0 ∧ ¬ (h_i h 11 9) < 0 ∧ (0 : Int32).toNatClampNeg + (h_i h 11 9).toNatClampNeg ≤ 164 ∧ ((h_i h 14 5) * 164).toNatClampNeg + (h_i h 11 9).toNatClampNeg ≤ 3280) ∧ (AW (m_X10_keep (d + 1) 0 0) 0 0 68 [(0, .ref 14)] [] (h_iw (h_im (h_im (h_im h 42 ((h_i h 14 5) : Int32).toNatClampNeg x1) 43 ((h_i h 14 5) : Int32).toNatClampNeg x2) 44 ((h_i h 14 5) : Int32).toNatClampNeg (h_i h 11 9)) 45 (va_cpy (h_i (h_im (h_im (h_im h 42 ((h_i h 14 5) : Int32).toNatClampNeg x1) 43 ((h_i h 14 5) : Int32).toNatClampNeg x2) 44 ((h_i h 14 5) : Int32).toNatClampNeg (h_i h 11 9)) 33) (h_i (h_im (h_im (h_im h 42 ((h_i h 14 5) : Int32).toNatClampNeg x1) 43 ((h_i h 14 5) : Int32).toNatClampNeg x2) 44 ((h_i h 14 5) : Int32).toNatClampNeg (h_i h 11 9)) 45) (0 : Int32).toNatClampNeg ((h_i h 14 5) * 164).toNatClampNeg (h_i h 11 9).toNatClampNeg)) (kI K)))))) ∧ (¬ (h_i h 14 5) < 20 → K (-1) h)) : Ci (m_X10_keep (d + 1) 0 0) [.ref 14, .int x1, .int x2, .ref 11] h K := by
  refine Ct.of (fun _ _ _ => trivial) pn_X10 (Nat.le_of_ble_eq_true rfl) ?_
  show AW (m_X10_keep (d + 1) 0 0) 0 0 0 [(0, .ref 14), (1, .int x1), (2, .int x2), (3, .ref 11)] [] h (kI K)
  refine aw_aload_n (i := 0) rfl d_X10_keep_0 0 rfl ?_
  refine aw_geti (k0 := 5) kc_10 (ws_14 w) (Nat.le_of_ble_eq_true rfl) tw_129 d_X10_keep_1 rfl ?_
  refine aw_bipush (v := 20) d_X10_keep_4 ib_20 ?_
  refine aw_icmp_lt (tgt := 11) d_X10_keep_6 rfl (fun c1 => ?_) (fun c1 => ?_)
  · have k := k.1 c1
    refine aw_aload_n (i := 0) rfl d_X10_keep_11 0 rfl ?_
    refine aw_getr (k0 := 0) kc_10 (ws_14 w) (Nat.le_of_ble_eq_true rfl) tw_124 d_X10_keep_12 rfl (wr_14_0 w) ?_
    refine aw_aload_n (i := 0) rfl d_X10_keep_15 0 rfl ?_
    refine aw_geti (k0 := 5) kc_10 (ws_14 w) (Nat.le_of_ble_eq_true rfl) tw_129 d_X10_keep_16 rfl ?_
    refine aw_iload_n (i := 1) rfl d_X10_keep_19 1 rfl ?_
    obtain ⟨b2, k⟩ := k
    refine aw_iast (ws_42 w) b2 d_X10_keep_20 ?_
    refine aw_aload_n (i := 0) rfl d_X10_keep_21 0 rfl ?_
    refine aw_getr (k0 := 1) kc_10 (ws_14 w) (Nat.le_of_ble_eq_true rfl) tw_125 d_X10_keep_22 rfl (wr_14_1 w) ?_
    refine aw_aload_n (i := 0) rfl d_X10_keep_25 0 rfl ?_
    refine aw_geti (k0 := 5) kc_10 (ws_14 w) (Nat.le_of_ble_eq_true rfl) tw_129 d_X10_keep_26 rfl ?_
    refine aw_vi (v2 := (h_i h 14 5)) (rfl) ?_
    refine aw_iload_n (i := 2) rfl d_X10_keep_29 2 rfl ?_
    obtain ⟨b3, k⟩ := k
    refine aw_iast (ws_43 w) b3 d_X10_keep_30 ?_
    refine aw_aload_n (i := 0) rfl d_X10_keep_31 0 rfl ?_
    refine aw_getr (k0 := 2) kc_10 (ws_14 w) (Nat.le_of_ble_eq_true rfl) tw_126 d_X10_keep_32 rfl (wr_14_2 w) ?_
    refine aw_aload_n (i := 0) rfl d_X10_keep_35 0 rfl ?_
    refine aw_geti (k0 := 5) kc_10 (ws_14 w) (Nat.le_of_ble_eq_true rfl) tw_129 d_X10_keep_36 rfl ?_
    refine aw_vi (v2 := (h_i h 14 5)) (rfl) ?_
    refine aw_aload_n (i := 3) rfl d_X10_keep_39 3 rfl ?_
    refine aw_geti (k0 := 9) kc_8 (ws_11 w) (Nat.le_of_ble_eq_true rfl) tw_73 d_X10_keep_40 rfl ?_
    refine aw_vi (v2 := (h_i h 11 9)) (rfl) ?_
    obtain ⟨b4, k⟩ := k
    refine aw_iast (ws_44 w) b4 d_X10_keep_43 ?_
    refine aw_aload_n (i := 3) rfl d_X10_keep_44 3 rfl ?_
    refine aw_getr (k0 := 8) kc_8 (ws_11 w) (Nat.le_of_ble_eq_true rfl) tw_72 d_X10_keep_45 rfl (wr_11_8 w) ?_
    refine aw_iconst (v := 0) d_X10_keep_48 ic_0 ?_
    refine aw_aload_n (i := 0) rfl d_X10_keep_49 0 rfl ?_
    refine aw_getr (k0 := 3) kc_10 (ws_14 w) (Nat.le_of_ble_eq_true rfl) tw_127 d_X10_keep_50 rfl (wr_14_3 w) ?_
    refine aw_aload_n (i := 0) rfl d_X10_keep_53 0 rfl ?_
    refine aw_geti (k0 := 5) kc_10 (ws_14 w) (Nat.le_of_ble_eq_true rfl) tw_129 d_X10_keep_54 rfl ?_
    refine aw_vi (v2 := (h_i h 14 5)) (rfl) ?_
    refine aw_sipush (v := 164) d_X10_keep_57 is_164 ?_
    refine aw_imul d_X10_keep_60 ?_
    refine aw_aload_n (i := 3) rfl d_X10_keep_61 3 rfl ?_
    refine aw_geti (k0 := 9) kc_8 (ws_11 w) (Nat.le_of_ble_eq_true rfl) tw_73 d_X10_keep_62 rfl ?_
    refine aw_vi (v2 := (h_i h 11 9)) (rfl) ?_
    obtain ⟨b5, k⟩ := k
    refine aw_copyi (ws_33 w) (ws_45 w) b5.1 b5.2.1 b5.2.2.1 b5.2.2.2.1 b5.2.2.2.2 tw_1167 (show 1 ≤ (d + 1) by omega) (Nat.le_trans (Nat.le_of_ble_eq_true rfl) (show 100 ≤ 100 * (d + 1) by omega)) d_X10_keep_65 ?_
    exact aw_lvp [0] [(0, .ref 14)] rfl k
  · have k := k.2 c1
    refine aw_iconst (v := (-1)) d_X10_keep_9 ic_m1 ?_
    exact aw_iret rfl d_X10_keep_10 ⟨Nat.le_refl _, Nat.le_refl _⟩ ⟨_, rfl, k⟩
theorem t_X10_keep_14_68 (d : Nat) (h : Hp_) (w : Wf h)  (K : Int32 → Hp_ → Prop) (k : K (((h_i h 14 5) + 1) - 1) (h_im h 14 5 ((h_i h 14 5) + 1))) : AW (m_X10_keep (d + 1) 0 0) 0 0 68 [(0, .ref 14)] [] h (kI K) := by
  refine aw_aload_n (i := 0) rfl d_X10_keep_68 0 rfl ?_
  refine aw_dup d_X10_keep_69 rfl ?_
  refine aw_geti (k0 := 5) kc_10 (ws_14 w) (Nat.le_of_ble_eq_true rfl) tw_129 d_X10_keep_70 rfl ?_
  refine aw_iconst (v := 1) d_X10_keep_73 ic_1 ?_
  refine aw_iadd d_X10_keep_74 ?_
  refine aw_puti (k0 := 5) kc_10 (ws_14 w) (Nat.le_of_ble_eq_true rfl) tw_129 d_X10_keep_75 rfl rfl nf_i ?_
  refine aw_aload_n (i := 0) rfl d_X10_keep_78 0 rfl ?_
  refine aw_geti (k0 := 5) kc_10 (ws_14 w) (Nat.le_of_ble_eq_true rfl) tw_129 d_X10_keep_79 rfl ?_
  refine aw_vi (v2 := ((h_i h 14 5) + 1)) (rfl) ?_
  refine aw_iconst (v := 1) d_X10_keep_82 ic_1 ?_
  refine aw_isub d_X10_keep_83 ?_
  exact aw_iret rfl d_X10_keep_84 ⟨Nat.le_refl _, Nat.le_refl _⟩ ⟨_, rfl, k⟩
theorem t_X11_keepRule_13 (d : Nat) (h : Hp_) (w : Wf h) (x2 : Int32) (K : Int32 → Hp_ → Prop) (k : Ci (m_X10_keep (d + 1) 0 0) [.ref 13, .int x2, .int (h_i h 0 0), .ref 11] h (fun r3 h1 => Wf h1 ∧ ((r3 = (-1) → K r3 h1) ∧ (¬ r3 = (-1) → Ci (m_X8_cut (d + 1) 0 0) [.ref 11, .int 0] h1 (fun r7 h5 => Wf h5 ∧ (K r3 h5)))))) : Ci (m_X11_keepRule (d + 3) 0 0) [.ref 0, .ref 13, .int x2] h K := by
  refine Ct.of (fun _ _ _ => trivial) pn_X11 (Nat.le_of_ble_eq_true rfl) ?_
  show AW (m_X11_keepRule (d + 3) 0 0) 0 0 0 [(0, .ref 0), (1, .ref 13), (2, .int x2)] [] h (kI K)
  refine aw_aload_n (i := 1) rfl d_X11_keepRule_0 1 rfl ?_
  refine aw_iload_n (i := 2) rfl d_X11_keepRule_1 2 rfl ?_
  refine aw_aload_n (i := 0) rfl d_X11_keepRule_2 0 rfl ?_
  refine aw_geti (k0 := 0) kc_11 (ws_0 w) (Nat.le_of_ble_eq_true rfl) tw_487 d_X11_keepRule_3 rfl ?_
  refine aw_aload_n (i := 0) rfl d_X11_keepRule_6 0 rfl ?_
  refine aw_getr (k0 := 2) kc_11 (ws_0 w) (Nat.le_of_ble_eq_true rfl) tw_489 d_X11_keepRule_7 rfl (wr_0_2 w) ?_
  refine aw_Vi 13 [.int x2, .int (h_i h 0 0), .ref 11] [] d_X11_keepRule_10 (cV_X10_keep (d + 1) 0 0) kc_10 (ws_13 w) tw_1163 rfl (rr0 (Nat.le_of_ble_eq_true rfl) (Nat.le_of_ble_eq_true rfl)) (Nat.le_of_ble_eq_true rfl) xs0 k (fun r3 h1 kk => ?_)
  obtain ⟨w2, k⟩ := kk
  refine aw_istore_n (i := 3) rfl [(0, .ref 0), (1, .ref 13), (2, .int x2), (3, .int r3)] d_X11_keepRule_13 (Nat.le_of_ble_eq_true rfl) rfl rfl ?_
  refine aw_iload_n (i := 3) rfl d_X11_keepRule_14 3 rfl ?_
  refine aw_iconst (v := (-1)) d_X11_keepRule_15 ic_m1 ?_
  refine aw_icmp_eq (tgt := 28) d_X11_keepRule_16 rfl (fun c4 => ?_) (fun c4 => ?_)
  · have k := k.1 c4
    refine aw_iload_n (i := 3) rfl d_X11_keepRule_28 3 rfl ?_
    exact aw_iret rfl d_X11_keepRule_29 ⟨Nat.le_refl _, Nat.le_refl _⟩ ⟨_, rfl, k⟩
  · have k := k.2 c4
    refine aw_aload_n (i := 0) rfl d_X11_keepRule_19 0 rfl ?_
    refine aw_getr (k0 := 2) kc_11 (ws_0 w2) (Nat.le_of_ble_eq_true rfl) tw_489 d_X11_keepRule_20 rfl (wr_0_2 w2) ?_
    refine aw_iconst (v := 0) d_X11_keepRule_23 ic_0 ?_
    refine aw_Vi 11 [.int 0] [] d_X11_keepRule_24 (cV_X8_cut (d + 1) 0 0) kc_8 (ws_11 w2) tw_660 rfl (rr0 (Nat.le_of_ble_eq_true rfl) (Nat.le_of_ble_eq_true rfl)) (Nat.le_of_ble_eq_true rfl) xs0 k (fun r7 h5 kk => ?_)
    obtain ⟨w6, k⟩ := kk
    refine aw_pop d_X11_keepRule_27 rfl ?_
    refine aw_iload_n (i := 3) rfl d_X11_keepRule_28 3 rfl ?_
    exact aw_iret rfl d_X11_keepRule_29 ⟨Nat.le_refl _, Nat.le_refl _⟩ ⟨_, rfl, k⟩
theorem t_X11_keepRule_14 (d : Nat) (h : Hp_) (w : Wf h) (x2 : Int32) (K : Int32 → Hp_ → Prop) (k : Ci (m_X10_keep (d + 1) 0 0) [.ref 14, .int x2, .int (h_i h 0 0), .ref 11] h (fun r3 h1 => Wf h1 ∧ ((r3 = (-1) → K r3 h1) ∧ (¬ r3 = (-1) → Ci (m_X8_cut (d + 1) 0 0) [.ref 11, .int 0] h1 (fun r7 h5 => Wf h5 ∧ (K r3 h5)))))) : Ci (m_X11_keepRule (d + 3) 0 0) [.ref 0, .ref 14, .int x2] h K := by
  refine Ct.of (fun _ _ _ => trivial) pn_X11 (Nat.le_of_ble_eq_true rfl) ?_
  show AW (m_X11_keepRule (d + 3) 0 0) 0 0 0 [(0, .ref 0), (1, .ref 14), (2, .int x2)] [] h (kI K)
  refine aw_aload_n (i := 1) rfl d_X11_keepRule_0 1 rfl ?_
  refine aw_iload_n (i := 2) rfl d_X11_keepRule_1 2 rfl ?_
  refine aw_aload_n (i := 0) rfl d_X11_keepRule_2 0 rfl ?_
  refine aw_geti (k0 := 0) kc_11 (ws_0 w) (Nat.le_of_ble_eq_true rfl) tw_487 d_X11_keepRule_3 rfl ?_
  refine aw_aload_n (i := 0) rfl d_X11_keepRule_6 0 rfl ?_
  refine aw_getr (k0 := 2) kc_11 (ws_0 w) (Nat.le_of_ble_eq_true rfl) tw_489 d_X11_keepRule_7 rfl (wr_0_2 w) ?_
  refine aw_Vi 14 [.int x2, .int (h_i h 0 0), .ref 11] [] d_X11_keepRule_10 (cV_X10_keep (d + 1) 0 0) kc_10 (ws_14 w) tw_1163 rfl (rr0 (Nat.le_of_ble_eq_true rfl) (Nat.le_of_ble_eq_true rfl)) (Nat.le_of_ble_eq_true rfl) xs0 k (fun r3 h1 kk => ?_)
  obtain ⟨w2, k⟩ := kk
  refine aw_istore_n (i := 3) rfl [(0, .ref 0), (1, .ref 14), (2, .int x2), (3, .int r3)] d_X11_keepRule_13 (Nat.le_of_ble_eq_true rfl) rfl rfl ?_
  refine aw_iload_n (i := 3) rfl d_X11_keepRule_14 3 rfl ?_
  refine aw_iconst (v := (-1)) d_X11_keepRule_15 ic_m1 ?_
  refine aw_icmp_eq (tgt := 28) d_X11_keepRule_16 rfl (fun c4 => ?_) (fun c4 => ?_)
  · have k := k.1 c4
    refine aw_iload_n (i := 3) rfl d_X11_keepRule_28 3 rfl ?_
    exact aw_iret rfl d_X11_keepRule_29 ⟨Nat.le_refl _, Nat.le_refl _⟩ ⟨_, rfl, k⟩
  · have k := k.2 c4
    refine aw_aload_n (i := 0) rfl d_X11_keepRule_19 0 rfl ?_
    refine aw_getr (k0 := 2) kc_11 (ws_0 w2) (Nat.le_of_ble_eq_true rfl) tw_489 d_X11_keepRule_20 rfl (wr_0_2 w2) ?_
    refine aw_iconst (v := 0) d_X11_keepRule_23 ic_0 ?_
    refine aw_Vi 11 [.int 0] [] d_X11_keepRule_24 (cV_X8_cut (d + 1) 0 0) kc_8 (ws_11 w2) tw_660 rfl (rr0 (Nat.le_of_ble_eq_true rfl) (Nat.le_of_ble_eq_true rfl)) (Nat.le_of_ble_eq_true rfl) xs0 k (fun r7 h5 kk => ?_)
    obtain ⟨w6, k⟩ := kk
    refine aw_pop d_X11_keepRule_27 rfl ?_
    refine aw_iload_n (i := 3) rfl d_X11_keepRule_28 3 rfl ?_
    exact aw_iret rfl d_X11_keepRule_29 ⟨Nat.le_refl _, Nat.le_refl _⟩ ⟨_, rfl, k⟩
theorem t_X11_act (d : Nat) (h : Hp_) (w : Wf h) (x1 : Int32) (K : Int32 → Hp_ → Prop) (k : (¬ (0 ≤ x1 ∧ x1 ≤ 30) → K (-1) h) ∧ ((0 ≤ x1 ∧ x1 ≤ 30) → Ci (m_X8_readRule (d + 140) 0 0) [.ref 11, .int 1] h (fun r6 h4 => Wf h4 ∧ ((r6 = (-1) → Ci (m_X11_keepRule (d + 3) 0 0) [.ref 0, .ref 13, .int x1] h4 (fun r10 h8 => Wf h8 ∧ (K r10 h8))) ∧ (¬ r6 = (-1) → K (-1) h4))))) : Ci (m_X11_act (d + 141) 0 0) [.ref 0, .int x1] h K := by
  refine Ct.of (fun _ _ _ => trivial) pn_X11 (Nat.le_of_ble_eq_true rfl) ?_
  show AW (m_X11_act (d + 141) 0 0) 0 0 0 [(0, .ref 0), (1, .int x1)] [] h (kI K)
  refine aw_iload_n (i := 1) rfl d_X11_act_0 1 rfl ?_
  refine aw_iconst (v := 0) d_X11_act_1 ic_0 ?_
  refine aw_bipush (v := 30) d_X11_act_2 ib_30 ?_
  refine aw_Si [.int x1, .int 0, .int 30] [] d_X11_act_4 (cS_X11_within (d + 0) 0 0) tw_543 rfl (rr0 (Nat.le_of_ble_eq_true rfl) (Nat.le_of_ble_eq_true rfl)) (Nat.le_of_ble_eq_true rfl) xs0 (s_X11_within _ _ x1 0 30) (fun _ _ kk => ?_)
  obtain ⟨e1, e2⟩ := kk
  rw [e1, e2]
  refine aw_ifb_eq (tgt := 22) d_X11_act_7 rfl (fun c3 => ?_) (fun c3 => ?_)
  · have k := k.1 c3
    refine aw_iconst (v := (-1)) d_X11_act_22 ic_m1 ?_
    exact aw_iret rfl d_X11_act_23 ⟨Nat.le_refl _, Nat.le_refl _⟩ ⟨_, rfl, k⟩
  · have k := k.2 c3
    refine aw_aload_n (i := 0) rfl d_X11_act_10 0 rfl ?_
    refine aw_getr (k0 := 2) kc_11 (ws_0 w) (Nat.le_of_ble_eq_true rfl) tw_489 d_X11_act_11 rfl (wr_0_2 w) ?_
    refine aw_iconst (v := 1) d_X11_act_14 ic_1 ?_
    refine aw_Vi 11 [.int 1] [] d_X11_act_15 (cV_X8_readRule (d + 140) 0 0) kc_8 (ws_11 w) tw_723 rfl (rr0 (Nat.le_of_ble_eq_true rfl) (Nat.le_of_ble_eq_true rfl)) (Nat.le_of_ble_eq_true rfl) xs0 k (fun r6 h4 kk => ?_)
    obtain ⟨w5, k⟩ := kk
    refine aw_iconst (v := (-1)) d_X11_act_18 ic_m1 ?_
    refine aw_icmp_eq (tgt := 24) d_X11_act_19 rfl (fun c7 => ?_) (fun c7 => ?_)
    · have k := k.1 c7
      refine aw_aload_n (i := 0) rfl d_X11_act_24 0 rfl ?_
      refine aw_aload_n (i := 0) rfl d_X11_act_25 0 rfl ?_
      refine aw_getr (k0 := 4) kc_11 (ws_0 w5) (Nat.le_of_ble_eq_true rfl) tw_491 d_X11_act_26 rfl (wr_0_4 w5) ?_
      refine aw_iload_n (i := 1) rfl d_X11_act_29 1 rfl ?_
      refine aw_Vi 0 [.ref 13, .int x1] [] d_X11_act_30 (cV_X11_keepRule (d + 3) 0 0) kc_11 (ws_0 w5) tw_1159 rfl (rr0 (Nat.le_of_ble_eq_true rfl) (Nat.le_of_ble_eq_true rfl)) (Nat.le_of_ble_eq_true rfl) xs0 k (fun r10 h8 kk => ?_)
      obtain ⟨w9, k⟩ := kk
      exact aw_iret rfl d_X11_act_33 ⟨Nat.le_refl _, Nat.le_refl _⟩ ⟨_, rfl, k⟩
    · have k := k.2 c7
      refine aw_iconst (v := (-1)) d_X11_act_22 ic_m1 ?_
      exact aw_iret rfl d_X11_act_23 ⟨Nat.le_refl _, Nat.le_refl _⟩ ⟨_, rfl, k⟩
theorem t_X11_pay (d : Nat) (h : Hp_) (w : Wf h) (x1 : Int32) (K : Int32 → Hp_ → Prop) (k : (¬ (0 ≤ x1 ∧ x1 ≤ 30) → K (-1) h) ∧ ((0 ≤ x1 ∧ x1 ≤ 30) → Ci (m_X8_readRule (d + 140) 0 0) [.ref 11, .int 0] h (fun r6 h4 => Wf h4 ∧ ((r6 = (-1) → Ci (m_X11_keepRule (d + 3) 0 0) [.ref 0, .ref 14, .int x1] h4 (fun r10 h8 => Wf h8 ∧ (K r10 h8))) ∧ (¬ r6 = (-1) → K (-1) h4))))) : Ci (m_X11_pay (d + 141) 0 0) [.ref 0, .int x1] h K := by
  refine Ct.of (fun _ _ _ => trivial) pn_X11 (Nat.le_of_ble_eq_true rfl) ?_
  show AW (m_X11_pay (d + 141) 0 0) 0 0 0 [(0, .ref 0), (1, .int x1)] [] h (kI K)
  refine aw_iload_n (i := 1) rfl d_X11_pay_0 1 rfl ?_
  refine aw_iconst (v := 0) d_X11_pay_1 ic_0 ?_
  refine aw_bipush (v := 30) d_X11_pay_2 ib_30 ?_
  refine aw_Si [.int x1, .int 0, .int 30] [] d_X11_pay_4 (cS_X11_within (d + 0) 0 0) tw_543 rfl (rr0 (Nat.le_of_ble_eq_true rfl) (Nat.le_of_ble_eq_true rfl)) (Nat.le_of_ble_eq_true rfl) xs0 (s_X11_within _ _ x1 0 30) (fun _ _ kk => ?_)
  obtain ⟨e1, e2⟩ := kk
  rw [e1, e2]
  refine aw_ifb_eq (tgt := 22) d_X11_pay_7 rfl (fun c3 => ?_) (fun c3 => ?_)
  · have k := k.1 c3
    refine aw_iconst (v := (-1)) d_X11_pay_22 ic_m1 ?_
    exact aw_iret rfl d_X11_pay_23 ⟨Nat.le_refl _, Nat.le_refl _⟩ ⟨_, rfl, k⟩
  · have k := k.2 c3
    refine aw_aload_n (i := 0) rfl d_X11_pay_10 0 rfl ?_
    refine aw_getr (k0 := 2) kc_11 (ws_0 w) (Nat.le_of_ble_eq_true rfl) tw_489 d_X11_pay_11 rfl (wr_0_2 w) ?_
    refine aw_iconst (v := 0) d_X11_pay_14 ic_0 ?_
    refine aw_Vi 11 [.int 0] [] d_X11_pay_15 (cV_X8_readRule (d + 140) 0 0) kc_8 (ws_11 w) tw_723 rfl (rr0 (Nat.le_of_ble_eq_true rfl) (Nat.le_of_ble_eq_true rfl)) (Nat.le_of_ble_eq_true rfl) xs0 k (fun r6 h4 kk => ?_)
    obtain ⟨w5, k⟩ := kk
    refine aw_iconst (v := (-1)) d_X11_pay_18 ic_m1 ?_
    refine aw_icmp_eq (tgt := 24) d_X11_pay_19 rfl (fun c7 => ?_) (fun c7 => ?_)
    · have k := k.1 c7
      refine aw_aload_n (i := 0) rfl d_X11_pay_24 0 rfl ?_
      refine aw_aload_n (i := 0) rfl d_X11_pay_25 0 rfl ?_
      refine aw_getr (k0 := 5) kc_11 (ws_0 w5) (Nat.le_of_ble_eq_true rfl) tw_492 d_X11_pay_26 rfl (wr_0_5 w5) ?_
      refine aw_iload_n (i := 1) rfl d_X11_pay_29 1 rfl ?_
      refine aw_Vi 0 [.ref 14, .int x1] [] d_X11_pay_30 (cV_X11_keepRule (d + 3) 0 0) kc_11 (ws_0 w5) tw_1159 rfl (rr0 (Nat.le_of_ble_eq_true rfl) (Nat.le_of_ble_eq_true rfl)) (Nat.le_of_ble_eq_true rfl) xs0 k (fun r10 h8 kk => ?_)
      obtain ⟨w9, k⟩ := kk
      exact aw_iret rfl d_X11_pay_33 ⟨Nat.le_refl _, Nat.le_refl _⟩ ⟨_, rfl, k⟩
    · have k := k.2 c7
      refine aw_iconst (v := (-1)) d_X11_pay_22 ic_m1 ?_
      exact aw_iret rfl d_X11_pay_23 ⟨Nat.le_refl _, Nat.le_refl _⟩ ⟨_, rfl, k⟩
theorem t_X11_feed (d : Nat) (h : Hp_) (w : Wf h) (x1 : Int32) (x2 : Int32) (x3 : Int32) (x4 : Int32) (x5 : Int32) (K : Int32 → Hp_ → Prop) (k : Ci (m_X8_takeIn (d + 1) 0 0) [.ref 11, .int x1, .int x2, .int x3, .int x4, .int x5] h (fun r3 h1 => Wf h1 ∧ (K r3 h1))) : Ci (m_X11_feed (d + 2) 0 0) [.ref 0, .int x1, .int x2, .int x3, .int x4, .int x5] h K := by
  refine Ct.of (fun _ _ _ => trivial) pn_X11 (Nat.le_of_ble_eq_true rfl) ?_
  show AW (m_X11_feed (d + 2) 0 0) 0 0 0 [(0, .ref 0), (1, .int x1), (2, .int x2), (3, .int x3), (4, .int x4), (5, .int x5)] [] h (kI K)
  refine aw_aload_n (i := 0) rfl d_X11_feed_0 0 rfl ?_
  refine aw_getr (k0 := 2) kc_11 (ws_0 w) (Nat.le_of_ble_eq_true rfl) tw_489 d_X11_feed_1 rfl (wr_0_2 w) ?_
  refine aw_iload_n (i := 1) rfl d_X11_feed_4 1 rfl ?_
  refine aw_iload_n (i := 2) rfl d_X11_feed_5 2 rfl ?_
  refine aw_iload_n (i := 3) rfl d_X11_feed_6 3 rfl ?_
  refine aw_iload d_X11_feed_7 4 rfl ?_
  refine aw_iload d_X11_feed_9 5 rfl ?_
  refine aw_Vi 11 [.int x1, .int x2, .int x3, .int x4, .int x5] [] d_X11_feed_11 (cV_X8_takeIn (d + 1) 0 0) kc_8 (ws_11 w) tw_645 rfl (rr0 (Nat.le_of_ble_eq_true rfl) (Nat.le_of_ble_eq_true rfl)) (Nat.le_of_ble_eq_true rfl) xs0 k (fun r3 h1 kk => ?_)
  obtain ⟨w2, k⟩ := kk
  exact aw_iret rfl d_X11_feed_14 ⟨Nat.le_refl _, Nat.le_refl _⟩ ⟨_, rfl, k⟩
theorem t_X8_takeIn (d : Nat) (h : Hp_) (x1 : Int32) (x2 : Int32) (x3 : Int32) (x4 : Int32) (x5 : Int32) (K : Int32 → Hp_ → Prop) (k : Ci (m_X8_signs (d + 0) 0 0) [.int x1] h (fun r3 h1 => Wf h1 ∧ (Ci (m_X8_signs (d + 0) 0 0) [.int x2] h1 (fun r6 h4 => Wf h4 ∧ (Ci (m_X8_signs (d + 0) 0 0) [.int x3] h4 (fun r9 h7 => Wf h7 ∧ (Ci (m_X8_signs (d + 0) 0 0) [.int x4] h7 (fun r12 h10 => Wf h10 ∧ (Ci (m_X8_signs (d + 0) 0 0) [.int x5] h10 (fun r15 h13 => Wf h13 ∧ ((((h_i h13 11 1) + ((((r3 + r6) + r9) + r12) + r15)) ≤ 160 → Cv (m_X8_append (d + 0) 0 0) [.ref 11, .int x1] h13 (fun h17 => Wf h17 ∧ (Cv (m_X8_append (d + 0) 0 0) [.ref 11, .int x2] h17 (fun h20 => Wf h20 ∧ (Cv (m_X8_append (d + 0) 0 0) [.ref 11, .int x3] h20 (fun h23 => Wf h23 ∧ (Cv (m_X8_append (d + 0) 0 0) [.ref 11, .int x4] h23 (fun h26 => Wf h26 ∧ (Cv (m_X8_append (d + 0) 0 0) [.ref 11, .int x5] h26 (fun h29 => Wf h29 ∧ (K (h_i h29 11 1) h29))))))))))) ∧ (¬ ((h_i h13 11 1) + ((((r3 + r6) + r9) + r12) + r15)) ≤ 160 → K (-1) h13)))))))))))) : Ci (m_X8_takeIn (d + 1) 0 0) [.ref 11, .int x1, .int x2, .int x3, .int x4, .int x5] h K := by
  refine Ct.of (fun _ _ _ => trivial) pn_X8 (Nat.le_of_ble_eq_true rfl) ?_
  show AW (m_X8_takeIn (d + 1) 0 0) 0 0 0 [(0, .ref 11), (1, .int x1), (2, .int x2), (3, .int x3), (4, .int x4), (5, .int x5)] [] h (kI K)
  refine aw_iload_n (i := 1) rfl d_X8_takeIn_0 1 rfl ?_
  refine aw_Si [.int x1] [] d_X8_takeIn_1 (cS_X8_signs (d + 0) 0 0) tw_649 rfl (rr0 (Nat.le_of_ble_eq_true rfl) (Nat.le_of_ble_eq_true rfl)) (Nat.le_of_ble_eq_true rfl) xs0 k (fun r3 h1 kk => ?_)
  obtain ⟨w2, k⟩ := kk
  refine aw_iload_n (i := 2) rfl d_X8_takeIn_4 2 rfl ?_
  refine aw_Si [.int x2] [.int r3] d_X8_takeIn_5 (cS_X8_signs (d + 0) 0 0) tw_649 rfl (rr0 (Nat.le_of_ble_eq_true rfl) (Nat.le_of_ble_eq_true rfl)) (Nat.le_of_ble_eq_true rfl) xs0 k (fun r6 h4 kk => ?_)
  obtain ⟨w5, k⟩ := kk
  refine aw_iadd d_X8_takeIn_8 ?_
  refine aw_iload_n (i := 3) rfl d_X8_takeIn_9 3 rfl ?_
  refine aw_Si [.int x3] [.int (r3 + r6)] d_X8_takeIn_10 (cS_X8_signs (d + 0) 0 0) tw_649 rfl (rr0 (Nat.le_of_ble_eq_true rfl) (Nat.le_of_ble_eq_true rfl)) (Nat.le_of_ble_eq_true rfl) xs0 k (fun r9 h7 kk => ?_)
  obtain ⟨w8, k⟩ := kk
  refine aw_iadd d_X8_takeIn_13 ?_
  refine aw_iload d_X8_takeIn_14 4 rfl ?_
  refine aw_Si [.int x4] [.int ((r3 + r6) + r9)] d_X8_takeIn_16 (cS_X8_signs (d + 0) 0 0) tw_649 rfl (rr0 (Nat.le_of_ble_eq_true rfl) (Nat.le_of_ble_eq_true rfl)) (Nat.le_of_ble_eq_true rfl) xs0 k (fun r12 h10 kk => ?_)
  obtain ⟨w11, k⟩ := kk
  refine aw_iadd d_X8_takeIn_19 ?_
  refine aw_iload d_X8_takeIn_20 5 rfl ?_
  refine aw_Si [.int x5] [.int (((r3 + r6) + r9) + r12)] d_X8_takeIn_22 (cS_X8_signs (d + 0) 0 0) tw_649 rfl (rr0 (Nat.le_of_ble_eq_true rfl) (Nat.le_of_ble_eq_true rfl)) (Nat.le_of_ble_eq_true rfl) xs0 k (fun r15 h13 kk => ?_)
  obtain ⟨w14, k⟩ := kk
  refine aw_iadd d_X8_takeIn_25 ?_
  refine aw_istore [(0, .ref 11), (1, .int x1), (2, .int x2), (3, .int x3), (4, .int x4), (5, .int x5), (6, .int ((((r3 + r6) + r9) + r12) + r15))] d_X8_takeIn_26 (Nat.le_of_ble_eq_true rfl) rfl rfl ?_
  refine aw_aload_n (i := 0) rfl d_X8_takeIn_28 0 rfl ?_
  refine aw_geti (k0 := 1) kc_8 (ws_11 w14) (Nat.le_of_ble_eq_true rfl) tw_60 d_X8_takeIn_29 rfl ?_
  refine aw_iload d_X8_takeIn_32 6 rfl ?_
  refine aw_iadd d_X8_takeIn_34 ?_
  refine aw_sipush (v := 160) d_X8_takeIn_35 is_160 ?_
  refine aw_icmp_le (tgt := 43) d_X8_takeIn_38 rfl (fun c16 => ?_) (fun c16 => ?_)
  · have k := k.1 c16
    refine aw_aload_n (i := 0) rfl d_X8_takeIn_43 0 rfl ?_
    refine aw_iload_n (i := 1) rfl d_X8_takeIn_44 1 rfl ?_
    refine aw_Vv 11 [.int x1] [] d_X8_takeIn_45 (cV_X8_append (d + 0) 0 0) kc_8 (ws_11 w14) tw_652 rfl (rr0 (Nat.le_of_ble_eq_true rfl) (Nat.le_of_ble_eq_true rfl)) (Nat.le_of_ble_eq_true rfl) xs0 k (fun h17 kk => ?_)
    obtain ⟨w18, k⟩ := kk
    refine aw_aload_n (i := 0) rfl d_X8_takeIn_48 0 rfl ?_
    refine aw_iload_n (i := 2) rfl d_X8_takeIn_49 2 rfl ?_
    refine aw_Vv 11 [.int x2] [] d_X8_takeIn_50 (cV_X8_append (d + 0) 0 0) kc_8 (ws_11 w18) tw_652 rfl (rr0 (Nat.le_of_ble_eq_true rfl) (Nat.le_of_ble_eq_true rfl)) (Nat.le_of_ble_eq_true rfl) xs0 k (fun h20 kk => ?_)
    obtain ⟨w21, k⟩ := kk
    refine aw_aload_n (i := 0) rfl d_X8_takeIn_53 0 rfl ?_
    refine aw_iload_n (i := 3) rfl d_X8_takeIn_54 3 rfl ?_
    refine aw_Vv 11 [.int x3] [] d_X8_takeIn_55 (cV_X8_append (d + 0) 0 0) kc_8 (ws_11 w21) tw_652 rfl (rr0 (Nat.le_of_ble_eq_true rfl) (Nat.le_of_ble_eq_true rfl)) (Nat.le_of_ble_eq_true rfl) xs0 k (fun h23 kk => ?_)
    obtain ⟨w24, k⟩ := kk
    refine aw_aload_n (i := 0) rfl d_X8_takeIn_58 0 rfl ?_
    refine aw_iload d_X8_takeIn_59 4 rfl ?_
    refine aw_Vv 11 [.int x4] [] d_X8_takeIn_61 (cV_X8_append (d + 0) 0 0) kc_8 (ws_11 w24) tw_652 rfl (rr0 (Nat.le_of_ble_eq_true rfl) (Nat.le_of_ble_eq_true rfl)) (Nat.le_of_ble_eq_true rfl) xs0 k (fun h26 kk => ?_)
    obtain ⟨w27, k⟩ := kk
    refine aw_aload_n (i := 0) rfl d_X8_takeIn_64 0 rfl ?_
    refine aw_iload d_X8_takeIn_65 5 rfl ?_
    refine aw_Vv 11 [.int x5] [] d_X8_takeIn_67 (cV_X8_append (d + 0) 0 0) kc_8 (ws_11 w27) tw_652 rfl (rr0 (Nat.le_of_ble_eq_true rfl) (Nat.le_of_ble_eq_true rfl)) (Nat.le_of_ble_eq_true rfl) xs0 k (fun h29 kk => ?_)
    obtain ⟨w30, k⟩ := kk
    refine aw_aload_n (i := 0) rfl d_X8_takeIn_70 0 rfl ?_
    refine aw_geti (k0 := 1) kc_8 (ws_11 w30) (Nat.le_of_ble_eq_true rfl) tw_60 d_X8_takeIn_71 rfl ?_
    exact aw_iret rfl d_X8_takeIn_74 ⟨Nat.le_refl _, Nat.le_refl _⟩ ⟨_, rfl, k⟩
  · have k := k.2 c16
    refine aw_iconst (v := (-1)) d_X8_takeIn_41 ic_m1 ?_
    exact aw_iret rfl d_X8_takeIn_42 ⟨Nat.le_refl _, Nat.le_refl _⟩ ⟨_, rfl, k⟩
theorem t_X8_append (d : Nat) (h : Hp_) (x1 : Int32) (K : Hp_ → Prop) (k : AW (m_X8_append (d + 0) 0 0) 0 0 3 [(0, .ref 11), (1, .int x1), (2, .int 24)] [] h (kV K)) : Cv (m_X8_append (d + 0) 0 0) [.ref 11, .int x1] h K := by
  refine Ct.of (fun _ _ _ => trivial) pn_X8 (Nat.le_of_ble_eq_true rfl) ?_
  show AW (m_X8_append (d + 0) 0 0) 0 0 0 [(0, .ref 11), (1, .int x1)] [] h (kV K)
  refine aw_bipush (v := 24) d_X8_append_0 ib_24 ?_
  refine aw_istore_n (i := 2) rfl [(0, .ref 11), (1, .int x1), (2, .int 24)] d_X8_append_2 (Nat.le_of_ble_eq_true rfl) rfl rfl ?_
  exact k
theorem t_X8_append_3 (d : Nat) (h : Hp_) (w : Wf h) (x1 : Int32) (x2 : Int32) (K : Hp_ → Prop) (k : (x2 < 0 → K h) ∧ (¬ x2 < 0 → (((x1 >>> (x2 &&& 31)) &&& 255) = 0 → AW (m_X8_append (d + 0) 0 0) 0 0 3 [(0, .ref 11), (1, .int x1), (2, .int (x2 + (-8)))] [] h (kV K)) ∧ (¬ ((x1 >>> (x2 &&& 31)) &&& 255) = 0 → (160 ≤ (h_i h 11 1) → AW (m_X8_append (d + 0) 0 0) 0 0 3 [(0, .ref 11), (1, .int x1), (2, .int (x2 + (-8)))] [] h (kV K)) ∧ (¬ 160 ≤ (h_i h 11 1) → vp_in (h_i h 11 1) 160 ∧ (AW (m_X8_append (d + 0) 0 0) 0 0 3 [(0, .ref 11), (1, .int x1), (2, .int (x2 + (-8)))] [] (h_im (h_im h 31 ((h_i h 11 1) : Int32).toNatClampNeg ((x1 >>> (x2 &&& 31)) &&& 255)) 11 1 ((h_i h 11 1) + 1)) (kV K)))))) : AW (m_X8_append (d + 0) 0 0) 0 0 3 [(0, .ref 11), (1, .int x1), (2, .int x2)] [] h (kV K) := by
  refine aw_iload_n (i := 2) rfl d_X8_append_3 2 rfl ?_
  refine aw_if_lt (tgt := 55) d_X8_append_4 rfl (fun c1 => ?_) (fun c1 => ?_)
  · have k := k.1 c1
    exact aw_vret rfl d_X8_append_55 ⟨Nat.le_refl _, Nat.le_refl _⟩ ⟨rfl, k⟩
  · have k := k.2 c1
    refine aw_iload_n (i := 1) rfl d_X8_append_7 1 rfl ?_
    refine aw_iload_n (i := 2) rfl d_X8_append_8 2 rfl ?_
    refine aw_ishr d_X8_append_9 ?_
    refine aw_sipush (v := 255) d_X8_append_10 is_255 ?_
    refine aw_iand d_X8_append_13 ?_
    refine aw_istore_n (i := 3) rfl [(0, .ref 11), (1, .int x1), (2, .int x2), (3, .int ((x1 >>> (x2 &&& 31)) &&& 255))] d_X8_append_14 (Nat.le_of_ble_eq_true rfl) rfl rfl ?_
    refine aw_iload_n (i := 3) rfl d_X8_append_15 3 rfl ?_
    refine aw_if_eq (tgt := 49) d_X8_append_16 rfl (fun c2 => ?_) (fun c2 => ?_)
    · have k := k.1 c2
      refine aw_iinc (v := (x2 + (-8))) [(0, .ref 11), (1, .int x1), (2, .int (x2 + (-8))), (3, .int ((x1 >>> (x2 &&& 31)) &&& 255))] d_X8_append_49 2 rfl rfl (Nat.le_of_ble_eq_true rfl) rfl rfl ?_
      refine aw_goto (tgt := 3) d_X8_append_52 rfl ?_
      exact aw_lvp [0, 1, 2] [(0, .ref 11), (1, .int x1), (2, .int (x2 + (-8)))] rfl k
    · have k := k.2 c2
      refine aw_aload_n (i := 0) rfl d_X8_append_19 0 rfl ?_
      refine aw_geti (k0 := 1) kc_8 (ws_11 w) (Nat.le_of_ble_eq_true rfl) tw_60 d_X8_append_20 rfl ?_
      refine aw_sipush (v := 160) d_X8_append_23 is_160 ?_
      refine aw_icmp_ge (tgt := 49) d_X8_append_26 rfl (fun c3 => ?_) (fun c3 => ?_)
      · have k := k.1 c3
        refine aw_iinc (v := (x2 + (-8))) [(0, .ref 11), (1, .int x1), (2, .int (x2 + (-8))), (3, .int ((x1 >>> (x2 &&& 31)) &&& 255))] d_X8_append_49 2 rfl rfl (Nat.le_of_ble_eq_true rfl) rfl rfl ?_
        refine aw_goto (tgt := 3) d_X8_append_52 rfl ?_
        exact aw_lvp [0, 1, 2] [(0, .ref 11), (1, .int x1), (2, .int (x2 + (-8)))] rfl k
      · have k := k.2 c3
        refine aw_aload_n (i := 0) rfl d_X8_append_29 0 rfl ?_
        refine aw_getr (k0 := 0) kc_8 (ws_11 w) (Nat.le_of_ble_eq_true rfl) tw_59 d_X8_append_30 rfl (wr_11_0 w) ?_
        refine aw_aload_n (i := 0) rfl d_X8_append_33 0 rfl ?_
        refine aw_geti (k0 := 1) kc_8 (ws_11 w) (Nat.le_of_ble_eq_true rfl) tw_60 d_X8_append_34 rfl ?_
        refine aw_iload_n (i := 3) rfl d_X8_append_37 3 rfl ?_
        obtain ⟨b4, k⟩ := k
        refine aw_iast (ws_31 w) b4 d_X8_append_38 ?_
        refine aw_aload_n (i := 0) rfl d_X8_append_39 0 rfl ?_
        refine aw_dup d_X8_append_40 rfl ?_
        refine aw_geti (k0 := 1) kc_8 (ws_11 w) (Nat.le_of_ble_eq_true rfl) tw_60 d_X8_append_41 rfl ?_
        refine aw_vi (v2 := (h_i h 11 1)) (rfl) ?_
        refine aw_iconst (v := 1) d_X8_append_44 ic_1 ?_
        refine aw_iadd d_X8_append_45 ?_
        refine aw_puti (k0 := 1) kc_8 (ws_11 w) (Nat.le_of_ble_eq_true rfl) tw_60 d_X8_append_46 rfl rfl nf_i ?_
        refine aw_iinc (v := (x2 + (-8))) [(0, .ref 11), (1, .int x1), (2, .int (x2 + (-8))), (3, .int ((x1 >>> (x2 &&& 31)) &&& 255))] d_X8_append_49 2 rfl rfl (Nat.le_of_ble_eq_true rfl) rfl rfl ?_
        refine aw_goto (tgt := 3) d_X8_append_52 rfl ?_
        exact aw_lvp [0, 1, 2] [(0, .ref 11), (1, .int x1), (2, .int (x2 + (-8)))] rfl k
theorem t_X8_signs (d : Nat) (h : Hp_) (x0 : Int32) (K : Int32 → Hp_ → Prop) (k : AW (m_X8_signs (d + 0) 0 0) 0 0 5 [(0, .int x0), (1, .int 0), (2, .int 24)] [] h (kI K)) : Ci (m_X8_signs (d + 0) 0 0) [.int x0] h K := by
  refine Ct.of (fun _ _ _ => trivial) pn_X8 (Nat.le_of_ble_eq_true rfl) ?_
  show AW (m_X8_signs (d + 0) 0 0) 0 0 0 [(0, .int x0)] [] h (kI K)
  refine aw_iconst (v := 0) d_X8_signs_0 ic_0 ?_
  refine aw_istore_n (i := 1) rfl [(0, .int x0), (1, .int 0)] d_X8_signs_1 (Nat.le_of_ble_eq_true rfl) rfl rfl ?_
  refine aw_bipush (v := 24) d_X8_signs_2 ib_24 ?_
  refine aw_istore_n (i := 2) rfl [(0, .int x0), (1, .int 0), (2, .int 24)] d_X8_signs_4 (Nat.le_of_ble_eq_true rfl) rfl rfl ?_
  exact k
theorem t_X8_signs_5 (d : Nat) (h : Hp_) (x0 : Int32) (x1 : Int32) (x2 : Int32) (K : Int32 → Hp_ → Prop) (k : (x2 < 0 → K x1 h) ∧ (¬ x2 < 0 → (((x0 >>> (x2 &&& 31)) &&& 255) = 0 → AW (m_X8_signs (d + 0) 0 0) 0 0 5 [(0, .int x0), (1, .int x1), (2, .int (x2 + (-8)))] [] h (kI K)) ∧ (¬ ((x0 >>> (x2 &&& 31)) &&& 255) = 0 → AW (m_X8_signs (d + 0) 0 0) 0 0 5 [(0, .int x0), (1, .int (x1 + 1)), (2, .int (x2 + (-8)))] [] h (kI K)))) : AW (m_X8_signs (d + 0) 0 0) 0 0 5 [(0, .int x0), (1, .int x1), (2, .int x2)] [] h (kI K) := by
  refine aw_iload_n (i := 2) rfl d_X8_signs_5 2 rfl ?_
  refine aw_if_lt (tgt := 28) d_X8_signs_6 rfl (fun c1 => ?_) (fun c1 => ?_)
  · have k := k.1 c1
    refine aw_iload_n (i := 1) rfl d_X8_signs_28 1 rfl ?_
    exact aw_iret rfl d_X8_signs_29 ⟨Nat.le_refl _, Nat.le_refl _⟩ ⟨_, rfl, k⟩
  · have k := k.2 c1
    refine aw_iload_n (i := 0) rfl d_X8_signs_9 0 rfl ?_
    refine aw_iload_n (i := 2) rfl d_X8_signs_10 2 rfl ?_
    refine aw_ishr d_X8_signs_11 ?_
    refine aw_sipush (v := 255) d_X8_signs_12 is_255 ?_
    refine aw_iand d_X8_signs_15 ?_
    refine aw_if_eq (tgt := 22) d_X8_signs_16 rfl (fun c2 => ?_) (fun c2 => ?_)
    · have k := k.1 c2
      refine aw_iinc (v := (x2 + (-8))) [(0, .int x0), (1, .int x1), (2, .int (x2 + (-8)))] d_X8_signs_22 2 rfl rfl (Nat.le_of_ble_eq_true rfl) rfl rfl ?_
      refine aw_goto (tgt := 5) d_X8_signs_25 rfl ?_
      exact k
    · have k := k.2 c2
      refine aw_iinc (v := (x1 + 1)) [(0, .int x0), (1, .int (x1 + 1)), (2, .int x2)] d_X8_signs_19 1 rfl rfl (Nat.le_of_ble_eq_true rfl) rfl rfl ?_
      refine aw_iinc (v := (x2 + (-8))) [(0, .int x0), (1, .int (x1 + 1)), (2, .int (x2 + (-8)))] d_X8_signs_22 2 rfl rfl (Nat.le_of_ble_eq_true rfl) rfl rfl ?_
      refine aw_goto (tgt := 5) d_X8_signs_25 rfl ?_
      exact k
theorem t_X11_end (d : Nat) (h : Hp_) (w : Wf h) (x1 : Int32) (K : Int32 → Hp_ → Prop) (k : Ci (m_X8_cut (d + 1) 0 0) [.ref 11, .int x1] h (fun r3 h1 => Wf h1 ∧ ((r3 = 0 ∨ r3 = 1) ∧ (K r3 h1)))) : Ci (m_X11_end (d + 2) 0 0) [.ref 0, .int x1] h K := by
  refine Ct.of (fun _ _ _ => trivial) pn_X11 (Nat.le_of_ble_eq_true rfl) ?_
  show AW (m_X11_end (d + 2) 0 0) 0 0 0 [(0, .ref 0), (1, .int x1)] [] h (kI K)
  refine aw_aload_n (i := 0) rfl d_X11_end_0 0 rfl ?_
  refine aw_getr (k0 := 2) kc_11 (ws_0 w) (Nat.le_of_ble_eq_true rfl) tw_489 d_X11_end_1 rfl (wr_0_2 w) ?_
  refine aw_iload_n (i := 1) rfl d_X11_end_4 1 rfl ?_
  refine aw_Vi 11 [.int x1] [] d_X11_end_5 (cV_X8_cut (d + 1) 0 0) kc_8 (ws_11 w) tw_660 rfl (rr0 (Nat.le_of_ble_eq_true rfl) (Nat.le_of_ble_eq_true rfl)) (Nat.le_of_ble_eq_true rfl) xs0 k (fun r3 h1 kk => ?_)
  obtain ⟨w2, k⟩ := kk
  obtain ⟨z4, k⟩ := k
  exact aw_zret rfl (nf_z z4).1 d_X11_end_8 ⟨Nat.le_refl _, Nat.le_refl _⟩ ⟨_, rfl, k⟩
theorem t_X12_end (d : Nat) (h : Hp_) (w : Wf h) (x1 : Int32) (K : Int32 → Hp_ → Prop) (k : (x1 < 0 → K 0 h) ∧ (¬ x1 < 0 → (x1 ≤ (h_i h 1 32) → K 1 (h_im h 1 32 x1)) ∧ (¬ x1 ≤ (h_i h 1 32) → K 0 h))) : Ci (m_X12_end (d + 0) 0 0) [.ref 1, .int x1] h K := by
  refine Ct.of (fun _ _ _ => trivial) pn_X12 (Nat.le_of_ble_eq_true rfl) ?_
  show AW (m_X12_end (d + 0) 0 0) 0 0 0 [(0, .ref 1), (1, .int x1)] [] h (kI K)
  refine aw_iload_n (i := 1) rfl d_X12_end_0 1 rfl ?_
  refine aw_if_lt (tgt := 12) d_X12_end_1 rfl (fun c1 => ?_) (fun c1 => ?_)
  · have k := k.1 c1
    refine aw_iconst (v := 0) d_X12_end_12 ic_0 ?_
    exact aw_zret rfl rfl d_X12_end_13 ⟨Nat.le_refl _, Nat.le_refl _⟩ ⟨_, rfl, k⟩
  · have k := k.2 c1
    refine aw_iload_n (i := 1) rfl d_X12_end_4 1 rfl ?_
    refine aw_aload_n (i := 0) rfl d_X12_end_5 0 rfl ?_
    refine aw_geti (k0 := 32) kc_12 (ws_1 w) (Nat.le_of_ble_eq_true rfl) tw_1774 d_X12_end_6 rfl ?_
    refine aw_icmp_le (tgt := 14) d_X12_end_9 rfl (fun c2 => ?_) (fun c2 => ?_)
    · have k := k.1 c2
      refine aw_aload_n (i := 0) rfl d_X12_end_14 0 rfl ?_
      refine aw_iload_n (i := 1) rfl d_X12_end_15 1 rfl ?_
      refine aw_puti (k0 := 32) kc_12 (ws_1 w) (Nat.le_of_ble_eq_true rfl) tw_1774 d_X12_end_16 rfl rfl nf_i ?_
      refine aw_iconst (v := 1) d_X12_end_19 ic_1 ?_
      exact aw_zret rfl rfl d_X12_end_20 ⟨Nat.le_refl _, Nat.le_refl _⟩ ⟨_, rfl, k⟩
    · have k := k.2 c2
      refine aw_iconst (v := 0) d_X12_end_12 ic_0 ?_
      exact aw_zret rfl rfl d_X12_end_13 ⟨Nat.le_refl _, Nat.le_refl _⟩ ⟨_, rfl, k⟩
theorem t_X11_beaten (d : Nat) (h : Hp_) (w : Wf h) (x1 : Int32) (x2 : Int32) (K : Int32 → Hp_ → Prop) (k : Ci (m_X0_has (d + 1) 0 0) [.ref 12, .int x1] h (fun r3 h1 => Wf h1 ∧ ((¬ r3 = 0 → (x2 = 0 → Ci (m_X0_stepsOf (d + 1) 0 0) [.ref 12, .int x1] h1 (fun r8 h6 => Wf h6 ∧ (K r8 h6))) ∧ ((x2 = 1 → Ci (m_X0_pointsOf (d + 1) 0 0) [.ref 12, .int x1] h1 (fun r12 h10 => Wf h10 ∧ (K r12 h10))) ∧ ((¬ x2 = 0 ∧ ¬ x2 = 1 → K (-1) h1)))) ∧ (r3 = 0 → K (-1) h1)))) : Ci (m_X11_beaten (d + 2) 0 0) [.ref 0, .int x1, .int x2] h K := by
  refine Ct.of (fun _ _ _ => trivial) pn_X11 (Nat.le_of_ble_eq_true rfl) ?_
  show AW (m_X11_beaten (d + 2) 0 0) 0 0 0 [(0, .ref 0), (1, .int x1), (2, .int x2)] [] h (kI K)
  refine aw_aload_n (i := 0) rfl d_X11_beaten_0 0 rfl ?_
  refine aw_getr (k0 := 3) kc_11 (ws_0 w) (Nat.le_of_ble_eq_true rfl) tw_490 d_X11_beaten_1 rfl (wr_0_3 w) ?_
  refine aw_iload_n (i := 1) rfl d_X11_beaten_4 1 rfl ?_
  refine aw_Vi 12 [.int x1] [] d_X11_beaten_5 (cV_X0_has (d + 1) 0 0) kc_0 (ws_12 w) tw_887 rfl (rr0 (Nat.le_of_ble_eq_true rfl) (Nat.le_of_ble_eq_true rfl)) (Nat.le_of_ble_eq_true rfl) xs0 k (fun r3 h1 kk => ?_)
  obtain ⟨w2, k⟩ := kk
  refine aw_if_ne (tgt := 13) d_X11_beaten_8 rfl (fun c4 => ?_) (fun c4 => ?_)
  · have k := k.1 c4
    refine aw_iload_n (i := 2) rfl d_X11_beaten_13 2 rfl ?_
    by_cases e5 : x2 = 0
    · refine aw_lookup (off := 26) (tgt := 40) d_X11_beaten_14 (by decide) (by rw [e5]; decide) rfl ?_
      have k := k.1 e5
      refine aw_aload_n (i := 0) rfl d_X11_beaten_40 0 rfl ?_
      refine aw_getr (k0 := 3) kc_11 (ws_0 w2) (Nat.le_of_ble_eq_true rfl) tw_490 d_X11_beaten_41 rfl (wr_0_3 w2) ?_
      refine aw_iload_n (i := 1) rfl d_X11_beaten_44 1 rfl ?_
      refine aw_Vi 12 [.int x1] [] d_X11_beaten_45 (cV_X0_stepsOf (d + 1) 0 0) kc_0 (ws_12 w2) tw_891 rfl (rr0 (Nat.le_of_ble_eq_true rfl) (Nat.le_of_ble_eq_true rfl)) (Nat.le_of_ble_eq_true rfl) xs0 k (fun r8 h6 kk => ?_)
      obtain ⟨w7, k⟩ := kk
      exact aw_iret rfl d_X11_beaten_48 ⟨Nat.le_refl _, Nat.le_refl _⟩ ⟨_, rfl, k⟩
    · have k := k.2
      by_cases e9 : x2 = 1
      · refine aw_lookup (off := 35) (tgt := 49) d_X11_beaten_14 (by decide) (by rw [e9]; decide) rfl ?_
        have k := k.1 e9
        refine aw_aload_n (i := 0) rfl d_X11_beaten_49 0 rfl ?_
        refine aw_getr (k0 := 3) kc_11 (ws_0 w2) (Nat.le_of_ble_eq_true rfl) tw_490 d_X11_beaten_50 rfl (wr_0_3 w2) ?_
        refine aw_iload_n (i := 1) rfl d_X11_beaten_53 1 rfl ?_
        refine aw_Vi 12 [.int x1] [] d_X11_beaten_54 (cV_X0_pointsOf (d + 1) 0 0) kc_0 (ws_12 w2) tw_896 rfl (rr0 (Nat.le_of_ble_eq_true rfl) (Nat.le_of_ble_eq_true rfl)) (Nat.le_of_ble_eq_true rfl) xs0 k (fun r12 h10 kk => ?_)
        obtain ⟨w11, k⟩ := kk
        exact aw_iret rfl d_X11_beaten_57 ⟨Nat.le_refl _, Nat.le_refl _⟩ ⟨_, rfl, k⟩
      · have k := k.2
        have k := k ⟨e5, e9⟩
        have n13 := sw_ne (0) (by decide) e5
        have n14 := sw_ne (1) (by decide) e9
        refine aw_lookup (off := 44) (tgt := 58) d_X11_beaten_14 (by decide) (by simp [Op.lookupswitch.offset, n13, n14, Ne.symm n13, Ne.symm n14]) rfl ?_
        refine aw_iconst (v := (-1)) d_X11_beaten_58 ic_m1 ?_
        exact aw_iret rfl d_X11_beaten_59 ⟨Nat.le_refl _, Nat.le_refl _⟩ ⟨_, rfl, k⟩
  · have k := k.2 c4
    refine aw_iconst (v := (-1)) d_X11_beaten_11 ic_m1 ?_
    exact aw_iret rfl d_X11_beaten_12 ⟨Nat.le_refl _, Nat.le_refl _⟩ ⟨_, rfl, k⟩
theorem t_X12_beaten (d : Nat) (h : Hp_) (w : Wf h) (x1 : Int32) (x2 : Int32) (K : Int32 → Hp_ → Prop) (k : (¬ (0 ≤ x1 ∧ x1 ≤ ((h_i h 1 42) - 1)) → K (-1) h) ∧ ((0 ≤ x1 ∧ x1 ≤ ((h_i h 1 42) - 1)) → ((0 ≤ x2 ∧ x2 ≤ 1) → (¬ x2 = 0 → Ci (m_X12_pointsOf (d + 0) 0 0) [.ref 1, .int x1] h (fun r10 h8 => Wf h8 ∧ (K r10 h8))) ∧ (x2 = 0 → vp_in x1 12 ∧ (K (h_i h 227 x1.toNatClampNeg) h))) ∧ (¬ (0 ≤ x2 ∧ x2 ≤ 1) → K (-1) h))) : Ci (m_X12_beaten (d + 1) 0 0) [.ref 1, .int x1, .int x2] h K := by
  refine Ct.of (fun _ _ _ => trivial) pn_X12 (Nat.le_of_ble_eq_true rfl) ?_
  show AW (m_X12_beaten (d + 1) 0 0) 0 0 0 [(0, .ref 1), (1, .int x1), (2, .int x2)] [] h (kI K)
  refine aw_iload_n (i := 1) rfl d_X12_beaten_0 1 rfl ?_
  refine aw_iconst (v := 0) d_X12_beaten_1 ic_0 ?_
  refine aw_aload_n (i := 0) rfl d_X12_beaten_2 0 rfl ?_
  refine aw_geti (k0 := 42) kc_12 (ws_1 w) (Nat.le_of_ble_eq_true rfl) tw_1784 d_X12_beaten_3 rfl ?_
  refine aw_iconst (v := 1) d_X12_beaten_6 ic_1 ?_
  refine aw_isub d_X12_beaten_7 ?_
  refine aw_Si [.int x1, .int 0, .int ((h_i h 1 42) - 1)] [] d_X12_beaten_8 (cS_X12_in (d + 0) 0 0) tw_2143 rfl (rr0 (Nat.le_of_ble_eq_true rfl) (Nat.le_of_ble_eq_true rfl)) (Nat.le_of_ble_eq_true rfl) xs0 (s_X12_in _ _ x1 0 ((h_i h 1 42) - 1)) (fun _ _ kk => ?_)
  obtain ⟨e1, e2⟩ := kk
  rw [e1, e2]
  refine aw_ifb_eq (tgt := 23) d_X12_beaten_11 rfl (fun c3 => ?_) (fun c3 => ?_)
  · have k := k.1 c3
    refine aw_iconst (v := (-1)) d_X12_beaten_23 ic_m1 ?_
    exact aw_iret rfl d_X12_beaten_24 ⟨Nat.le_refl _, Nat.le_refl _⟩ ⟨_, rfl, k⟩
  · have k := k.2 c3
    refine aw_iload_n (i := 2) rfl d_X12_beaten_14 2 rfl ?_
    refine aw_iconst (v := 0) d_X12_beaten_15 ic_0 ?_
    refine aw_iconst (v := 1) d_X12_beaten_16 ic_1 ?_
    refine aw_Si [.int x2, .int 0, .int 1] [] d_X12_beaten_17 (cS_X12_in (d + 0) 0 0) tw_2143 rfl (rr0 (Nat.le_of_ble_eq_true rfl) (Nat.le_of_ble_eq_true rfl)) (Nat.le_of_ble_eq_true rfl) xs0 (s_X12_in _ _ x2 0 1) (fun _ _ kk => ?_)
    obtain ⟨e4, e5⟩ := kk
    rw [e4, e5]
    refine aw_ifb_ne (tgt := 25) d_X12_beaten_20 rfl (fun c6 => ?_) (fun c6 => ?_)
    · have k := k.1 c6
      refine aw_iload_n (i := 2) rfl d_X12_beaten_25 2 rfl ?_
      refine aw_if_ne (tgt := 38) d_X12_beaten_26 rfl (fun c7 => ?_) (fun c7 => ?_)
      · have k := k.1 c7
        refine aw_aload_n (i := 0) rfl d_X12_beaten_38 0 rfl ?_
        refine aw_iload_n (i := 1) rfl d_X12_beaten_39 1 rfl ?_
        refine aw_Vi 1 [.int x1] [] d_X12_beaten_40 (cV_X12_pointsOf (d + 0) 0 0) kc_12 (ws_1 w) tw_2287 rfl (rr0 (Nat.le_of_ble_eq_true rfl) (Nat.le_of_ble_eq_true rfl)) (Nat.le_of_ble_eq_true rfl) xs0 k (fun r10 h8 kk => ?_)
        obtain ⟨w9, k⟩ := kk
        exact aw_iret rfl d_X12_beaten_43 ⟨Nat.le_refl _, Nat.le_refl _⟩ ⟨_, rfl, k⟩
      · have k := k.2 c7
        refine aw_aload_n (i := 0) rfl d_X12_beaten_29 0 rfl ?_
        refine aw_getr (k0 := 38) kc_12 (ws_1 w) (Nat.le_of_ble_eq_true rfl) tw_1780 d_X12_beaten_30 rfl (wr_1_38 w) ?_
        refine aw_iload_n (i := 1) rfl d_X12_beaten_33 1 rfl ?_
        obtain ⟨b11, k⟩ := k
        refine aw_iald (ws_227 w) b11 d_X12_beaten_34 ?_
        refine aw_goto (tgt := 43) d_X12_beaten_35 rfl ?_
        exact aw_iret rfl d_X12_beaten_43 ⟨Nat.le_refl _, Nat.le_refl _⟩ ⟨_, rfl, k⟩
    · have k := k.2 c6
      refine aw_iconst (v := (-1)) d_X12_beaten_23 ic_m1 ?_
      exact aw_iret rfl d_X12_beaten_24 ⟨Nat.le_refl _, Nat.le_refl _⟩ ⟨_, rfl, k⟩
theorem t_X0_has (d : Nat) (h : Hp_) (w : Wf h) (x1 : Int32) (K : Int32 → Hp_ → Prop) (k : (x1 < 0 → K 0 h) ∧ (¬ x1 < 0 → ((h_i h 12 3) ≤ x1 → K 0 h) ∧ (¬ (h_i h 12 3) ≤ x1 → K 1 h))) : Ci (m_X0_has (d + 0) 0 0) [.ref 12, .int x1] h K := by
  refine Ct.of (fun _ _ _ => trivial) pn_X0 (Nat.le_of_ble_eq_true rfl) ?_
  show AW (m_X0_has (d + 0) 0 0) 0 0 0 [(0, .ref 12), (1, .int x1)] [] h (kI K)
  refine aw_iload_n (i := 1) rfl d_X0_has_0 1 rfl ?_
  refine aw_if_lt (tgt := 16) d_X0_has_1 rfl (fun c1 => ?_) (fun c1 => ?_)
  · have k := k.1 c1
    refine aw_iconst (v := 0) d_X0_has_16 ic_0 ?_
    exact aw_zret rfl rfl d_X0_has_17 ⟨Nat.le_refl _, Nat.le_refl _⟩ ⟨_, rfl, k⟩
  · have k := k.2 c1
    refine aw_iload_n (i := 1) rfl d_X0_has_4 1 rfl ?_
    refine aw_aload_n (i := 0) rfl d_X0_has_5 0 rfl ?_
    refine aw_geti (k0 := 3) kc_0 (ws_12 w) (Nat.le_of_ble_eq_true rfl) tw_106 d_X0_has_6 rfl ?_
    refine aw_icmp_ge (tgt := 16) d_X0_has_9 rfl (fun c2 => ?_) (fun c2 => ?_)
    · have k := k.1 c2
      refine aw_iconst (v := 0) d_X0_has_16 ic_0 ?_
      exact aw_zret rfl rfl d_X0_has_17 ⟨Nat.le_refl _, Nat.le_refl _⟩ ⟨_, rfl, k⟩
    · have k := k.2 c2
      refine aw_iconst (v := 1) d_X0_has_12 ic_1 ?_
      refine aw_goto (tgt := 17) d_X0_has_13 rfl ?_
      exact aw_zret rfl rfl d_X0_has_17 ⟨Nat.le_refl _, Nat.le_refl _⟩ ⟨_, rfl, k⟩
theorem t_X0_stepsOf (d : Nat) (h : Hp_) (w : Wf h) (x1 : Int32) (K : Int32 → Hp_ → Prop) (k : Ci (m_X0_has (d + 0) 0 0) [.ref 12, .int x1] h (fun r3 h1 => Wf h1 ∧ ((r3 = 0 → K 0 h1) ∧ (¬ r3 = 0 → vp_in x1 12 ∧ (K (h_i h1 35 x1.toNatClampNeg) h1))))) : Ci (m_X0_stepsOf (d + 1) 0 0) [.ref 12, .int x1] h K := by
  refine Ct.of (fun _ _ _ => trivial) pn_X0 (Nat.le_of_ble_eq_true rfl) ?_
  show AW (m_X0_stepsOf (d + 1) 0 0) 0 0 0 [(0, .ref 12), (1, .int x1)] [] h (kI K)
  refine aw_aload_n (i := 0) rfl d_X0_stepsOf_0 0 rfl ?_
  refine aw_iload_n (i := 1) rfl d_X0_stepsOf_1 1 rfl ?_
  refine aw_Vi 12 [.int x1] [] d_X0_stepsOf_2 (cV_X0_has (d + 0) 0 0) kc_0 (ws_12 w) tw_895 rfl (rr0 (Nat.le_of_ble_eq_true rfl) (Nat.le_of_ble_eq_true rfl)) (Nat.le_of_ble_eq_true rfl) xs0 k (fun r3 h1 kk => ?_)
  obtain ⟨w2, k⟩ := kk
  refine aw_if_eq (tgt := 17) d_X0_stepsOf_5 rfl (fun c4 => ?_) (fun c4 => ?_)
  · have k := k.1 c4
    refine aw_iconst (v := 0) d_X0_stepsOf_17 ic_0 ?_
    exact aw_iret rfl d_X0_stepsOf_18 ⟨Nat.le_refl _, Nat.le_refl _⟩ ⟨_, rfl, k⟩
  · have k := k.2 c4
    refine aw_aload_n (i := 0) rfl d_X0_stepsOf_8 0 rfl ?_
    refine aw_getr (k0 := 1) kc_0 (ws_12 w2) (Nat.le_of_ble_eq_true rfl) tw_104 d_X0_stepsOf_9 rfl (wr_12_1 w2) ?_
    refine aw_iload_n (i := 1) rfl d_X0_stepsOf_12 1 rfl ?_
    obtain ⟨b5, k⟩ := k
    refine aw_iald (ws_35 w2) b5 d_X0_stepsOf_13 ?_
    refine aw_goto (tgt := 18) d_X0_stepsOf_14 rfl ?_
    exact aw_iret rfl d_X0_stepsOf_18 ⟨Nat.le_refl _, Nat.le_refl _⟩ ⟨_, rfl, k⟩
theorem t_X0_pointsOf (d : Nat) (h : Hp_) (w : Wf h) (x1 : Int32) (K : Int32 → Hp_ → Prop) (k : Ci (m_X0_has (d + 0) 0 0) [.ref 12, .int x1] h (fun r3 h1 => Wf h1 ∧ ((r3 = 0 → K 0 h1) ∧ (¬ r3 = 0 → vp_in x1 12 ∧ (K (h_i h1 36 x1.toNatClampNeg) h1))))) : Ci (m_X0_pointsOf (d + 1) 0 0) [.ref 12, .int x1] h K := by
  refine Ct.of (fun _ _ _ => trivial) pn_X0 (Nat.le_of_ble_eq_true rfl) ?_
  show AW (m_X0_pointsOf (d + 1) 0 0) 0 0 0 [(0, .ref 12), (1, .int x1)] [] h (kI K)
  refine aw_aload_n (i := 0) rfl d_X0_pointsOf_0 0 rfl ?_
  refine aw_iload_n (i := 1) rfl d_X0_pointsOf_1 1 rfl ?_
  refine aw_Vi 12 [.int x1] [] d_X0_pointsOf_2 (cV_X0_has (d + 0) 0 0) kc_0 (ws_12 w) tw_895 rfl (rr0 (Nat.le_of_ble_eq_true rfl) (Nat.le_of_ble_eq_true rfl)) (Nat.le_of_ble_eq_true rfl) xs0 k (fun r3 h1 kk => ?_)
  obtain ⟨w2, k⟩ := kk
  refine aw_if_eq (tgt := 17) d_X0_pointsOf_5 rfl (fun c4 => ?_) (fun c4 => ?_)
  · have k := k.1 c4
    refine aw_iconst (v := 0) d_X0_pointsOf_17 ic_0 ?_
    exact aw_iret rfl d_X0_pointsOf_18 ⟨Nat.le_refl _, Nat.le_refl _⟩ ⟨_, rfl, k⟩
  · have k := k.2 c4
    refine aw_aload_n (i := 0) rfl d_X0_pointsOf_8 0 rfl ?_
    refine aw_getr (k0 := 2) kc_0 (ws_12 w2) (Nat.le_of_ble_eq_true rfl) tw_105 d_X0_pointsOf_9 rfl (wr_12_2 w2) ?_
    refine aw_iload_n (i := 1) rfl d_X0_pointsOf_12 1 rfl ?_
    obtain ⟨b5, k⟩ := k
    refine aw_iald (ws_36 w2) b5 d_X0_pointsOf_13 ?_
    refine aw_goto (tgt := 18) d_X0_pointsOf_14 rfl ?_
    exact aw_iret rfl d_X0_pointsOf_18 ⟨Nat.le_refl _, Nat.le_refl _⟩ ⟨_, rfl, k⟩
end
section
/-! the tape read: what is found from a place on -/
noncomputable def skb (b : Nat → Int32) (n : Nat) : Nat → Nat → Nat
  | 0, a => a
  | k + 1, a => if a < n ∧ b a = 32 then skb b n k (a + 1) else a
noncomputable def ska (b : Nat → Int32) (n a : Nat) : Nat := skb b n (n - a) a
noncomputable def skv (b : Nat → Int32) (n a : Nat) : Int32 := if ska b n a < n then b (ska b n a) else -1
theorem ska_s {b : Nat → Int32} {n a : Nat} (h : a < n ∧ b a = 32) : ska b n a = ska b n (a + 1) := by
  unfold ska
  rw [show n - a = (n - (a + 1)) + 1 by omega]
  show (if a < n ∧ b a = 32 then skb b n (n - (a + 1)) (a + 1) else a) = _
  rw [if_pos h]
theorem ska_n {b : Nat → Int32} {n a : Nat} (h : ¬ (a < n ∧ b a = 32)) : ska b n a = a := by
  unfold ska
  cases n - a with
  | zero => rfl
  | succ k =>
    show (if a < n ∧ b a = 32 then skb b n k (a + 1) else a) = _
    rw [if_neg h]
theorem ska_p {b : Nat → Int32} {n : Nat} : ∀ (k a : Nat), n - a ≤ k → a ≤ ska b n a ∧ (a ≤ n → ska b n a ≤ n) ∧ (ska b n a < n → ¬ b (ska b n a) = 32) ∧ ska b n (ska b n a) = ska b n a
  | 0, a, h => by
    have e : ska b n a = a := ska_n (fun c => by have := c.1; omega)
    rw [e]
    exact ⟨Nat.le_refl _, fun h => h, fun c => by omega, e⟩
  | k + 1, a, h => by
    by_cases c : a < n ∧ b a = 32
    · have ih := ska_p (b := b) (n := n) k (a + 1) (by omega)
      rw [ska_s c]
      exact ⟨by omega, fun _ => ih.2.1 (by omega), ih.2.2.1, ih.2.2.2⟩
    · have e : ska b n a = a := ska_n c
      rw [e]
      exact ⟨Nat.le_refl _, fun h => h, fun l y => c ⟨l, y⟩, e⟩
theorem ska_ge {b : Nat → Int32} {n a : Nat} : a ≤ ska b n a := (ska_p (n - a) a (Nat.le_refl _)).1
theorem ska_le {b : Nat → Int32} {n a : Nat} (h : a ≤ n) : ska b n a ≤ n := (ska_p (n - a) a (Nat.le_refl _)).2.1 h
theorem ska_i {b : Nat → Int32} {n a : Nat} : ska b n (ska b n a) = ska b n a := (ska_p (n - a) a (Nat.le_refl _)).2.2.2
theorem skv_i {b : Nat → Int32} {n a : Nat} : skv b n (ska b n a) = skv b n a := by
  unfold skv
  rw [ska_i]
theorem skv_l {b : Nat → Int32} {n a : Nat} (h : ¬ skv b n a = -1) : ska b n a < n := by
  by_cases c : ska b n a < n
  · exact c
  · exact absurd (if_neg c) h
/-- what a reader finds: whether it goes through, and the place behind it or that of the fault -/
noncomputable abbrev Rcg := Nat → Bool × Nat
noncomputable def Cnr (b : Nat → Int32) (n : Nat) (f : Rcg) : Prop := ∀ a, f (ska b n a) = f a
/-- the place behind lies further on, and no sign but blanks stands ahead of it -/
noncomputable def Fwd (b : Nat → Int32) (n : Nat) (f : Rcg) : Prop := ∀ a, (f a).1 = true → ska b n a < (f a).2 ∧ (f a).2 ≤ n ∧ ska b n (f a).2 = (f a).2
noncomputable def sqr (f g : Rcg) : Rcg := fun a => if (f a).1 = true then g (f a).2 else f a
noncomputable def lpr (b : Nat → Int32) (n : Nat) (sp : Int32 → Bool) (f : Rcg) : Nat → Rcg
  | 0, a => (true, ska b n a)
  | k + 1, a => if sp (skv b n a) = true then (if (f (ska b n a + 1)).1 = true then lpr b n sp f k (f (ska b n a + 1)).2 else f (ska b n a + 1)) else (true, ska b n a)
theorem sqr_c {b : Nat → Int32} {n : Nat} {f g : Rcg} (h : Cnr b n f) : Cnr b n (sqr f g) := fun a => by
  unfold sqr
  rw [h a]
theorem sqr_a (f g k : Rcg) : sqr (sqr f g) k = sqr f (sqr g k) := funext (fun a => by
  unfold sqr
  by_cases c : (f a).1 = true
  · rw [if_pos c, if_pos c]
  · rw [if_neg c, if_neg c, if_neg c])
theorem lpr_c {b : Nat → Int32} {n : Nat} {sp : Int32 → Bool} {f : Rcg} (k : Nat) : Cnr b n (lpr b n sp f k) := fun a => by
  cases k with
  | zero =>
    show (true, ska b n (ska b n a)) = (true, ska b n a)
    rw [ska_i]
  | succ k =>
    show (if sp (skv b n (ska b n a)) = true then (if (f (ska b n (ska b n a) + 1)).1 = true then lpr b n sp f k (f (ska b n (ska b n a) + 1)).2 else f (ska b n (ska b n a) + 1)) else (true, ska b n (ska b n a))) = _
    rw [ska_i, skv_i]
    rfl
noncomputable def exr (b : Nat → Int32) (n : Nat) (c : Int32) : Rcg := fun a => if skv b n a = c then (true, ska b n (ska b n a + 1)) else (false, ska b n a)
theorem exr_c {b : Nat → Int32} {n : Nat} {c : Int32} : Cnr b n (exr b n c) := fun a => by
  unfold exr
  rw [skv_i, ska_i]
/-- one sign of a set -/
noncomputable def onr (b : Nat → Int32) (n : Nat) (sp : Int32 → Bool) : Rcg := fun a => if sp (skv b n a) = true then (true, ska b n (ska b n a + 1)) else (false, ska b n a)
theorem onr_c {b : Nat → Int32} {n : Nat} {sp : Int32 → Bool} : Cnr b n (onr b n sp) := fun a => by
  unfold onr
  rw [skv_i, ska_i]
theorem nxt_f {b : Nat → Int32} {n a : Nat} (h : ska b n a < n) : ska b n a < ska b n (ska b n a + 1) ∧ ska b n (ska b n a + 1) ≤ n ∧ ska b n (ska b n (ska b n a + 1)) = ska b n (ska b n a + 1) := by
  have g := ska_ge (b := b) (n := n) (a := ska b n a + 1)
  exact ⟨by omega, ska_le (by omega), ska_i⟩
theorem Fwd.w {b : Nat → Int32} {n : Nat} {f : Rcg} (hf : Fwd b n f) (p : Nat) (_ : ska b n p = p) (_ : p ≤ n) (h : (f p).1 = true) : p ≤ (f p).2 ∧ (f p).2 ≤ n ∧ ska b n (f p).2 = (f p).2 := by
  have q := hf p h
  have g := ska_ge (b := b) (n := n) (a := p)
  exact ⟨by omega, q.2⟩
/-- numbers of at most four digits -/
noncomputable def dgb (x : Int32) : Bool := decide (¬ x < 48 ∧ ¬ 57 < x)
noncomputable def nml (b : Nat → Int32) (n : Nat) : Nat → Int32 → Nat → Bool × Nat × Int32
  | 0, v, a => if a < n ∧ dgb (b a) = true then (false, a, v) else (true, a, v)
  | k + 1, v, a => if a < n ∧ dgb (b a) = true then nml b n k (((v * 10) + b a) - 48) (a + 1) else (true, a, v)
theorem nml_p {b : Nat → Int32} {n : Nat} : ∀ (k : Nat) (v : Int32) (a : Nat), a ≤ n → a ≤ (nml b n k v a).2.1 ∧ (nml b n k v a).2.1 ≤ n ∧ (a < n ∧ dgb (b a) = true ∧ (nml b n k v a).1 = true → a < (nml b n k v a).2.1)
  | 0, v, a, h => by
    unfold nml
    by_cases c : a < n ∧ dgb (b a) = true
    · rw [if_pos c]
      exact ⟨Nat.le_refl _, h, fun z => absurd z.2.2 (by simp)⟩
    · rw [if_neg c]
      exact ⟨Nat.le_refl _, h, fun z => absurd ⟨z.1, z.2.1⟩ c⟩
  | k + 1, v, a, h => by
    unfold nml
    by_cases c : a < n ∧ dgb (b a) = true
    · rw [if_pos c]
      have ih := nml_p (b := b) (n := n) k (((v * 10) + b a) - 48) (a + 1) (by omega)
      exact ⟨by omega, ih.2.1, fun _ => by omega⟩
    · rw [if_neg c]
      exact ⟨Nat.le_refl _, h, fun z => absurd ⟨z.1, z.2.1⟩ c⟩
theorem nml_v {b : Nat → Int32} {n : Nat} : ∀ (k : Nat) (v : Int32) (a m : Nat), 0 ≤ v.toInt → v.toInt ≤ (m : Int) → (m + 1) * 10 ^ k ≤ 100000 → (nml b n k v a).1 = true → 0 ≤ (nml b n k v a).2.2.toInt ∧ (nml b n k v a).2.2.toInt + 1 ≤ (((m + 1) * 10 ^ k : Nat) : Int)
  | 0, v, a, m, h0, h1, h2, h => by
    unfold nml at h ⊢
    by_cases c : a < n ∧ dgb (b a) = true
    · rw [if_pos c] at h
      exact absurd h (by simp)
    · rw [if_neg c]
      show 0 ≤ v.toInt ∧ v.toInt + 1 ≤ (((m + 1) * 10 ^ 0 : Nat) : Int)
      rw [Nat.pow_zero, Nat.mul_one]
      omega
  | k + 1, v, a, m, h0, h1, h2, h => by
    unfold nml at h ⊢
    have pk : 1 ≤ 10 ^ k := Nat.pow_pos (by decide)
    have e10 : (m + 1) * 10 ^ (k + 1) = (10 * m + 9 + 1) * 10 ^ k := by
      rw [Nat.pow_succ, Nat.mul_comm (10 ^ k) 10, ← Nat.mul_assoc]
      congr 1
      omega
    by_cases c : a < n ∧ dgb (b a) = true
    · rw [if_pos c] at h ⊢
      have cb := of_decide_eq_true c.2
      have b0 := q_nlt cb.1
      have b1 := q_nlt cb.2
      have t48 : (48 : Int32).toInt = 48 := rfl
      have t57 : (57 : Int32).toInt = 57 := rfl
      have t10 : (10 : Int32).toInt = 10 := rfl
      rw [t48] at b0
      rw [t57] at b1
      have lm : m + 1 ≤ 100000 := Nat.le_trans (Nat.le_mul_of_pos_right _ (Nat.pow_pos (by decide))) h2
      have e1 : (v * 10).toInt = v.toInt * 10 := by rw [tx_mul (by rw [t10]; omega) (by rw [t10]; omega), t10]
      have e2 : (v * 10 + b a).toInt = v.toInt * 10 + (b a).toInt := by rw [tx_add (by omega) (by omega), e1]
      have e3 : (v * 10 + b a - 48).toInt = v.toInt * 10 + (b a).toInt - 48 := by rw [tx_sub (by rw [t48]; omega) (by rw [t48]; omega), t48, e2]
      have ih := nml_v (b := b) (n := n) k (((v * 10) + b a) - 48) (a + 1) (10 * m + 9) (by omega) (by omega) (by rw [← e10]; exact h2) h
      rw [← e10] at ih
      exact ih
    · rw [if_neg c]
      show 0 ≤ v.toInt ∧ v.toInt + 1 ≤ (((m + 1) * 10 ^ (k + 1) : Nat) : Int)
      have l : m + 1 ≤ (m + 1) * 10 ^ (k + 1) := Nat.le_mul_of_pos_right _ (Nat.pow_pos (by decide))
      omega
noncomputable def nmr (b : Nat → Int32) (n : Nat) (lo hi : Int32) : Nat → Bool × Nat × Int32 := fun a => if dgb (skv b n a) = true then (if (nml b n 4 0 (ska b n a)).1 = true then (if lo ≤ (nml b n 4 0 (ska b n a)).2.2 ∧ (nml b n 4 0 (ska b n a)).2.2 ≤ hi then (true, ska b n (nml b n 4 0 (ska b n a)).2.1, (nml b n 4 0 (ska b n a)).2.2) else (false, (nml b n 4 0 (ska b n a)).2.1 - 1, -1)) else (false, (nml b n 4 0 (ska b n a)).2.1, -1)) else (false, ska b n a, -1)
noncomputable def nm0 (b : Nat → Int32) (n : Nat) : Rcg := fun a => if dgb (skv b n a) = true then (if (nml b n 4 0 (ska b n a)).1 = true then (true, ska b n (nml b n 4 0 (ska b n a)).2.1) else (false, (nml b n 4 0 (ska b n a)).2.1)) else (false, ska b n a)
theorem dgb_l {b : Nat → Int32} {n a : Nat} (h : dgb (skv b n a) = true) : ska b n a < n ∧ dgb (b (ska b n a)) = true := by
  have l : ska b n a < n := skv_l (fun e => by rw [e] at h; exact absurd h (by decide))
  refine ⟨l, ?_⟩
  unfold skv at h
  rw [if_pos l] at h
  exact h
theorem nmr_0 {b : Nat → Int32} {n a : Nat} : (nmr b n 0 9999 a).1 = (nm0 b n a).1 ∧ (nmr b n 0 9999 a).2.1 = (nm0 b n a).2 := by
  unfold nmr nm0
  by_cases c : dgb (skv b n a) = true
  · rw [if_pos c, if_pos c]
    by_cases d : (nml b n 4 0 (ska b n a)).1 = true
    · rw [if_pos d, if_pos d]
      have v := nml_v (b := b) (n := n) 4 0 (ska b n a) 0 (by decide) (by decide) (by decide) d
      have p : (((0 + 1) * 10 ^ 4 : Nat) : Int) = 10000 := by decide
      rw [p] at v
      have t0 : (0 : Int32).toInt = 0 := rfl
      have t9 : (9999 : Int32).toInt = 9999 := rfl
      rw [if_pos ⟨q_le.mpr (by rw [t0]; exact v.1), q_le.mpr (by rw [t9]; omega)⟩]
      exact ⟨rfl, rfl⟩
    · rw [if_neg d, if_neg d]
      exact ⟨rfl, rfl⟩
  · rw [if_neg c, if_neg c]
    exact ⟨rfl, rfl⟩
theorem nm0_c {b : Nat → Int32} {n : Nat} : Cnr b n (nm0 b n) := fun a => by
  unfold nm0
  rw [skv_i, ska_i]
/-! sums, conditions, clauses -/
noncomputable def isq (c x : Int32) : Bool := decide (x = c)
noncomputable def atm (b : Nat → Int32) (n : Nat) (lt : Int32 → Bool) (z : Bool) (f : Rcg) : Rcg := fun a => if dgb (skv b n a) = true then nm0 b n a else if skv b n a = 91 then (if z = true then (false, ska b n a) else sqr f (exr b n 93) (ska b n a + 1)) else onr b n lt a
noncomputable def trm (b : Nat → Int32) (n : Nat) (f : Rcg) : Rcg := sqr f (lpr b n (isq 42) f 160)
noncomputable def pmb (x : Int32) : Bool := decide (x = 43 ∨ x = 45)
noncomputable def smm (b : Nat → Int32) (n : Nat) (f : Rcg) : Rcg := sqr (trm b n f) (lpr b n pmb (trm b n f) 160)
noncomputable def sms (b : Nat → Int32) (n : Nat) (lt : Int32 → Bool) : Nat → Rcg
  | 0 => smm b n (atm b n lt true (fun a => (false, a)))
  | r + 1 => smm b n (atm b n lt false (sms b n lt r))
noncomputable def sgb (x : Int32) : Bool := decide (x = 61 ∨ x = 60 ∨ x = 62)
noncomputable def cmq (b : Nat → Int32) (n : Nat) (f : Rcg) : Rcg := fun a => if sgb (skv b n a) = true then f (ska b n a + 1) else (false, ska b n a)
noncomputable def mun (b : Nat → Int32) (n : Nat) (u : Rcg) : Rcg := lpr b n (isq 38) u 160
noncomputable def prt (b : Nat → Int32) (n : Nat) (u : Rcg) : Rcg := sqr u (mun b n u)
noncomputable def mpt (b : Nat → Int32) (n : Nat) (u : Rcg) : Rcg := sqr (mun b n u) (lpr b n (isq 124) (prt b n u) 160)
noncomputable def cnd (b : Nat → Int32) (n : Nat) (u : Rcg) : Rcg := sqr u (mpt b n u)
noncomputable def unt (b : Nat → Int32) (n : Nat) (lt : Int32 → Bool) : Nat → Rcg
  | 0 => fun a => if skv b n a = 33 ∨ skv b n a = 40 then (false, ska b n a) else sqr (sms b n lt 0) (cmq b n (sms b n lt 0)) a
  | r + 1 => fun a => if skv b n a = 33 then unt b n lt r (ska b n a + 1) else if skv b n a = 40 then sqr (cnd b n (unt b n lt r)) (exr b n 41) (ska b n a + 1) else sqr (sms b n lt (r + 1)) (cmq b n (sms b n lt (r + 1))) a
noncomputable def vdb (x : Int32) : Bool := decide (x = 120 ∨ x = 110 ∨ x = 114 ∨ x = 116)
noncomputable def lta (x : Int32) : Bool := decide (x = 107 ∨ x = 119 ∨ x = 112 ∨ x = 104 ∨ x = 100 ∨ x = 99 ∨ x = 110 ∨ x = 101 ∨ x = 116)
noncomputable def ltp (x : Int32) : Bool := decide (x = 99 ∨ x = 121 ∨ x = 109 ∨ x = 120 ∨ x = 116 ∨ x = 97)
noncomputable def ltb (s : Nat) : Int32 → Bool := if s = 1 then lta else ltp
noncomputable def acl (b : Nat → Int32) (n : Nat) : Rcg := sqr (cnd b n (unt b n lta 6)) (sqr (exr b n 63) (onr b n vdb))
noncomputable def pan (b : Nat → Int32) (n : Nat) : Rcg := sqr (exr b n 63) (sms b n ltp 6)
noncomputable def pcl_ (b : Nat → Int32) (n : Nat) : Rcg := fun a => if skv b n a = 33 ∨ skv b n a = 40 then sqr (cnd b n (unt b n ltp 6)) (pan b n) a else sqr (sms b n ltp 6) (fun p => if sgb (skv b n p) = true then sqr (cmq b n (sms b n ltp 6)) (sqr (mpt b n (unt b n ltp 6)) (pan b n)) p else (true, p)) a
noncomputable def ruq (b : Nat → Int32) (n : Nat) (cl : Rcg) : Rcg := sqr cl (lpr b n (isq 59) cl 160)
/-- all of the tape: none left over -/
noncomputable def enq (b : Nat → Int32) (n : Nat) (f : Rcg) : Int32 := if (f 0).1 = true then (if (f 0).2 < n then Int32.ofNat (f 0).2 else -1) else Int32.ofNat (f 0).2
theorem atm_c {b : Nat → Int32} {n : Nat} {lt : Int32 → Bool} {z : Bool} {f : Rcg} : Cnr b n (atm b n lt z f) := fun a => by
  unfold atm
  rw [skv_i, ska_i, nm0_c a, onr_c a]
theorem Fwd.st {b : Nat → Int32} {n : Nat} {f : Rcg} (hf : Fwd b n f) {a : Nat} (h : (f (ska b n a + 1)).1 = true) : ska b n a < (f (ska b n a + 1)).2 ∧ (f (ska b n a + 1)).2 ≤ n ∧ ska b n (f (ska b n a + 1)).2 = (f (ska b n a + 1)).2 := by
  have q := hf _ h
  have g := ska_ge (b := b) (n := n) (a := ska b n a + 1)
  exact ⟨by omega, q.2⟩
theorem trm_c {b : Nat → Int32} {n : Nat} {f : Rcg} (h : Cnr b n f) : Cnr b n (trm b n f) := sqr_c h
theorem smm_c {b : Nat → Int32} {n : Nat} {f : Rcg} (h : Cnr b n f) : Cnr b n (smm b n f) := sqr_c (trm_c h)
theorem sms_c {b : Nat → Int32} {n : Nat} {lt : Int32 → Bool} (r : Nat) : Cnr b n (sms b n lt r) := by
  cases r with
  | zero => exact smm_c atm_c
  | succ r => exact smm_c atm_c
theorem cmq_c {b : Nat → Int32} {n : Nat} {f : Rcg} : Cnr b n (cmq b n f) := fun a => by
  unfold cmq
  rw [skv_i, ska_i]
theorem mun_c {b : Nat → Int32} {n : Nat} {u : Rcg} : Cnr b n (mun b n u) := lpr_c 160
theorem mpt_c {b : Nat → Int32} {n : Nat} {u : Rcg} : Cnr b n (mpt b n u) := sqr_c mun_c
theorem cnd_c {b : Nat → Int32} {n : Nat} {u : Rcg} (h : Cnr b n u) : Cnr b n (cnd b n u) := sqr_c h
theorem unt_c {b : Nat → Int32} {n : Nat} {lt : Int32 → Bool} (r : Nat) : Cnr b n (unt b n lt r) := fun a => by
  cases r with
  | zero =>
    show (if skv b n (ska b n a) = 33 ∨ skv b n (ska b n a) = 40 then (false, ska b n (ska b n a)) else sqr (sms b n lt 0) (cmq b n (sms b n lt 0)) (ska b n a)) = _
    rw [skv_i, ska_i, sqr_c (sms_c 0) a]
    rfl
  | succ r =>
    show (if skv b n (ska b n a) = 33 then unt b n lt r (ska b n (ska b n a) + 1) else if skv b n (ska b n a) = 40 then sqr (cnd b n (unt b n lt r)) (exr b n 41) (ska b n (ska b n a) + 1) else sqr (sms b n lt (r + 1)) (cmq b n (sms b n lt (r + 1))) (ska b n a)) = _
    rw [skv_i, ska_i, sqr_c (sms_c (r + 1)) a]
    rfl
theorem acl_c {b : Nat → Int32} {n : Nat} : Cnr b n (acl b n) := sqr_c (cnd_c (unt_c 6))
theorem pcl_c {b : Nat → Int32} {n : Nat} : Cnr b n (pcl_ b n) := fun a => by
  unfold pcl_
  rw [skv_i, sqr_c (cnd_c (unt_c 6)) a, sqr_c (sms_c 6) a]
theorem prt_a {b : Nat → Int32} {n : Nat} {u : Rcg} : cnd b n u = sqr (prt b n u) (lpr b n (isq 124) (prt b n u) 160) := by
  unfold cnd mpt
  rw [← sqr_a]
  rfl
/-! the reference's reader, by what stands on the tape -/
noncomputable abbrev tn (h : Hp_) : Nat := (h_i h 1 32).toNatClampNeg
noncomputable abbrev ta (h : Hp_) : Nat := (h_i h 1 33).toNatClampNeg
theorem ta_i {h : Hp_} (I : Iv h) : (ta h : Int) = pa h := n_nat (pa_in I).1
theorem tn_i {h : Hp_} (I : Iv h) : (tn h : Int) = pz h := n_nat (pz_in I).1
noncomputable def Tp (b : Nat → Int32) (n : Nat) (h : Hp_) : Prop := (∀ k, k < n → h_i h 225 k = b k) ∧ tn h = n
theorem Tp.fr {b : Nat → Int32} {n : Nat} {ws : List Nat} {h h' : Hp_} (t : Tp b n h) (f : Fr ws h h') (o : (off ws 225 && !inw ws 1 32) = true) : Tp b n h' := by
  rw [Bool.and_eq_true, Bool.not_eq_true'] at o
  exact ⟨fun k hk => (fr_i f o.1 k).trans (t.1 k hk), by show (h_i h' 1 32).toNatClampNeg = n; rw [(f.2 1 32 o.2).1]; exact t.2⟩
/-- what was found, as place and fault say it -/
noncomputable def Ft (b : Nat → Int32) (n : Nat) (R : Bool × Nat) (h : Hp_) : Prop := (h_i h 1 34 = -1 ∧ R.1 = true ∧ ska b n (ta h) = R.2) ∨ (¬ h_i h 1 34 = -1 ∧ R.1 = false ∧ h_i h 1 34 = Int32.ofNat R.2)
theorem Ft.mv {b : Nat → Int32} {n : Nat} {R : Bool × Nat} {h h' : Hp_} (F : Ft b n R h) (e4 : h_i h' 1 34 = h_i h 1 34) (e3 : h_i h' 1 33 = h_i h 1 33) : Ft b n R h' := by
  unfold Ft ta
  rw [e4, e3]
  exact F
theorem Ft.fr {b : Nat → Int32} {n : Nat} {R : Bool × Nat} {ws : List Nat} {h h' : Hp_} (F : Ft b n R h) (f : Fr ws h h') (o : (!inw ws 1 34 && !inw ws 1 33) = true) : Ft b n R h' := by
  rw [Bool.and_eq_true, Bool.not_eq_true', Bool.not_eq_true'] at o
  exact F.mv (f.2 1 34 o.1).1 (f.2 1 33 o.2).1
theorem Ft.ok {b : Nat → Int32} {n : Nat} {R : Bool × Nat} {h : Hp_} (F : Ft b n R h) (w : h_i h 1 34 = -1) : R.1 = true ∧ ska b n (ta h) = R.2 := by
  rcases F with F | F
  · exact F.2
  · exact absurd w F.1
theorem Ft.no {b : Nat → Int32} {n : Nat} {R : Bool × Nat} {h : Hp_} (F : Ft b n R h) (w : ¬ h_i h 1 34 = -1) : R.1 = false ∧ h_i h 1 34 = Int32.ofNat R.2 := by
  rcases F with F | F
  · exact absurd F.1 w
  · exact F.2
theorem Ft.ne {b : Nat → Int32} {n : Nat} {R : Bool × Nat} {h : Hp_} (w : ¬ h_i h 1 34 = -1) (e : h_i h 1 34 = Int32.ofNat R.2) (f : R.1 = false) : Ft b n R h := Or.inr ⟨w, f, e⟩
noncomputable def Lkf (b : Nat → Int32) (n : Nat) (h : Hp_) (r : Int32) (h' : Hp_) : Prop := Lk h r h' ∧ ta h' = ska b n (ta h) ∧ r = skv b n (ta h)
theorem Lkf.i {b : Nat → Int32} {n : Nat} {h h' : Hp_} {r : Int32} (L : Lkf b n h r h') : ska b n (ta h') = ta h' := by rw [L.2.1, ska_i]
theorem Ft.lk {b : Nat → Int32} {n : Nat} {R : Bool × Nat} {h h' : Hp_} {r : Int32} (F : Ft b n R h) (L : Lkf b n h r h') : Ft b n R h' := by
  have e4 : h_i h' 1 34 = h_i h 1 34 := (L.1.2.1.2 1 34 (by decide +kernel)).1
  unfold Ft
  rw [e4, L.i, L.2.1]
  exact F
theorem Lkf.t {b : Nat → Int32} {n : Nat} {h h' : Hp_} {r : Int32} (L : Lkf b n h r h') (t : Tp b n h) : Tp b n h' := t.fr L.1.2.1 (by decide +kernel)
theorem c_lookf (d : Nat) {b : Nat → Int32} {n : Nat} {h : Hp_} (I : Iv h) (t : Tp b n h) : Ci (m_X12_look (d + 0) 0 0) [.ref 1] h (fun r h' => Lkf b n h r h') := by
  have t1 : (1 : Int32).toInt = 1 := rfl
  have ni := tn_i I
  rw [t.2] at ni
  have ni' : (n : Int) = (h_i h 1 32).toInt := ni
  have z1 : (h_i h 1 32).toInt ≤ 160 := (pz_in I).2
  have fin1 : ∀ h2, Iv h2 → Fr [1033] h h2 → pa h ≤ pa h2 → (pa h2 ≤ pa h ∨ pa h2 ≤ pz h) → ska b n (ta h2) = ska b n (ta h) → h_i h2 1 32 ≤ h_i h2 1 33 → Lkf b n h (-1) h2 := fun h2 I2 F2 l1 l2 sk y => by
    have ai := ta_i I2
    rw [(F2.2 1 32 (by decide +kernel)).1] at y
    have y' : pz h ≤ pa h2 := q_le.mp y
    have e : ska b n (ta h2) = ta h2 := ska_n (fun c => by have := c.1; omega)
    have e' : ska b n (ta h) = ta h2 := sk.symm.trans e
    refine ⟨⟨I2, F2, l1, l2, Or.inl ⟨rfl, y'⟩⟩, e'.symm, ?_⟩
    unfold skv
    rw [e', if_neg (by omega)]
  have fin2 : ∀ h2, Iv h2 → Fr [1033] h h2 → pa h ≤ pa h2 → (pa h2 ≤ pa h ∨ pa h2 ≤ pz h) → ska b n (ta h2) = ska b n (ta h) → ¬ h_i h2 1 32 ≤ h_i h2 1 33 → ¬ h_i h2 225 (ta h2) = 32 → Lkf b n h (h_i h2 225 (h_i h2 1 33).toNatClampNeg) h2 := fun h2 I2 F2 l1 l2 sk y nb => by
    have ai := ta_i I2
    have et : ∀ k, k < n → h_i h2 225 k = b k := (t.fr F2 (by decide +kernel)).1
    rw [(F2.2 1 32 (by decide +kernel)).1] at y
    have y' : pa h2 < pz h := q_nle y
    have e : ska b n (ta h2) = ta h2 := ska_n (fun c => nb ((et _ c.1).trans c.2))
    have e' : ska b n (ta h) = ta h2 := sk.symm.trans e
    refine ⟨⟨I2, F2, l1, l2, Or.inr ⟨y', fr_i F2 (by decide +kernel) _⟩⟩, e'.symm, ?_⟩
    unfold skv
    rw [e', if_pos (by omega)]
    exact et (ta h2) (by omega)
  have lp : ∀ (q : Nat) (h2 : Hp_), Iv h2 → Fr [1033] h h2 → pa h ≤ pa h2 → (pa h2 ≤ pa h ∨ pa h2 ≤ pz h) → ska b n (ta h2) = ska b n (ta h) → pz h - pa h2 ≤ q → AW (m_X12_look (d + 0) 0 0) 0 0 0 [(0, .ref 1)] [] h2 (kI (fun r h' => Lkf b n h r h')) := by
    intro q
    induction q with
    | zero =>
      intro h2 I2 F2 l1 l2 sk m
      refine t_X12_look_0 d h2 I2.1 _ ⟨fun y => ⟨fun _ => fin1 h2 I2 F2 l1 l2 sk y, fun z => absurd y z⟩, fun z => ?_⟩
      rw [(F2.2 1 32 (by decide +kernel)).1] at z
      have z := q_nle z
      have m' : (h_i h 1 32).toInt - (h_i h2 1 33).toInt ≤ 0 := m
      omega
    | succ q ih =>
      intro h2 I2 F2 l1 l2 sk m
      have ez : h_i h2 1 32 = h_i h 1 32 := (F2.2 1 32 (by decide +kernel)).1
      have et : ∀ k, k < n → h_i h2 225 k = b k := (t.fr F2 (by decide +kernel)).1
      have ai : (ta h2 : Int) = (h_i h2 1 33).toInt := ta_i I2
      have p0 : 0 ≤ (h_i h2 1 33).toInt := (pa_in I2).1
      have m' : (h_i h 1 32).toInt - (h_i h2 1 33).toInt ≤ (q + 1 : Nat) := m
      refine t_X12_look_0 d h2 I2.1 _ ⟨fun y => ⟨fun _ => fin1 h2 I2 F2 l1 l2 sk y, fun z => absurd y z⟩, fun z => ?_⟩
      have z' := z
      rw [ez] at z'
      have z' := q_nle z'
      have v : vp_in (h_i h2 1 33) 160 := dp_in (lo := 0) (hi := 159) ⟨p0, by show _ ≤ (159 : Int); omega⟩ (by decide) (by decide)
      refine ⟨v, fun nb => ⟨fun y => absurd y z, fun _ => ⟨v, fin2 h2 I2 F2 l1 l2 sk z nb⟩⟩, fun yb => ?_⟩
      have ex : (h_i h2 1 33 + 1).toInt = (h_i h2 1 33).toInt + 1 := tx_add (by rw [t1]; omega) (by rw [t1]; omega)
      have l1' : (h_i h 1 33).toInt ≤ (h_i h2 1 33).toInt := l1
      have I3 := i33 I2 (x := h_i h2 1 33 + 1) ⟨by show (0 : Int) ≤ _; omega, by show _ ≤ (180 : Int); omega⟩
      have F3 : Fr [1033] h (h_im h2 1 33 (h_i h2 1 33 + 1)) := F2.im (by decide +kernel)
      have pe : pa (h_im h2 1 33 (h_i h2 1 33 + 1)) = (h_i h2 1 33).toInt + 1 := by
        show (h_i (h_im h2 1 33 _) 1 33).toInt = _
        rw [im_at, ex]
      have a3 : ta (h_im h2 1 33 (h_i h2 1 33 + 1)) = ta h2 + 1 := by
        have k := ta_i I3
        omega
      have sk3 : ska b n (ta (h_im h2 1 33 (h_i h2 1 33 + 1))) = ska b n (ta h) := by
        rw [a3, ← ska_s ⟨by omega, by rw [← et _ (by omega)]; exact yb⟩]
        exact sk
      exact ih _ I3 F3 (by rw [pe]; show (h_i h 1 33).toInt ≤ _; omega) (Or.inr (by rw [pe]; show _ ≤ (h_i h 1 32).toInt; omega)) sk3 (by rw [pe]; show (h_i h 1 32).toInt - _ ≤ _; omega)
  refine Ct.of (fun _ _ _ => trivial) pn_X12 (Nat.le_of_ble_eq_true rfl) ?_
  have z0 : 0 ≤ (h_i h 1 32).toInt := (pz_in I).1
  have p0 : 0 ≤ (h_i h 1 33).toInt := (pa_in I).1
  exact lp 160 h I (Fr.rf _ _) (Int.le_refl _) (Or.inl (Int.le_refl _)) rfl (by show (h_i h 1 32).toInt - (h_i h 1 33).toInt ≤ 160; omega)
theorem c_badf (d : Nat) {h : Hp_} (I : Iv h) (w : h_i h 1 34 = -1) : Cv (m_X12_bad (d + 0) 0 0) [.ref 1] h (fun h' => Iv h' ∧ Fr [1034] h h' ∧ ¬ h_i h' 1 34 = -1 ∧ h_i h' 1 34 = Int32.ofNat (ta h)) := by
  have p0 : 0 ≤ (h_i h 1 33).toInt := (pa_in I).1
  refine t_X12_bad d h I.1 _ ⟨fun z => absurd w z, fun _ => ⟨i34 I _, (Fr.rf _ _).im (by decide +kernel), ?_, ?_⟩⟩
  · rw [im_at]
    intro e
    rw [e] at p0
    exact absurd p0 (by decide)
  · rw [im_at]
    exact (of_nat32 p0).symm
/-- a number read -/
noncomputable def Nmf (b : Nat → Int32) (n : Nat) (h : Hp_) (r : Int32) (h' : Hp_) : Prop := Nu h h' ∧ Ft b n (nm0 b n (ta h)) h' ∧ (h_i h' 1 34 = -1 → dgb (skv b n (ta h)) = true ∧ nml b n 4 0 (ska b n (ta h)) = (true, ta h', r))
theorem dg_eq (x : Int32) : dgb x = true ↔ (¬ x < 48 ∧ ¬ 57 < x) := decide_eq_true_iff
theorem nu_loopf (d : Nat) {b : Nat → Int32} {n : Nat} (h : Hp_) (I : Iv h) (t : Tp b n h) (c0 : dgb (skv b n (ta h)) = true) : ∀ (k : Nat) (x1 x2 : Int32) (h2 : Hp_), x2.toInt + k = 4 ∧ k ≤ 4 → Iv h2 → Fr [1033, 1034] h h2 → h_i h2 1 34 = -1 → pa h ≤ pa h2 → pa h2 ≤ pz h → nml b n 4 0 (ska b n (ta h)) = nml b n k x1 (ta h2) → ((pa h < pa h2) ∨ (ta h2 = ska b n (ta h))) →
    AW (m_X12_number (d + 1) 0 0) 0 0 20 [(0, .ref 1), (1, .int x1), (2, .int x2)] [] h2 (kI (fun r h' => Nmf b n h r h')) := by
  have t1 : (1 : Int32).toInt = 1 := rfl
  have t4 : (4 : Int32).toInt = 4 := rfl
  have z1 : (h_i h 1 32).toInt ≤ 160 := (pz_in I).2
  have ni := tn_i I
  rw [t.2] at ni
  have ni' : (n : Int) = (h_i h 1 32).toInt := ni
  have nm : ∀ q, nml b n 4 0 (ska b n (ta h)) = (true, q) → (nm0 b n (ta h)) = (true, ska b n q.1) := fun q e => by
    unfold nm0
    rw [if_pos c0, e]
    exact if_pos rfl
  have nf : ∀ q, nml b n 4 0 (ska b n (ta h)) = (false, q) → (nm0 b n (ta h)) = (false, q.1) := fun q e => by
    unfold nm0
    rw [if_pos c0, e]
    exact if_neg (by simp)
  have l0 := dgb_l c0
  have fin : ∀ (k : Nat) (x1 : Int32) (h2 : Hp_), Iv h2 → Fr [1033, 1034] h h2 → h_i h2 1 34 = -1 → pa h ≤ pa h2 → pa h2 ≤ pz h → nml b n 4 0 (ska b n (ta h)) = nml b n k x1 (ta h2) → ((pa h < pa h2) ∨ (ta h2 = ska b n (ta h))) → ¬ (ta h2 < n ∧ dgb (b (ta h2)) = true) → Nmf b n h x1 h2 := fun k x1 h2 I2 F2 w l1 l2 e c nn => by
    have e2 : nml b n k x1 (ta h2) = (true, ta h2, x1) := by
      cases k with
      | zero =>
        unfold nml
        exact if_neg nn
      | succ k =>
        unfold nml
        exact if_neg nn
    rw [e2] at e
    refine ⟨⟨I2, F2, l1, l2, fun _ => ?_⟩, Or.inl ⟨w, ?_, ?_⟩, fun _ => ⟨c0, e⟩⟩
    · rcases c with c | c
      · exact c
      · rw [← c] at l0
        exact absurd l0 nn
    · rw [nm _ e]
    · rw [nm _ e]
  intro k
  induction k with
  | zero =>
    intro x1 x2 h2 ek I2 F2 w l1 l2 e c
    have ez : h_i h2 1 32 = h_i h 1 32 := (F2.2 1 32 (by decide +kernel)).1
    have et : ∀ k, k < n → h_i h2 225 k = b k := (t.fr F2 (by decide +kernel)).1
    have ai : (ta h2 : Int) = (h_i h2 1 33).toInt := ta_i I2
    have p0 : 0 ≤ (h_i h2 1 33).toInt := (pa_in I2).1
    have x4 : x2 = 4 := Int32.toInt_inj.mp (by rw [t4]; omega)
    refine t_X12_number_20 d h2 I2.1 x1 x2 _ ⟨fun z => fin 0 x1 h2 I2 F2 w l1 l2 e c (fun y => ?_), fun z => ?_⟩
    · rw [ez] at z
      have z := q_le.mp z
      have := y.1
      omega
    · rw [ez] at z
      have z := q_nle z
      have v : vp_in (h_i h2 1 33) 160 := dp_in (lo := 0) (hi := 159) ⟨p0, by show _ ≤ (159 : Int); omega⟩ (by decide) (by decide)
      refine ⟨v, Ci.mono (c_isDigit d h2 _) (fun r h3 q => ?_)⟩
      obtain ⟨e3, q⟩ := q
      subst e3
      refine ⟨I2.1, fun r0 => fin 0 x1 h3 I2 F2 w l1 l2 e c (fun y => ?_), fun r1 => ⟨fun n4 => absurd x4 n4, fun _ => ?_⟩⟩
      · rcases q with q | q
        · rw [r0] at q
          exact absurd q.1 (by decide)
        · have y2 := (dg_eq _).mp y.2
          rw [← et _ y.1] at y2
          exact q.2 y2
      · have dg : ta h3 < n ∧ dgb (b (ta h3)) = true := by
          refine ⟨by omega, (dg_eq _).mpr ?_⟩
          rcases q with q | q
          · rw [← et _ (by omega)]
            exact q.2
          · exact absurd q.1 r1
        have e2 : nml b n 0 x1 (ta h3) = (false, ta h3, x1) := by
          unfold nml
          exact if_pos dg
        rw [e2] at e
        refine Cv.mono (c_badf d I2 w) (fun h4 k4 => ⟨k4.1.1, ⟨k4.1, F2.tr (k4.2.1.more (by decide +kernel)), ?_, ?_, fun y => absurd y k4.2.2.1⟩, Or.inr ⟨k4.2.2.1, ?_, ?_⟩, fun y => absurd y k4.2.2.1⟩)
        · show (h_i h 1 33).toInt ≤ (h_i h4 1 33).toInt
          rw [(k4.2.1.2 1 33 (by decide +kernel)).1]; exact l1
        · show (h_i h4 1 33).toInt ≤ (h_i h 1 32).toInt
          rw [(k4.2.1.2 1 33 (by decide +kernel)).1]; exact l2
        · rw [nf _ e]
        · rw [nf _ e]
          exact k4.2.2.2
  | succ k ih =>
    intro x1 x2 h2 ek I2 F2 w l1 l2 e c
    have ez : h_i h2 1 32 = h_i h 1 32 := (F2.2 1 32 (by decide +kernel)).1
    have et : ∀ k, k < n → h_i h2 225 k = b k := (t.fr F2 (by decide +kernel)).1
    have ai : (ta h2 : Int) = (h_i h2 1 33).toInt := ta_i I2
    have p0 : 0 ≤ (h_i h2 1 33).toInt := (pa_in I2).1
    have l1' : (h_i h 1 33).toInt ≤ (h_i h2 1 33).toInt := l1
    refine t_X12_number_20 d h2 I2.1 x1 x2 _ ⟨fun z => fin (k + 1) x1 h2 I2 F2 w l1 l2 e c (fun y => ?_), fun z => ?_⟩
    · rw [ez] at z
      have z := q_le.mp z
      have := y.1
      omega
    · rw [ez] at z
      have z := q_nle z
      have v : vp_in (h_i h2 1 33) 160 := dp_in (lo := 0) (hi := 159) ⟨p0, by show _ ≤ (159 : Int); omega⟩ (by decide) (by decide)
      refine ⟨v, Ci.mono (c_isDigit d h2 _) (fun r h3 q => ?_)⟩
      obtain ⟨e3, q⟩ := q
      subst e3
      refine ⟨I2.1, fun r0 => fin (k + 1) x1 h3 I2 F2 w l1 l2 e c (fun y => ?_), fun r1 => ⟨fun n4 => ⟨v, ?_⟩, fun y4 => ?_⟩⟩
      · rcases q with q | q
        · rw [r0] at q
          exact absurd q.1 (by decide)
        · have y2 := (dg_eq _).mp y.2
          rw [← et _ y.1] at y2
          exact q.2 y2
      · have dg : ta h3 < n ∧ dgb (b (ta h3)) = true := by
          refine ⟨by omega, (dg_eq _).mpr ?_⟩
          rcases q with q | q
          · rw [← et _ (by omega)]
            exact q.2
          · exact absurd q.1 r1
        have ex : (h_i h3 1 33 + 1).toInt = (h_i h3 1 33).toInt + 1 := tx_add (by rw [t1]; omega) (by rw [t1]; omega)
        have I3 := i33 I2 (x := h_i h3 1 33 + 1) ⟨by show (0 : Int) ≤ _; omega, by show _ ≤ (180 : Int); omega⟩
        have pe : pa (h_im h3 1 33 (h_i h3 1 33 + 1)) = (h_i h3 1 33).toInt + 1 := by
          show (h_i (h_im h3 1 33 _) 1 33).toInt = _
          rw [im_at, ex]
        have a3 : ta (h_im h3 1 33 (h_i h3 1 33 + 1)) = ta h3 + 1 := by
          have kk := ta_i I3
          omega
        have ex2 : (x2 + 1).toInt = x2.toInt + 1 := tx_add (by rw [t1]; omega) (by rw [t1]; omega)
        refine ih _ _ _ ⟨by omega, by omega⟩ I3 (F2.im (by decide +kernel)) (by rw [f_ne (by decide)]; exact w) (by rw [pe]; show (h_i h 1 33).toInt ≤ _; omega) (by rw [pe]; show _ ≤ (h_i h 1 32).toInt; omega) ?_ (Or.inl (by rw [pe]; show (h_i h 1 33).toInt < _; omega))
        rw [e, a3, et _ dg.1]
        show (if ta h3 < n ∧ dgb (b (ta h3)) = true then nml b n k (((x1 * 10) + b (ta h3)) - 48) (ta h3 + 1) else (true, ta h3, x1)) = _
        rw [if_pos dg, Int32.mul_comm]
      · rw [y4, t4] at ek
        omega
theorem c_numberf (d : Nat) {b : Nat → Int32} {n : Nat} {h : Hp_} (I : Iv h) (t : Tp b n h) (w : h_i h 1 34 = -1) (l : pa h ≤ pz h) : Ci (m_X12_number (d + 1) 0 0) [.ref 1] h (fun r h' => Nmf b n h r h') := by
  have z1 : (h_i h 1 32).toInt ≤ 160 := (pz_in I).2
  refine t_X12_number d h I.1 _ (Ci.mono (c_lookf d I t) (fun r h2 LL => ?_))
  obtain ⟨L, ea, er⟩ := LL
  obtain ⟨I2, F2, l1, l2, lr⟩ := L
  have l2' : (h_i h2 1 33).toInt ≤ (h_i h 1 32).toInt := by
    have l' : (h_i h 1 33).toInt ≤ (h_i h 1 32).toInt := l
    rcases l2 with u | u
    · have u' : (h_i h2 1 33).toInt ≤ (h_i h 1 33).toInt := u
      omega
    · exact u
  have F2' : Fr [1033, 1034] h h2 := F2.more (by decide +kernel)
  have w2 : h_i h2 1 34 = -1 := by rw [(F2.2 1 34 (by decide +kernel)).1]; exact w
  refine ⟨I2.1, Ci.mono (c_isDigit d h2 r) (fun r6 h4 k => ?_)⟩
  obtain ⟨e4, k⟩ := k
  subst e4
  refine ⟨I2.1, fun n0 => ?_, fun y0 => ?_⟩
  · rcases k with k | k
    · exact nu_loopf d h I t ((dg_eq _).mpr (er ▸ k.2)) 4 0 0 h4 ⟨by decide, by decide⟩ I2 F2' w2 l1 l2' (by rw [ea]) (Or.inr ea)
    · exact absurd k.1 n0
  · have nd : ¬ dgb (skv b n (ta h)) = true := fun z => by
      rcases k with k | k
      · rw [y0] at k
        exact absurd k.1 (by decide)
      · have z := (dg_eq _).mp z
        rw [← er] at z
        exact k.2 z
    have nn : nm0 b n (ta h) = (false, ska b n (ta h)) := by
      unfold nm0
      exact if_neg nd
    refine Cv.mono (c_badf d I2 w2) (fun h5 k5 => ⟨k5.1.1, ⟨k5.1, F2'.tr (k5.2.1.more (by decide +kernel)), ?_, ?_, fun y => absurd y k5.2.2.1⟩, Or.inr ⟨k5.2.2.1, ?_, ?_⟩, fun y => absurd y k5.2.2.1⟩)
    · show (h_i h 1 33).toInt ≤ (h_i h5 1 33).toInt
      rw [(k5.2.1.2 1 33 (by decide +kernel)).1]; exact l1
    · show (h_i h5 1 33).toInt ≤ (h_i h 1 32).toInt
      rw [(k5.2.1.2 1 33 (by decide +kernel)).1]; exact l2'
    · rw [nn]
    · rw [nn]
      show h_i h5 1 34 = Int32.ofNat (ska b n (ta h))
      rw [← ea]
      exact k5.2.2.2
/-! the reference: sums and conditions, by what stands on the tape -/
noncomputable def Rdf (b : Nat → Int32) (n s : Nat) (D : Int) (S : Rcg) (C : Nat → Hp_ → (Hp_ → Prop) → Prop) : Prop := ∀ (d : Nat) (h : Hp_), Iv h → Pq h → pd h = D → h_i h 1 37 = Int32.ofNat s → Tp b n h → C d h (fun h' => Pe s h h' ∧ Ft b n (S (ta h)) h')
theorem Pe.tp {b : Nat → Int32} {n s : Nat} {h h' : Hp_} (P : Pe s h h') (t : Tp b n h) : Tp b n h' := t.fr P.2.1 (by decide +kernel)
/-- what is still to be found behind this place, or it was found -/
noncomputable def Sf (b : Nat → Int32) (n : Nat) (T : Bool × Nat) (g : Rcg) (h : Hp_) : Prop := (h_i h 1 34 = -1 → T = g (ta h)) ∧ (¬ h_i h 1 34 = -1 → Ft b n T h)
theorem Sf.mv {b : Nat → Int32} {n : Nat} {T : Bool × Nat} {g : Rcg} {h h' : Hp_} (F : Sf b n T g h) (e4 : h_i h' 1 34 = h_i h 1 34) (e3 : h_i h' 1 33 = h_i h 1 33) : Sf b n T g h' := by
  refine ⟨fun w => ?_, fun w => ?_⟩
  · rw [e4] at w
    show T = g (h_i h' 1 33).toNatClampNeg
    rw [e3]
    exact F.1 w
  · rw [e4] at w
    exact (F.2 w).mv e4 e3
theorem Sf.fr {b : Nat → Int32} {n : Nat} {T : Bool × Nat} {g : Rcg} {ws : List Nat} {h h' : Hp_} (F : Sf b n T g h) (f : Fr ws h h') (o : (!inw ws 1 34 && !inw ws 1 33) = true) : Sf b n T g h' := by
  rw [Bool.and_eq_true, Bool.not_eq_true', Bool.not_eq_true'] at o
  exact F.mv (f.2 1 34 o.1).1 (f.2 1 33 o.2).1
theorem Sf.lk {b : Nat → Int32} {n : Nat} {T : Bool × Nat} {g : Rcg} {h h' : Hp_} {r : Int32} (F : Sf b n T g h) (c : Cnr b n g) (L : Lkf b n h r h') : Sf b n T g h' := by
  have e4 : h_i h' 1 34 = h_i h 1 34 := (L.1.2.1.2 1 34 (by decide +kernel)).1
  refine ⟨fun w => ?_, fun w => ?_⟩
  · rw [e4] at w
    rw [L.2.1, c]
    exact F.1 w
  · rw [e4] at w
    exact (F.2 w).lk L
theorem sqf {b : Nat → Int32} {n : Nat} {f g : Rcg} {a : Nat} {h : Hp_} (c : Cnr b n g) (F : Ft b n (f a) h) : Sf b n (sqr f g a) g h := by
  refine ⟨fun w => ?_, fun w => ?_⟩
  · have k := F.ok w
    unfold sqr
    rw [if_pos k.1, ← k.2, c]
  · have k := F.no w
    have e : sqr f g a = f a := by
      unfold sqr
      exact if_neg (by rw [k.1]; decide)
    rw [e]
    exact F
theorem Sf.sq {b : Nat → Int32} {n : Nat} {T : Bool × Nat} {f g : Rcg} {h h2 : Hp_} (F : Sf b n T (sqr f g) h) (w : h_i h 1 34 = -1) (c : Cnr b n g) (G : Ft b n (f (ta h)) h2) : Sf b n T g h2 := by
  have k := sqf (f := f) c G
  rw [← F.1 w] at k
  exact k
theorem Sf.ft {b : Nat → Int32} {n : Nat} {T : Bool × Nat} {g : Rcg} {h h2 : Hp_} (F : Sf b n T g h) (w : h_i h 1 34 = -1) (G : Ft b n (g (ta h)) h2) : Ft b n T h2 := by
  rw [F.1 w]
  exact G
theorem lp0 {b : Nat → Int32} {n : Nat} {T : Bool × Nat} {sp : Int32 → Bool} {f : Rcg} {h h5 : Hp_} {r : Int32} (F : Sf b n T (lpr b n sp f 0) h) (w : h_i h 1 34 = -1) (L : Lkf b n h r h5) : Ft b n T h5 := by
  have e4 : h_i h5 1 34 = h_i h 1 34 := (L.1.2.1.2 1 34 (by decide +kernel)).1
  rw [F.1 w]
  exact Or.inl ⟨by rw [e4]; exact w, rfl, by rw [L.i, L.2.1]; rfl⟩
theorem lpx {b : Nat → Int32} {n k : Nat} {T : Bool × Nat} {sp : Int32 → Bool} {f : Rcg} {h h5 : Hp_} {r : Int32} (F : Sf b n T (lpr b n sp f (k + 1)) h) (w : h_i h 1 34 = -1) (L : Lkf b n h r h5) (ns : sp r = false) : Ft b n T h5 := by
  have e4 : h_i h5 1 34 = h_i h 1 34 := (L.1.2.1.2 1 34 (by decide +kernel)).1
  have e : lpr b n sp f (k + 1) (ta h) = (true, ska b n (ta h)) := by
    unfold lpr
    exact if_neg (by rw [← L.2.2, ns]; decide)
  rw [F.1 w, e]
  exact Or.inl ⟨by rw [e4]; exact w, rfl, by rw [L.i, L.2.1]⟩
theorem lps {b : Nat → Int32} {n k : Nat} {T : Bool × Nat} {sp : Int32 → Bool} {f : Rcg} {h h9 : Hp_} {r : Int32} (F : Sf b n T (lpr b n sp f (k + 1)) h) (w : h_i h 1 34 = -1) (er : r = skv b n (ta h)) (ys : sp r = true) (G : Ft b n (f (ska b n (ta h) + 1)) h9) : Sf b n T (lpr b n sp f k) h9 := by
  have e : T = sqr (fun _ => f (ska b n (ta h) + 1)) (lpr b n sp f k) (ta h) := by
    rw [F.1 w]
    unfold sqr
    show (if sp (skv b n (ta h)) = true then (if (f (ska b n (ta h) + 1)).1 = true then lpr b n sp f k (f (ska b n (ta h) + 1)).2 else f (ska b n (ta h) + 1)) else (true, ska b n (ta h))) = _
    rw [if_pos (by rw [← er]; exact ys)]
  rw [e]
  exact sqf (f := fun _ => f (ska b n (ta h) + 1)) (lpr_c k) G
/-- one sign further, behind a look -/
theorem nxa {b : Nat → Int32} {n : Nat} {h h5 h6 : Hp_} {r : Int32} (L : Lkf b n h r h5) (I6 : Iv h6) (e : pa h6 = pa h5 + 1) : ta h6 = ska b n (ta h) + 1 := by
  have a := ta_i I6
  have c := ta_i L.1.1
  have d := L.2.1
  omega
theorem c_termf {b : Nat → Int32} {n : Nat} (s e : Nat) (D : Int) (f : Rcg) (A : Rdf b n s D f (fun d h K => Cv (m_X12_atom (d + e + 51) 0 0) [.ref 1] h K)) : Rdf b n s D (trm b n f) (fun d h K => Cv (m_X12_term (d + e + 52) 0 0) [.ref 1] h K) := by
  intro d h I q eD es t
  have z1 : pz h ≤ 160 := (pz_in I).2
  have lp : ∀ (k : Nat) (h2 : Hp_), Pe s h h2 → Sf b n (trm b n f (ta h)) (lpr b n (isq 42) f k) h2 → pz h - pa h2 ≤ k → AW (m_X12_term (d + e + 52) 0 0) 0 0 4 [(0, .ref 1)] [] h2 (kV (fun h' => Pe s h h' ∧ Ft b n (trm b n f (ta h)) h')) := by
    intro k
    induction k with
    | zero =>
      intro h2 P F m
      refine t_X12_term_4 (d + e) h2 P.1.1 _ ⟨fun w => ⟨P, F.2 w⟩, fun w => Ci.mono (c_lookf (d + e) P.1 (P.tp t)) (fun r h5 L => ⟨L.1.1.1, fun _ => ⟨P.lk I L.1, lp0 F w L⟩, fun er => ?_⟩)⟩
      have z2 := zf P.2.1 (by decide +kernel)
      have l3 := L.1.2.2.1
      rcases L.1.2.2.2.2 with u | u
      · rw [er] at u; exact absurd u.1 (by decide)
      · have := u.1
        omega
    | succ k ih =>
      intro h2 P F m
      refine t_X12_term_4 (d + e) h2 P.1.1 _ ⟨fun w => ⟨P, F.2 w⟩, fun w => Ci.mono (c_lookf (d + e) P.1 (P.tp t)) (fun r h5 L => ⟨L.1.1.1, fun nr => ⟨P.lk I L.1, lpx F w L (decide_eq_false nr)⟩, fun er => ?_⟩)⟩
      have P5 := P.lk I L.1
      have w5 : h_i h5 1 34 = -1 := by rw [(L.1.2.1.2 1 34 (by decide +kernel)).1]; exact w
      have z2 := zf P.2.1 (by decide +kernel)
      have l3 := L.1.2.2.1
      have l5 : pa h5 < pz h := by
        rcases L.1.2.2.2.2 with u | u
        · rw [er] at u; exact absurd u.1 (by decide)
        · have := u.1
          omega
      obtain ⟨I6, F6, a6, q6, d6, s6⟩ := P5.nx I q w5 l5
      refine Cv.mono (A d _ I6 q6 (by omega) (by rw [s6]; exact es) ((P5.tp t).fr F6 (by decide +kernel))) (fun h9 Q => ⟨Q.1.1.1, Cv.mono (c_say (d + e) Q.1.1 42 (Q.1.room I6 q6)) (fun h12 S => ?_)⟩)
      have P12 := P5.op w5 I I6 F6 (by omega) Q.1 S (by decide)
      have e33 : pa h12 = pa h9 := by show (h_i h12 1 33).toInt = _; rw [(S.2.1.2 1 33 (by decide +kernel)).1]
      have q4 := Q.1.2.2.2.1
      have G := Q.2
      rw [nxa L I6 a6] at G
      exact ⟨S.1.1, ih h12 P12 ((lps F w L.2.2 (decide_eq_true er) G).fr S.2.1 (by decide +kernel)) (by omega)⟩
  refine t_X12_term (d + e) h I.1 _ (Cv.mono (A d h I q eD es t) (fun h1 P => ⟨P.1.1.1, lp 160 h1 P.1 (sqf (f := f) (lpr_c 160) P.2) ?_⟩))
  have a1 : 0 ≤ pa h1 := (pa_in P.1.1).1
  omega
theorem c_sumf {b : Nat → Int32} {n : Nat} (s e : Nat) (D : Int) (f : Rcg) (A : Rdf b n s D (trm b n f) (fun d h K => Cv (m_X12_term (d + e + 52) 0 0) [.ref 1] h K)) : Rdf b n s D (smm b n f) (fun d h K => Cv (m_X12_sum (d + e + 53) 0 0) [.ref 1] h K) := by
  intro d h I q eD es t
  have z1 : pz h ≤ 160 := (pz_in I).2
  have ni := tn_i I
  rw [t.2] at ni
  have lp : ∀ (k : Nat) (x1 : Int32) (h4 : Hp_), Pe s h h4 → Sf b n (smm b n f (ta h)) (lpr b n pmb (trm b n f) k) h4 → (x1 = skv b n (ta h4) ∧ ska b n (ta h4) = ta h4) → (x1 = -1 ∨ pa h4 < pz h) → pz h - pa h4 ≤ k → AW (m_X12_sum (d + e + 53) 0 0) 0 0 9 [(0, .ref 1), (1, .int x1)] [] h4 (kV (fun h' => Pe s h h' ∧ Ft b n (smm b n f (ta h)) h')) := by
    intro k
    induction k with
    | zero =>
      intro x1 h4 P F er c m
      have fin : h_i h4 1 34 = -1 → Ft b n (smm b n f (ta h)) h4 := fun w => by
        rw [F.1 w]
        exact Or.inl ⟨w, rfl, rfl⟩
      refine t_X12_sum_9 (d + e) h4 P.1.1 x1 _ ⟨fun w => ⟨P, F.2 w⟩, fun w => ⟨fun e1 => ?_, fun _ => ⟨fun _ => ⟨P, fin w⟩, fun e1 => ?_⟩⟩⟩
      · rcases c with u | u
        · rw [e1] at u; exact absurd u (by decide)
        · omega
      · rcases c with u | u
        · rw [e1] at u; exact absurd u (by decide)
        · omega
    | succ k ih =>
      intro x1 h4 P F er c m
      have go : h_i h4 1 34 = -1 → pmb x1 = true → opc x1 = true → ¬ x1 = -1 → Cv (m_X12_term (d + e + 52) 0 0) [.ref 1] (h_im h4 1 33 ((h_i h4 1 33) + 1)) (fun h9 => Wf h9 ∧ (Cv (m_X12_say (d + e + 0) 0 0) [.ref 1, .int x1] h9 (fun h12 => Wf h12 ∧ (Ci (m_X12_look (d + e + 0) 0 0) [.ref 1] h12 (fun r17 h15 => Wf h15 ∧ (AW (m_X12_sum (d + e + 53) 0 0) 0 0 9 [(0, .ref 1), (1, .int r17)] [] h15 (kV (fun h' => Pe s h h' ∧ Ft b n (smm b n f (ta h)) h')))))))) := by
        intro w hp ho hn
        have l5 : pa h4 < pz h := by
          rcases c with u | u
          · exact absurd u hn
          · exact u
        obtain ⟨I6, F6, a6, q6, d6, s6⟩ := P.nx I q w l5
        refine Cv.mono (A d _ I6 q6 (by omega) (by rw [s6]; exact es) ((P.tp t).fr F6 (by decide +kernel))) (fun h9 Q => ⟨Q.1.1.1, Cv.mono (c_say (d + e) Q.1.1 x1 (Q.1.room I6 q6)) (fun h12 S => ?_)⟩)
        have P12 := P.op w I I6 F6 (by omega) Q.1 S ho
        have e33 : pa h12 = pa h9 := by show (h_i h12 1 33).toInt = _; rw [(S.2.1.2 1 33 (by decide +kernel)).1]
        have q4 := Q.1.2.2.2.1
        have G := Q.2
        have a6' : ta (h_im h4 1 33 ((h_i h4 1 33) + 1)) = ska b n (ta h4) + 1 := by
          have k1 := ta_i I6
          have k2 := ta_i P.1
          rw [er.2]
          omega
        rw [a6'] at G
        have F12 := (lps F w er.1 hp G).fr S.2.1 (by decide +kernel)
        refine ⟨S.1.1, Ci.mono (c_lookf (d + e) P12.1 (P12.tp t)) (fun r h15 L => ?_)⟩
        have l3 := L.1.2.2.1
        exact ⟨L.1.1.1, ih r h15 (P12.lk I L.1) (F12.lk (lpr_c k) L) ⟨by rw [L.2.1, skv_i]; exact L.2.2, L.i⟩ (L.1.fwd (zf P12.2.1 (by decide +kernel))) (by omega)⟩
      have fin : h_i h4 1 34 = -1 → ¬ x1 = 43 → ¬ x1 = 45 → Ft b n (smm b n f (ta h)) h4 := fun w n1 n2 => by
        have e : lpr b n pmb (trm b n f) (k + 1) (ta h4) = (true, ska b n (ta h4)) := by
          unfold lpr
          exact if_neg (by rw [← er.1]; exact fun y => (of_decide_eq_true y).elim n1 n2)
        rw [F.1 w, e]
        exact Or.inl ⟨w, rfl, rfl⟩
      refine t_X12_sum_9 (d + e) h4 P.1.1 x1 _ ⟨fun w => ⟨P, F.2 w⟩, fun w => ⟨fun e1 => go w (by rw [e1]; decide) (by rw [e1]; decide) (by rw [e1]; decide), fun n1 => ⟨fun n2 => ⟨P, fin w n1 n2⟩, fun e1 => go w (by rw [e1]; decide) (by rw [e1]; decide) (by rw [e1]; decide)⟩⟩⟩
  refine t_X12_sum (d + e) h I.1 _ (Cv.mono (A d h I q eD es t) (fun h1 P => ⟨P.1.1.1, Ci.mono (c_lookf (d + e) P.1.1 (P.1.tp t)) (fun r h4 L => ⟨L.1.1.1, lp 160 r h4 (P.1.lk I L.1) ((sqf (f := trm b n f) (lpr_c 160) P.2).lk (lpr_c 160) L) ⟨by rw [L.2.1, skv_i]; exact L.2.2, L.i⟩ (L.1.fwd (zf P.1.2.1 (by decide +kernel))) ?_⟩)⟩))
  have a1 : 0 ≤ pa h4 := (pa_in L.1.1).1
  omega
theorem c_badw (d : Nat) {h : Hp_} (I : Iv h) (w : ¬ h_i h 1 34 = -1) : Cv (m_X12_bad (d + 0) 0 0) [.ref 1] h (fun h' => Iv h' ∧ Fr [1034] h h' ∧ h_i h' 1 34 = h_i h 1 34) :=
  t_X12_bad d h I.1 _ ⟨fun _ => ⟨i34 I _, (Fr.rf _ _).im (by decide +kernel), im_at⟩, fun z => absurd z w⟩
theorem c_isSignf (d : Nat) (h : Hp_) (x : Int32) : Ci (m_X12_isSign (d + 0) 0 0) [.int x] h (fun r h' => h' = h ∧ ((r = 1 ∧ sgb x = true ∧ opc x = true ∧ ¬ x = -1) ∨ (r = 0 ∧ sgb x = false))) :=
  t_X12_isSign d h x _ ⟨fun e => ⟨rfl, Or.inl ⟨rfl, by rw [e]; decide, by rw [e]; decide, by rw [e]; decide⟩⟩, fun n1 => ⟨fun e => ⟨rfl, Or.inl ⟨rfl, by rw [e]; decide, by rw [e]; decide, by rw [e]; decide⟩⟩, fun n2 => ⟨fun n3 => ⟨rfl, Or.inr ⟨rfl, decide_eq_false (fun z => z.elim n1 (fun y => y.elim n2 n3))⟩⟩, fun e => ⟨rfl, Or.inl ⟨rfl, by rw [e]; decide, by rw [e]; decide, by rw [e]; decide⟩⟩⟩⟩⟩
theorem c_comparef {b : Nat → Int32} {n : Nat} (s e : Nat) (D : Int) (f : Rcg) (A : Rdf b n s D f (fun d h K => Cv (m_X12_sum (d + e + 53) 0 0) [.ref 1] h K)) (d : Nat) {h h2 : Hp_} (I : Iv h) (q : Pq h) (eD : pd h = D) (es : h_i h 1 37 = Int32.ofNat s) (t : Tp b n h) (P : Pe s h h2) {T : Bool × Nat} (F : Sf b n T (cmq b n f) h2) : Cv (m_X12_compare (d + e + 54) 0 0) [.ref 1] h2 (fun h' => Pe s h h' ∧ Ft b n T h') := by
  refine t_X12_compare (d + e) h2 P.1.1 _ ⟨fun w => Ci.mono (c_isSignf (d + e) h2 (-1)) (fun r h3 k => ?_), fun w => Ci.mono (c_lookf (d + e) P.1 (P.tp t)) (fun r h5 L => ⟨L.1.1.1, Ci.mono (c_isSignf (d + e) h5 r) (fun r2 h6 k => ?_)⟩)⟩
  · obtain ⟨e3, k⟩ := k
    subst e3
    refine ⟨P.1.1, fun r0 => ?_, fun _ => Cv.mono (c_badw (d + e) P.1 w) (fun h4 b4 => ⟨b4.1.1, P.bad I q b4.1 b4.2.1 (by rw [b4.2.2]; exact w), (F.2 w).mv b4.2.2 (b4.2.1.2 1 33 (by decide +kernel)).1⟩)⟩
    rcases k with k | k
    · exact absurd rfl k.2.2.2
    · exact absurd k.1 r0
  · obtain ⟨e6, k⟩ := k
    subst e6
    have P5 := P.lk I L.1
    have w5 : h_i h6 1 34 = -1 := by rw [(L.1.2.1.2 1 34 (by decide +kernel)).1]; exact w
    refine ⟨L.1.1.1, fun r0 => ?_, fun r0 => Cv.mono (c_badf (d + e) L.1.1 w5) (fun h4 b4 => ⟨b4.1.1, P5.bad I q b4.1 b4.2.1 b4.2.2.1, ?_⟩)⟩
    · rcases k with k | k
      · have l5 : pa h6 < pz h := by
          rcases L.1.fwd (zf P.2.1 (by decide +kernel)) with u | u
          · exact absurd u k.2.2.2
          · exact u
        obtain ⟨I6, F6, a6, q6, d6, s6⟩ := P5.nx I q w5 l5
        refine Cv.mono (A d _ I6 q6 (by omega) (by rw [s6]; exact es) ((P5.tp t).fr F6 (by decide +kernel))) (fun h9 Q => ⟨Q.1.1.1, Cv.mono (c_say (d + e) Q.1.1 r (Q.1.room I6 q6)) (fun h12 S => ⟨S.1.1, P5.op w5 I I6 F6 (by omega) Q.1 S k.2.2.1, ?_⟩)⟩)
        have G := Q.2
        rw [nxa L I6 a6] at G
        refine Ft.fr ?_ S.2.1 (by decide +kernel)
        rw [F.1 w]
        unfold cmq
        rw [if_pos (by rw [← L.2.2]; exact k.2.1)]
        exact G
      · exact absurd k.1 r0
    · rcases k with k | k
      · rw [r0] at k
        exact absurd k.1 (by decide)
      · rw [F.1 w]
        unfold cmq
        rw [if_neg (by rw [← L.2.2, k.2]; decide)]
        exact Or.inr ⟨b4.2.2.1, rfl, by rw [b4.2.2.2, L.2.1]⟩
end
