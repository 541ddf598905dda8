/-! contracts -/
def cp_ (dC : Nat → ClassId) (dI : Nat → Nat → Nat) (cy : Nat → ClassId) (ad adV : Nat → Nat) (dom : List Nat) (h : Hp_) (sz : Nat) (U : State) : Prop :=
  U.heap.size = sz ∧ va_P (dC, dI) kl_ (h_W cy ad h dom) U.heap ∧ va_D (fun _ => True) (h_W cy ad h dom) ∧ cx_ dC dI cy U ∧ st_ ad adV (va_A (h_W cy ad h dom) sz) U
def Ct (M : Mc_) (vs : List Value) (h : Hp_) (K : Option Value → Hp_ → Prop) : Prop :=
  ∀ (l : Ln_) (dC : Nat → ClassId) (dI : Nat → Nat → Nat) (cy : Nat → ClassId) (ad adV : Nat → Nat) (dom : List Nat) (sz : Nat), (dom.Nodup ∧ (∀ a, h_sh h a ≠ none ↔ a ∈ dom) ∧ (∀ a ∈ dom, a < 1000) ∧ ∀ b k c, h_r h b k = some c → c ∈ dom ∨ 1000 ≤ c) → (∀ v ∈ vs, h_ok dom v) →
    Met l.1 (mY M) (Cond.code (mY M) (mC M) (mN M) (mT M) :: lw_g) (mR M) (va_Pc (vs.map (h_cv ad)) (cp_ dC dI cy ad adV dom h sz)) (qq_ K dC dI cy (va_A (h_W cy ad h dom) sz) ad dom) (mR M).cells (mR M).slots (va_A (h_W cy ad h dom) sz)
theorem lv_args_cv (ad : Nat → Nat) : ∀ (vs : List Value) (i : Nat), lv_args i (vs.map (h_cv ad)) = (lv_args i vs).map (fun q => (q.1, h_cv ad q.2))
  | [], _ => rfl
  | v :: vs, i => by
    simp only [List.map_cons, lv_args, cv_cat, lv_args_cv ad vs]
theorem lv_args_mem : ∀ {vs : List Value} {i : Nat} {q : Nat × Value}, q ∈ lv_args i vs → q.2 ∈ vs
  | [], _, q, h => by simp [lv_args] at h
  | v :: vs, i, q, h => by
    simp only [lv_args] at h
    rcases List.mem_cons.mp h with h | h
    · rw [h]; exact List.mem_cons_self
    · exact List.mem_cons_of_mem _ (lv_args_mem h)
theorem lg_sl_len (ad : Nat → Nat) : ∀ vs : List Value, (lg_sl (vs.map (h_cv ad))).length = (lg_sl vs).length
  | [] => rfl
  | v :: vs => by
    have ih := lg_sl_len ad vs
    simp only [lg_sl, List.map_cons, List.flatMap_cons, List.length_append, cv_cat] at ih ⊢
    rw [ih]
    split <;> rfl
theorem cx_moved {dC : Nat → ClassId} {dI : Nat → Nat → Nat} {cy : Nat → ClassId} {s U : State} (hW : s.WarmedH U.vm) (h : cx_ dC dI cy s) : cx_ dC dI cy U :=
  ⟨va_K.moved hW.alike h.1, fun w hw => va_Nw.warmM hW (h.2.1 w hw), va_AO.moved hW.alike h.2.2⟩
theorem Ct.of {M : Mc_} {vs : List Value} {h : Hp_} {K : Option Value → Hp_ → Prop} (hX : ∀ ad A s, mX M ad A s) (hy : plainName (mY M).cls = true) (hv : (lg_sl vs).length ≤ mN M) (k : AW M 0 0 0 (lv_args 0 vs) [] h K) : Ct M vs h K := by
  intro l dC dI cy ad adV dom sz hdm hok
  refine Met.ofW (cc := mC M) (maxL := mN M) (ret := mT M) hy rfl ?_
  intro p e s m args below meth c s₁ B hml hv0
  obtain ⟨rfl, hsz, hP, hD0, hcx, hst⟩ := hv0
  have hts := atoms_spec (ws := Cond.code (mY M) (mC M) (mN M) (mT M) :: lw_g) B.pre
  have hown : s.vm.findClass (mY M).cls = some m.cls := findClass_of_methodNamed B.named
  have hnm : meth.name = (mY M).name := (name_of_methodNamed B.named B.method).1
  subst hsz
  have hD := hD0.self (sz := s.heap.size)
  have hl := lv_entry (vs.map (h_cv ad)) (n := mN M) (by rw [lg_sl_len]; exact hv)
  rw [lg_entry_eq]
  generalize (lg_sl (vs.map (h_cv ad)) ++ List.replicate (mN M - (lg_sl (vs.map (h_cv ad))).length) Slot.unset).toArray = ls at hl ⊢
  rw [lv_args_cv] at hl
  exact k l p e s m _ below meth c dC dI cy (va_A (h_W cy ad h dom) s.heap.size) ad adV ad dom dom s.heap [] ls ⟨B.exec, B.bytes, hml, B.returns, B.notSynchronized, hown, hnm, fun w hw => hts w (List.mem_cons_of_mem _ hw), hcx, fun q hq => Or.inr hq⟩ (hX _ _ _) hst ⟨fun _ _ => rfl, fun _ ha => ha⟩ ⟨hdm, hP, hD⟩ va_S.rf hl (fun q hq => hok _ (lv_args_mem hq)) (fun v hv => by cases hv)
