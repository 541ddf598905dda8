/-! contracts by what is answered -/
def Ci (M : Mc_) (vs : List Value) (h : Hp_) (K : Int32 → Hp_ → Prop) : Prop := Ct M vs h (fun v h' => ∃ r, v = some (.int r) ∧ K r h')
def Cl_ (M : Mc_) (vs : List Value) (h : Hp_) (K : Int64 → Hp_ → Prop) : Prop := Ct M vs h (fun v h' => ∃ r, v = some (.long r) ∧ K r h')
def Cv (M : Mc_) (vs : List Value) (h : Hp_) (K : Hp_ → Prop) : Prop := Ct M vs h (fun v h' => v = none ∧ K h')
def Cr (M : Mc_) (vs : List Value) (h : Hp_) (K : Option Nat → Hp_ → Prop) : Prop := Ct M vs h (fun v h' => ∃ o, v = some (va_rf o) ∧ K o h')
theorem Met_mono {l : Launch} {y : MethodName} {ws : List Cond} {rm : Room} {Pc : Array Value → State → Prop} {Q1 Q2 : Array Value → State → Outcome → State → Prop} {mc ms : Nat} {free : Addr → Prop} (h : Met l y ws rm Pc Q1 mc ms free) (hQ : ∀ a s o t, Q1 a s o t → Q2 a s o t) : Met l y ws rm Pc Q2 mc ms free := by
  intro p e ha hc hk s m args below hf hp hP hT
  obtain ⟨k, o, h1, h2, h3, h4⟩ := h p e ha hc hk s m args below hf hp hP hT
  exact ⟨k, o, h1, h2, h3, hQ _ _ _ _ h4.1, h4.2⟩
theorem Ct.mono {M : Mc_} {vs : List Value} {h : Hp_} {K K' : Option Value → Hp_ → Prop} (hC : Ct M vs h K) (hK : ∀ v h', K v h' → K' v h') : Ct M vs h K' := by
  intro l dC dI cy ad adV dom sz hdm hok
  refine Met_mono (hC l dC dI cy ad adV dom sz hdm hok) (fun a s o t hq => ?_)
  obtain ⟨⟨v, h', ad', dom', e1, e2, e3⟩, e4⟩ := hq
  exact ⟨⟨v, h', ad', dom', e1, hK _ _ e2, e3⟩, e4⟩
theorem Ci.mono {M : Mc_} {vs : List Value} {h : Hp_} {K K' : Int32 → Hp_ → Prop} (hC : Ci M vs h K) (hK : ∀ r h', K r h' → K' r h') : Ci M vs h K' := Ct.mono hC (fun _ _ ⟨r, e, k⟩ => ⟨r, e, hK _ _ k⟩)
theorem Cv.mono {M : Mc_} {vs : List Value} {h : Hp_} {K K' : Hp_ → Prop} (hC : Cv M vs h K) (hK : ∀ h', K h' → K' h') : Cv M vs h K' := Ct.mono hC (fun _ _ ⟨e, k⟩ => ⟨e, hK _ k⟩)
theorem Cr.mono {M : Mc_} {vs : List Value} {h : Hp_} {K K' : Option Nat → Hp_ → Prop} (hC : Cr M vs h K) (hK : ∀ r h', K r h' → K' r h') : Cr M vs h K' := Ct.mono hC (fun _ _ ⟨r, e, k⟩ => ⟨r, e, hK _ _ k⟩)
theorem AW.mono {M : Mc_} {kc ks pc : Nat} {lv : List (Nat × Value)} {st : List Value} {h : Hp_} {K K' : Option Value → Hp_ → Prop} (hC : AW M kc ks pc lv st h K) (hK : ∀ v h', K v h' → K' v h') : AW M kc ks pc lv st h K' := by
  intro l p e s m args below meth c dC dI cy A ad0 adV ad dom0 dom H locs ls hf hX hT hE hW hS hl ho hs T hT0 X
  obtain ⟨t, h1, o, h2, h3, h4, h5⟩ := hC l p e s m args below meth c dC dI cy A ad0 adV ad dom0 dom H locs ls hf hX hT hE hW hS hl ho hs T hT0 X
  obtain ⟨⟨v, h', ad', dom', e1, e2, e3⟩, e4⟩ := h4
  exact ⟨t, h1, o, h2, h3, ⟨⟨v, h', ad', dom', e1, hK _ _ e2, e3⟩, e4⟩, h5⟩
/-- how a method stands to its caller: room, and the caller's cells -/
def rr_ (M' M : Mc_) (kc ks : Nat) : Prop := ((mR M').frames + 1 ≤ (mR M).frames ∧ 8 + (mN M' + 11) + (mR M').locals ≤ (mR M).locals) ∧ kc + (mR M').cells ≤ (mR M).cells ∧ ks + (mR M').slots ≤ (mR M).slots
/-- a static method, an instance method: what the tables say of it -/
def cS_ (M : Mc_) (n : Nat) : Prop := cm_ M n ∧ Cond.static (mY M) ∈ lw_g
def cV_ (M : Mc_) (n : Nat) : Prop := cm_ M n ∧ Cond.instanceMethod (mY M) ∈ lw_g ∧ Cond.selects (mY M).cls (mY M) (mY M) ∈ lw_g
section AWL
variable {M M' : Mc_} {kc ks pc : Nat} {lv : List (Nat × Value)} {h : Hp_} {K : Option Value → Hp_ → Prop} {n idx : Nat}
theorem aw_Si (vs rest : List Value) (hd : decode (mC M) pc = .ok (.invokestatic idx, 3)) (hm : cS_ M' n) (hlk : Cond.methodLink (mY M).cls idx (mY M') ∈ lw_g) (hn : vs.length = n) (hR : rr_ M' M kc ks) (hc : (rest.map (fun v => v.category)).sum ≤ 8) (hXs : xs_ M) {K' : Int32 → Hp_ → Prop}
    (hC : Ci M' vs h K') (k : ∀ r h', K' r h' → AW M (kc + (mR M').cells) (ks + (mR M').slots) (pc + 3) lv (.int r :: rest) h' K) : AW M kc ks pc lv (vs.reverse ++ rest) h K :=
  aw_callS hd hm.1 hm.2 hlk hn hR.1 hc hR.2 hXs hC (fun _ _ ⟨r, e, w⟩ => e ▸ k r _ w)
theorem aw_SNi (vs rest : List Value) (hd : decode (mC M) pc = .ok (.invokestatic idx, 3)) (hm : cS_ M' n) (hlk : ((mY M).cls, idx, mY M') ∈ h_nest) (hn : vs.length = n) (hR : rr_ M' M kc ks) (hc : (rest.map (fun v => v.category)).sum ≤ 8) (hXs : xs_ M) {K' : Int32 → Hp_ → Prop}
    (hC : Ci M' vs h K') (k : ∀ r h', K' r h' → AW M (kc + (mR M').cells) (ks + (mR M').slots) (pc + 3) lv (.int r :: rest) h' K) : AW M kc ks pc lv (vs.reverse ++ rest) h K :=
  aw_callSN hd hm.1 hm.2 hlk hn hR.1 hc hR.2 hXs hC (fun _ _ ⟨r, e, w⟩ => e ▸ k r _ w)
theorem aw_Sl (vs rest : List Value) (hd : decode (mC M) pc = .ok (.invokestatic idx, 3)) (hm : cS_ M' n) (hlk : Cond.methodLink (mY M).cls idx (mY M') ∈ lw_g) (hn : vs.length = n) (hR : rr_ M' M kc ks) (hc : (rest.map (fun v => v.category)).sum ≤ 8) (hXs : xs_ M) {K' : Int64 → Hp_ → Prop}
    (hC : Cl_ M' vs h K') (k : ∀ r h', K' r h' → AW M (kc + (mR M').cells) (ks + (mR M').slots) (pc + 3) lv (.long r :: rest) h' K) : AW M kc ks pc lv (vs.reverse ++ rest) h K :=
  aw_callS hd hm.1 hm.2 hlk hn hR.1 hc hR.2 hXs hC (fun _ _ ⟨r, e, w⟩ => e ▸ k r _ w)
theorem aw_Sv (vs rest : List Value) (hd : decode (mC M) pc = .ok (.invokestatic idx, 3)) (hm : cS_ M' n) (hlk : Cond.methodLink (mY M).cls idx (mY M') ∈ lw_g) (hn : vs.length = n) (hR : rr_ M' M kc ks) (hc : (rest.map (fun v => v.category)).sum ≤ 8) (hXs : xs_ M) {K' : Hp_ → Prop}
    (hC : Cv M' vs h K') (k : ∀ h', K' h' → AW M (kc + (mR M').cells) (ks + (mR M').slots) (pc + 3) lv rest h' K) : AW M kc ks pc lv (vs.reverse ++ rest) h K :=
  aw_callS hd hm.1 hm.2 hlk hn hR.1 hc hR.2 hXs hC (fun _ _ ⟨e, w⟩ => e ▸ k _ w)
theorem aw_Vi {ci N : Nat} {T : u_T} (a : Nat) (vs rest : List Value) (hd : decode (mC M) pc = .ok (.invokevirtual idx, 3)) (hm : cV_ M' n) (hkc : kc_ ci (mY M').cls T N) (hs0 : h_sh h a = some (ci + 10, N)) (hlk : Cond.methodLink (mY M).cls idx (mY M') ∈ lw_g) (hn : vs.length = n) (hR : rr_ M' M kc ks) (hc : (rest.map (fun v => v.category)).sum ≤ 8) (hXs : xs_ M) {K' : Int32 → Hp_ → Prop}
    (hC : Ci M' (.ref a :: vs) h K') (k : ∀ r h', K' r h' → AW M (kc + (mR M').cells) (ks + (mR M').slots) (pc + 3) lv (.int r :: rest) h' K) : AW M kc ks pc lv (vs.reverse ++ .ref a :: rest) h K :=
  aw_callV hd hm.1 hkc hs0 hm.2.1 hm.2.2 hlk hn hR.1 hc hR.2 hXs hC (fun _ _ ⟨r, e, w⟩ => e ▸ k r _ w)
theorem aw_Vl {ci N : Nat} {T : u_T} (a : Nat) (vs rest : List Value) (hd : decode (mC M) pc = .ok (.invokevirtual idx, 3)) (hm : cV_ M' n) (hkc : kc_ ci (mY M').cls T N) (hs0 : h_sh h a = some (ci + 10, N)) (hlk : Cond.methodLink (mY M).cls idx (mY M') ∈ lw_g) (hn : vs.length = n) (hR : rr_ M' M kc ks) (hc : (rest.map (fun v => v.category)).sum ≤ 8) (hXs : xs_ M) {K' : Int64 → Hp_ → Prop}
    (hC : Cl_ M' (.ref a :: vs) h K') (k : ∀ r h', K' r h' → AW M (kc + (mR M').cells) (ks + (mR M').slots) (pc + 3) lv (.long r :: rest) h' K) : AW M kc ks pc lv (vs.reverse ++ .ref a :: rest) h K :=
  aw_callV hd hm.1 hkc hs0 hm.2.1 hm.2.2 hlk hn hR.1 hc hR.2 hXs hC (fun _ _ ⟨r, e, w⟩ => e ▸ k r _ w)
theorem aw_Vv {ci N : Nat} {T : u_T} (a : Nat) (vs rest : List Value) (hd : decode (mC M) pc = .ok (.invokevirtual idx, 3)) (hm : cV_ M' n) (hkc : kc_ ci (mY M').cls T N) (hs0 : h_sh h a = some (ci + 10, N)) (hlk : Cond.methodLink (mY M).cls idx (mY M') ∈ lw_g) (hn : vs.length = n) (hR : rr_ M' M kc ks) (hc : (rest.map (fun v => v.category)).sum ≤ 8) (hXs : xs_ M) {K' : Hp_ → Prop}
    (hC : Cv M' (.ref a :: vs) h K') (k : ∀ h', K' h' → AW M (kc + (mR M').cells) (ks + (mR M').slots) (pc + 3) lv rest h' K) : AW M kc ks pc lv (vs.reverse ++ .ref a :: rest) h K :=
  aw_callV hd hm.1 hkc hs0 hm.2.1 hm.2.2 hlk hn hR.1 hc hR.2 hXs hC (fun _ _ ⟨e, w⟩ => e ▸ k _ w)
theorem aw_Vr {ci N : Nat} {T : u_T} (a : Nat) (vs rest : List Value) (hd : decode (mC M) pc = .ok (.invokevirtual idx, 3)) (hm : cV_ M' n) (hkc : kc_ ci (mY M').cls T N) (hs0 : h_sh h a = some (ci + 10, N)) (hlk : Cond.methodLink (mY M).cls idx (mY M') ∈ lw_g) (hn : vs.length = n) (hR : rr_ M' M kc ks) (hc : (rest.map (fun v => v.category)).sum ≤ 8) (hXs : xs_ M) {K' : Option Nat → Hp_ → Prop}
    (hC : Cr M' (.ref a :: vs) h K') (k1 : ∀ h', K' none h' → AW M (kc + (mR M').cells) (ks + (mR M').slots) (pc + 3) lv (.null :: rest) h' K) (k2 : ∀ b h', K' (some b) h' → AW M (kc + (mR M').cells) (ks + (mR M').slots) (pc + 3) lv (.ref b :: rest) h' K) : AW M kc ks pc lv (vs.reverse ++ .ref a :: rest) h K :=
  aw_callV hd hm.1 hkc hs0 hm.2.1 hm.2.2 hlk hn hR.1 hc hR.2 hXs hC (fun _ _ ⟨o, e, w⟩ => by
    subst e
    cases o with
    | none => exact k1 _ w
    | some b => exact k2 b _ w)
end AWL
/-- a truth value -/
def bI (c : Prop) [Decidable c] : Int32 := if c then 1 else 0
theorem bI_0 {c : Prop} [Decidable c] : bI c = 0 ↔ ¬ c := by unfold bI; by_cases h : c <;> simp [h]
theorem bI_1 {c : Prop} [Decidable c] : bI c = 1 ↔ c := by unfold bI; by_cases h : c <;> simp [h]
theorem bI_n0 {c : Prop} [Decidable c] : ¬ bI c = 0 ↔ c := by rw [bI_0]; exact Decidable.not_not
theorem bI_nar (c : Prop) [Decidable c] : narrow .boolean (.int (bI c)) = .int (bI c) := by unfold bI; split <;> rfl
section AWB
variable {M : Mc_} {kc ks pc : Nat} {lv : List (Nat × Value)} {st : List Value} {h : Hp_} {K : Option Value → Hp_ → Prop}
theorem aw_ifb_eq {c : Prop} [Decidable c] {off : Int} {tgt : Nat} (hd : decode (mC M) pc = .ok (.ifCond .eq off, 3)) (ht : (pc : Int) + off = (tgt : Int)) (k1 : ¬ c → AW M kc ks tgt lv st h K) (k2 : c → AW M kc ks (pc + 3) lv st h K) : AW M kc ks pc lv (.int (bI c) :: st) h K := aw_if_eq hd ht (fun z => k1 (bI_0.mp z)) (fun z => k2 (bI_n0.mp z))
theorem aw_ifb_ne {c : Prop} [Decidable c] {off : Int} {tgt : Nat} (hd : decode (mC M) pc = .ok (.ifCond .ne off, 3)) (ht : (pc : Int) + off = (tgt : Int)) (k1 : c → AW M kc ks tgt lv st h K) (k2 : ¬ c → AW M kc ks (pc + 3) lv st h K) : AW M kc ks pc lv (.int (bI c) :: st) h K := aw_if_ne hd ht (fun z => k1 (bI_n0.mp z)) (fun z => k2 (bI_0.mp z))
end AWB
