/-! calls -/
theorem cp_blind {dC : Nat → ClassId} {dI : Nat → Nat → Nat} {cy : Nat → ClassId} {ad adV : Nat → Nat} {dom : List Nat} {h : Hp_} {sz : Nat} {av : List Value} : FrameBlind (va_Pc av (cp_ dC dI cy ad adV dom h sz)) := by
  intro a U g mk hq
  obtain ⟨q0, q1, q2, q3, q4, q5⟩ := hq
  refine ⟨q0, q1, q2, q3, ⟨va_K.moved (u := U) (U := U.calling g mk a) (Vm.Alike.refl U.vm) q4.1, fun w hw => va_Nw.same rfl rfl (q4.2.1 w hw), va_AO.moved (u := U) (U := U.calling g mk a) (Vm.Alike.refl U.vm) q4.2.2⟩, tx_.moved (u := U) (U := U.calling g mk a) (Vm.Alike.refl U.vm) q5.1, fun r hr => vk_R.same rfl (q5.2 r hr)⟩
theorem cp_sub {dC : Nat → ClassId} {dI : Nat → Nat → Nat} {cy : Nat → ClassId} {A : Nat → Prop} {ad : Nat → Nat} {dom : List Nat} {h : Hp_} {H H0 : Heap} {locs : List Loc} (hA : ∀ q, H0.size ≤ q → A q) (hW : wd_ dC dI cy A ad dom h H) (hS : va_S A H0 H locs) : ∀ q, va_A (h_W cy ad h dom) H.size q → A q := by
  intro q hq
  rcases hq with ⟨k, e, hq⟩ | hq
  · exact hW.2.2.2 k (q, e) hq
  · exact hA q (Nat.le_trans hS.1 hq)
theorem cp_pre {y : MethodName} {cc : ByteArray} {nL : Nat} {ret : Option FieldType} {p : Program} {s : State} {m : MethodId} {args : Array Value} {meth : Method} {c : Code} {dC : Nat → ClassId} {dI : Nat → Nat → Nat} {cy : Nat → ClassId} {A : Nat → Prop} {adV ad : Nat → Nat} {dom : List Nat} {h : Hp_} {H : Heap} {locs : List Loc} (hf : fr_ y cc nL ret p s m args meth c dC dI cy A) (hT : st_ ad adV A s) (hW : wd_ dC dI cy A ad dom h H) (hS : va_S A s.heap H locs) {U : State} (hU : U.heap = H) (hWm : s.WarmedH U.vm) : cp_ dC dI cy ad adV dom h H.size U := by
  refine ⟨by rw [hU], by rw [hU]; exact hW.2.1, hW.2.2.weaken (fun _ _ _ _ => trivial), cx_moved hWm hf.2.2.2.2.2.2.2.2.1, ?_, fun r hr => vk_R.warm hWm (hT.2 r hr)⟩
  rw [hU]
  exact tx_.narrow (tx_.moved hWm.alike (tx_.kept hT.1 (fun a h1 h2 => hS.2.1 a h1 h2))) (cp_sub hf.2.2.2.2.2.2.2.2.2 hW hS)
theorem aw_back {M : Mc_} {kc ks mc ms pc : Nat} {lv : List (Nat × Value)} {rest st0 : List Value} {h : Hp_} {K K' : Option Value → Hp_ → Prop} (hXs : xs_ M)
    {l : Ln_} {p : Program} {e : Env} {s : State} {m : MethodId} {args a : Array Value} {below : List Frame} {meth : Method} {c : Code} {dC : Nat → ClassId} {dI : Nat → Nat → Nat} {cy : Nat → ClassId} {A : Nat → Prop} {ad0 adV ad : Nat → Nat} {dom0 dom : List Nat} {H : Heap} {locs : List Loc} {ls : Array Slot}
    (hf : fr_ (mY M) (mC M) (mN M) (mT M) p s m args meth c dC dI cy A) (hX : mX M ad A s) (hT : st_ ad adV A s) (hE : ex_ ad0 ad dom0 dom) (hW : wd_ dC dI cy A ad dom h H) (hS : va_S A s.heap H locs) (hl : lv_has ls (mN M) (lv.map (fun q => (q.1, h_cv ad q.2)))) (ho : ∀ q ∈ lv, h_ok dom q.2) (hs : ∀ v ∈ rest, h_ok dom v)
    (hr : va_Run p l.1 e (mR M) s m args below meth c H locs kc ks mc ms (F0 m pc ls st0) (rest.map (h_cv ad)) (qq_ K' dC dI cy (va_A (h_W cy ad h dom) H.size) ad dom a) (va_A (h_W cy ad h dom) H.size))
    (k : ∀ v h', K' v h' → AW M (kc + mc) (ks + ms) (pc + 3) lv (v.toList ++ rest) h' K) :
    W p l.1 e (mR M) s m args below meth c H locs kc ks (MQ below (qq_ K dC dI cy A ad0 dom0) args s (mR M).cells (mR M).slots A) (F0 m pc ls st0) := by
  intro T hT0 X
  obtain ⟨v, st₀, t, T', L, h0, X', hL, e1, e2, ⟨⟨v', h', ad', dom', hv, hK', hW', hov, hE'⟩, hz, hkp⟩, stp⟩ := hr T hT0 X
  cases hv
  rw [h0] at hz hkp
  have hAA := cp_sub hf.2.2.2.2.2.2.2.2.2 hW hS
  have hS1 : va_S A s.heap T'.heap (locs ++ L) := ⟨Nat.le_trans hS.1 (by rw [e1]; exact hz), fun q h1 h2 => by rw [e1, hkp q (Nat.lt_of_lt_of_le h1 hS.1) (fun z => h2 (hAA q z))]; exact hS.2.1 q h1 h2, fun q hq => by
      rcases List.mem_append.mp hq with z | z
      · exact hS.2.2 q z
      · exact hAA _ (hL q z)⟩
  have hW1 : wd_ dC dI cy A ad' dom' h' T'.heap := ⟨hW'.1, by rw [e1]; exact hW'.2.1, hW'.2.2.weaken (fun _ _ _ z => hAA _ z)⟩
  have hs1 : ∀ x ∈ v'.toList ++ rest, h_ok dom' x := by
    intro x hx
    rcases List.mem_append.mp hx with z | z
    · exact hov x (Option.mem_toList.mp z)
    · exact h_ok_mono hE'.2 (hs x z)
  have hz1 := aw_on (l := l) (e := e) (below := below) hXs (k v' h' hK') hf hX hT hE hE' hW1 hS1 hl ho hs1
  obtain ⟨t2, a1, b1⟩ := hz1 T' rfl X'
  refine ⟨t2, stp t2 ?_, b1⟩
  rw [List.map_append, cvs_same (ad := ad) (fun x hx z w => hE'.1 z (hs x hx z w))] at a1
  cases v' <;> exact a1
/-- what is known of a method that is called -/
def cm_ (M : Mc_) (n : Nat) : Prop := Cond.code (mY M) (mC M) (mN M) (mT M) ∈ lw_g ∧ Cond.initialized (mY M).cls ∈ lw_g ∧ ((mY M).cls ≠ "java/lang/invoke/MethodHandle" ∧ (mY M).cls ≠ "java/lang/invoke/VarHandle") ∧ (parseMethodDescriptor (mY M).desc).map (fun d => d.parameters.length) = some n
theorem cb_ws {M : Mc_} {n : Nat} {s : State} {args : Array Value} (hts : ∀ w ∈ lw_g, w.before args s = true) (hm : cm_ M n) : ∀ w ∈ Cond.code (mY M) (mC M) (mN M) (mT M) :: lw_g, ∀ (a' : Array Value) (U : State), s.WarmedH U.vm → w.before a' U = true := by
  intro w hw a' U hWm
  have hw' : w ∈ lw_g := (List.mem_cons.mp hw).elim (fun e => e ▸ hm.1) id
  exact word_at hWm (good_of_word (List.mem_filter.mp hw').2) (hts w hw')
theorem cb_par {M : Mc_} {n : Nat} (hm : cm_ M n) : ∀ sig, parseMethodDescriptor (mY M).desc = some sig → n = sig.parameters.length := by
  intro sig h
  have h2 := hm.2.2.2
  rw [h] at h2
  exact (Option.some.inj h2).symm
theorem cb_ {M : Mc_} {n idx : Nat} {own : String} {R : Room} {s : State} {args : Array Value} (hts : ∀ w ∈ lw_g, w.before args s = true) (hm : cm_ M n) (hlk : Cond.methodLink own idx (mY M) ∈ lw_g) (hR : (mR M).frames + 1 ≤ R.frames ∧ 8 + (mN M + 11) + (mR M).locals ≤ R.locals) :
    CallB R s args own idx (mY M) (mC M) (mN M) (mT M) (Cond.code (mY M) (mC M) (mN M) (mT M) :: lw_g) (mR M) (mR M).cells (mR M).slots n :=
  ⟨rfl, rfl, hR.1, hR.2, cb_ws hts hm, List.mem_cons_self, hts _ hm.1, hts _ hm.2.1, hm.2.2.1, cb_par hm, hts _ hlk⟩
theorem cb_n {M : Mc_} {n idx : Nat} {own : String} {R : Room} {s : State} {args : Array Value} (hts : ∀ w ∈ lw_g, w.before args s = true) (hm : cm_ M n) (hlk : va_Nw (.methodLinkNest own idx (mY M) "CountyWatch") s) (hR : (mR M).frames + 1 ≤ R.frames ∧ 8 + (mN M + 11) + (mR M).locals ≤ R.locals) :
    va_CN R s args own idx (mY M) "CountyWatch" (mC M) (mN M) (mT M) (Cond.code (mY M) (mC M) (mN M) (mT M) :: lw_g) (mR M) (mR M).cells (mR M).slots n :=
  ⟨⟨rfl, rfl, hR.1, hR.2, cb_ws hts hm, List.mem_cons_self⟩, hts _ hm.1, hts _ hm.2.1, hm.2.2.1, cb_par hm, va_Nw.use rfl hlk⟩
section AWK
variable {M M' : Mc_} {kc ks pc : Nat} {lv : List (Nat × Value)} {vs rest : List Value} {h : Hp_} {K K' : Option Value → Hp_ → Prop} {n idx : Nat}
theorem cat_cv (ad : Nat → Nat) (rest : List Value) : (rest.map (h_cv ad)).map (fun v => v.category) = rest.map (fun v => v.category) := by
  rw [List.map_map]
  exact List.map_congr_left (fun v _ => cv_cat ad v)
theorem aw_callS (hd : decode (mC M) pc = .ok (.invokestatic idx, 3)) (hm : cm_ M' n) (hst : Cond.static (mY M') ∈ lw_g) (hlk : Cond.methodLink (mY M).cls idx (mY M') ∈ lw_g) (hn : vs.length = n) (hR : (mR M').frames + 1 ≤ (mR M).frames ∧ 8 + (mN M' + 11) + (mR M').locals ≤ (mR M).locals) (hc : (rest.map (fun v => v.category)).sum ≤ 8) (hk : kc + (mR M').cells ≤ (mR M).cells ∧ ks + (mR M').slots ≤ (mR M).slots) (hXs : xs_ M)
    (hC : Ct M' vs h K') (k : ∀ v h', K' v h' → AW M (kc + (mR M').cells) (ks + (mR M').slots) (pc + 3) lv (v.toList ++ rest) h' K) : AW M kc ks pc lv (vs.reverse ++ rest) h K := by
  intro l p e s m args below meth c dC dI cy A ad0 adV ad dom0 dom H locs ls hf hX hT hE hW hS hl ho hs
  have hov : ∀ v ∈ vs, h_ok dom v := fun v hv => hs v (List.mem_append_left _ (List.mem_reverse.mpr hv))
  refine aw_back (a := (vs.map (h_cv ad)).toArray) hXs hf hX hT hE hW hS hl ho (fun v hv => hs v (List.mem_append_right _ hv)) ?_ k
  exact va_runS (As := vs.map (h_cv ad)) ⟨hf.1, hf.2.1, hf.2.2.1, hf.2.2.2.2.2.1, hf.2.2.2.2.2.2.2.1⟩ (hC l dC dI cy ad adV dom H.size hW.1 hov) ⟨cb_ hf.2.2.2.2.2.2.2.1 hm hlk hR, hf.2.2.2.2.2.2.2.1 _ hst⟩ ⟨cp_blind, fun U hU hWm => ⟨rfl, cp_pre hf hT hW hS hU hWm⟩⟩ rfl (by rw [List.length_map]; exact hn) hl.1 (by rw [List.map_append, List.map_reverse]) (lv_room (by rw [cat_cv]; exact hc)) hd hk
theorem aw_callSN (hd : decode (mC M) pc = .ok (.invokestatic idx, 3)) (hm : cm_ M' n) (hst : Cond.static (mY M') ∈ lw_g) (hlk : ((mY M).cls, idx, mY M') ∈ h_nest) (hn : vs.length = n) (hR : (mR M').frames + 1 ≤ (mR M).frames ∧ 8 + (mN M' + 11) + (mR M').locals ≤ (mR M).locals) (hc : (rest.map (fun v => v.category)).sum ≤ 8) (hk : kc + (mR M').cells ≤ (mR M).cells ∧ ks + (mR M').slots ≤ (mR M).slots) (hXs : xs_ M)
    (hC : Ct M' vs h K') (k : ∀ v h', K' v h' → AW M (kc + (mR M').cells) (ks + (mR M').slots) (pc + 3) lv (v.toList ++ rest) h' K) : AW M kc ks pc lv (vs.reverse ++ rest) h K := by
  intro l p e s m args below meth c dC dI cy A ad0 adV ad dom0 dom H locs ls hf hX hT hE hW hS hl ho hs
  have hov : ∀ v ∈ vs, h_ok dom v := fun v hv => hs v (List.mem_append_left _ (List.mem_reverse.mpr hv))
  refine aw_back (a := (vs.map (h_cv ad)).toArray) hXs hf hX hT hE hW hS hl ho (fun v hv => hs v (List.mem_append_right _ hv)) ?_ k
  exact va_runSN (As := vs.map (h_cv ad)) ⟨hf.1, hf.2.1, hf.2.2.1, hf.2.2.2.2.2.1, hf.2.2.2.2.2.2.2.1⟩ (hC l dC dI cy ad adV dom H.size hW.1 hov) ⟨cb_n hf.2.2.2.2.2.2.2.1 hm (hf.2.2.2.2.2.2.2.2.1.2.1 _ hlk) hR, hf.2.2.2.2.2.2.2.1 _ hst, trivial⟩ ⟨cp_blind, fun U hU hWm => ⟨rfl, cp_pre hf hT hW hS hU hWm⟩⟩ rfl (by rw [List.length_map]; exact hn) hl.1 (by rw [List.map_append, List.map_reverse]) (lv_room (by rw [cat_cv]; exact hc)) hd hk
theorem aw_callV {ci a N : Nat} {C : String} {T : u_T} (hd : decode (mC M) pc = .ok (.invokevirtual idx, 3)) (hm : cm_ M' n) (hkc : kc_ ci C T N) (hs0 : h_sh h a = some (ci + 10, N)) (hin : Cond.instanceMethod (mY M') ∈ lw_g) (hse : Cond.selects C (mY M') (mY M') ∈ lw_g) (hlk : Cond.methodLink (mY M).cls idx (mY M') ∈ lw_g) (hn : vs.length = n) (hR : (mR M').frames + 1 ≤ (mR M).frames ∧ 8 + (mN M' + 11) + (mR M').locals ≤ (mR M).locals) (hc : (rest.map (fun v => v.category)).sum ≤ 8) (hk : kc + (mR M').cells ≤ (mR M).cells ∧ ks + (mR M').slots ≤ (mR M).slots) (hXs : xs_ M)
    (hC : Ct M' (.ref a :: vs) h K') (k : ∀ v h', K' v h' → AW M (kc + (mR M').cells) (ks + (mR M').slots) (pc + 3) lv (v.toList ++ rest) h' K) : AW M kc ks pc lv (vs.reverse ++ .ref a :: rest) h K := by
  intro l p e s m args below meth c dC dI cy A ad0 adV ad dom0 dom H locs ls hf hX hT hE hW hS hl ho hs
  have hov : ∀ v ∈ Value.ref a :: vs, h_ok dom v := fun v hv => hs v (by
    rcases List.mem_cons.mp hv with z | z
    · exact List.mem_append_right _ (by rw [z]; exact List.mem_cons_self)
    · exact List.mem_append_left _ (List.mem_reverse.mpr z))
  obtain ⟨q, hq, hw⟩ := h_W_get (cy := cy) (ad := ad) (h := h) (wd_in hW hs0)
  rw [h_ce_obj hs0] at hw
  refine aw_back (a := (Value.ref (ad a) :: vs.map (h_cv ad)).toArray) hXs hf hX hT hE hW hS hl ho (fun v hv => hs v (List.mem_append_right _ (List.mem_cons_of_mem _ hv))) ?_ k
  exact va_runV (As := vs.map (h_cv ad)) ⟨hf.1, hf.2.1, hf.2.2.1, hf.2.2.2.2.2.1, hf.2.2.2.2.2.2.2.1⟩ (hC l dC dI cy ad adV dom H.size hW.1 hov) ⟨cb_ hf.2.2.2.2.2.2.2.1 hm hlk hR, hf.2.2.2.2.2.2.2.1 _ hin, hf.2.2.2.2.2.2.2.1 _ hse⟩ ⟨cp_blind, va_recv hf.2.2.2.2.2.2.2.2.1.1 hW.2.1 hkc.1 hw, fun U hU hWm => ⟨rfl, cp_pre hf hT hW hS hU hWm⟩⟩ rfl (by rw [List.length_map]; exact hn) hl.1 (by rw [List.map_append, List.map_reverse]; rfl) (lv_room (by rw [cat_cv]; exact hc)) hd hk
theorem aw_callI {a : Nat} (hd : decode (mC M) pc = .ok (.invokespecial idx, 3)) (hm : cm_ M' n) (hnm : (mY M').name = "<init>" ∧ mT M' = none) (hin : Cond.instanceMethod (mY M') ∈ lw_g) (hlk : Cond.methodLink (mY M).cls idx (mY M') ∈ lw_g) (hn : vs.length = n) (hR : (mR M').frames + 1 ≤ (mR M).frames ∧ 8 + (mN M' + 11) + (mR M').locals ≤ (mR M).locals) (hc : (rest.map (fun v => v.category)).sum ≤ 8) (hk : kc + (mR M').cells ≤ (mR M).cells ∧ ks + (mR M').slots ≤ (mR M).slots) (hXs : xs_ M)
    (hC : Ct M' (.ref a :: vs) h K') (k : ∀ v h', K' v h' → AW M (kc + (mR M').cells) (ks + (mR M').slots) (pc + 3) lv (v.toList ++ rest) h' K) : AW M kc ks pc lv (vs.reverse ++ .ref a :: rest) h K := by
  intro l p e s m args below meth c dC dI cy A ad0 adV ad dom0 dom H locs ls hf hX hT hE hW hS hl ho hs
  have hov : ∀ v ∈ Value.ref a :: vs, h_ok dom v := fun v hv => hs v (by
    rcases List.mem_cons.mp hv with z | z
    · exact List.mem_append_right _ (by rw [z]; exact List.mem_cons_self)
    · exact List.mem_append_left _ (List.mem_reverse.mpr z))
  refine aw_back (a := (Value.ref (ad a) :: vs.map (h_cv ad)).toArray) hXs hf hX hT hE hW hS hl ho (fun v hv => hs v (List.mem_append_right _ (List.mem_cons_of_mem _ hv))) ?_ k
  have hcb := cb_ (R := mR M) (s := s) (args := args) hf.2.2.2.2.2.2.2.1 hm hlk hR
  have hM := hC l dC dI cy ad adV dom H.size hW.1 hov
  rw [hnm.2] at hcb hM
  exact va_runI (As := vs.map (h_cv ad)) ⟨hf.1, hf.2.1, hf.2.2.1, hf.2.2.2.2.2.1, hf.2.2.2.2.2.2.2.1⟩ hM ⟨hcb, hnm.1, hf.2.2.2.2.2.2.2.1 _ hin⟩ ⟨cp_blind, fun U hU hWm => ⟨rfl, cp_pre hf hT hW hS hU hWm⟩⟩ rfl (by rw [List.length_map]; exact hn) hl.1 (by rw [List.map_append, List.map_reverse]; rfl) (lv_room (by rw [cat_cv]; exact hc)) hd hk
theorem aw_callIN {a : Nat} (hd : decode (mC M) pc = .ok (.invokespecial idx, 3)) (hm : cm_ M' n) (hnm : (mY M').name = "<init>" ∧ mT M' = none) (hin : Cond.instanceMethod (mY M') ∈ lw_g) (hlk : ((mY M).cls, idx, mY M') ∈ h_nest) (hn : vs.length = n) (hR : (mR M').frames + 1 ≤ (mR M).frames ∧ 8 + (mN M' + 11) + (mR M').locals ≤ (mR M).locals) (hc : (rest.map (fun v => v.category)).sum ≤ 8) (hk : kc + (mR M').cells ≤ (mR M).cells ∧ ks + (mR M').slots ≤ (mR M).slots) (hXs : xs_ M)
    (hC : Ct M' (.ref a :: vs) h K') (k : ∀ v h', K' v h' → AW M (kc + (mR M').cells) (ks + (mR M').slots) (pc + 3) lv (v.toList ++ rest) h' K) : AW M kc ks pc lv (vs.reverse ++ .ref a :: rest) h K := by
  intro l p e s m args below meth c dC dI cy A ad0 adV ad dom0 dom H locs ls hf hX hT hE hW hS hl ho hs
  have hov : ∀ v ∈ Value.ref a :: vs, h_ok dom v := fun v hv => hs v (by
    rcases List.mem_cons.mp hv with z | z
    · exact List.mem_append_right _ (by rw [z]; exact List.mem_cons_self)
    · exact List.mem_append_left _ (List.mem_reverse.mpr z))
  refine aw_back (a := (Value.ref (ad a) :: vs.map (h_cv ad)).toArray) hXs hf hX hT hE hW hS hl ho (fun v hv => hs v (List.mem_append_right _ (List.mem_cons_of_mem _ hv))) ?_ k
  have hcb := cb_n (R := mR M) (s := s) (args := args) hf.2.2.2.2.2.2.2.1 hm (hf.2.2.2.2.2.2.2.2.1.2.1 _ hlk) hR
  have hM := hC l dC dI cy ad adV dom H.size hW.1 hov
  rw [hnm.2] at hcb hM
  exact va_runIN (As := vs.map (h_cv ad)) ⟨hf.1, hf.2.1, hf.2.2.1, hf.2.2.2.2.2.1, hf.2.2.2.2.2.2.2.1⟩ hM ⟨hcb, hnm.1, hf.2.2.2.2.2.2.2.1 _ hin⟩ ⟨cp_blind, fun U hU hWm => ⟨rfl, cp_pre hf hT hW hS hU hWm⟩⟩ rfl (by rw [List.length_map]; exact hn) hl.1 (by rw [List.map_append, List.map_reverse]; rfl) (lv_room (by rw [cat_cv]; exact hc)) hd hk
theorem aw_objInit {a : Nat} (hd : decode (mC M) pc = .ok (.invokespecial idx, 3)) (hlk : Cond.methodLink (mY M).cls idx objectInit ∈ lw_g) (hin : Cond.instanceMethod objectInit ∈ lw_g) (hcd : Cond.code objectInit ⟨#[0xb1]⟩ 1 none ∈ lw_g) (hfr : 1 ≤ (mR M).frames) (hlo : (rest.map (fun v => v.category)).sum + 12 ≤ (mR M).locals) (k : AW M kc ks (pc + 3) lv rest h K) : AW M kc ks pc lv (.ref a :: rest) h K := by
  intro l p e s m args below meth c dC dI cy A ad0 adV ad dom0 dom H locs ls hf hX hT hE hW hS hl ho hs
  refine W.objInit hf.1 hf.2.1 hf.2.2.2.2.2.1 (hf.2.2.2.2.2.2.2.1 _ hlk) (hf.2.2.2.2.2.2.2.1 _ hin) (hf.2.2.2.2.2.2.2.1 _ hcd) rfl (hl.1.trans hf.2.2.1.symm) rfl hd hfr ?_ (k l p e s m args below meth c dC dI cy A ad0 adV ad dom0 dom H locs ls hf hX hT hE hW hS hl ho (ok_t hs))
  rw [cat_cv]
  exact Nat.le_trans (by simp [JFrame.monitorRoom]) hlo
end AWK
