/-! ends, new cells, calls, contracts -/
section AWC
variable {M : Mc_} {kc ks pc : Nat} {lv : List (Nat × Value)} {st : List Value} {h : Hp_} {K : Option Value → Hp_ → Prop}
theorem aw_iret {x : Int32} (hr : mT M = some .int) (hd : decode (mC M) pc = .ok (.ireturn, 1)) (hk : kc ≤ (mR M).cells ∧ ks ≤ (mR M).slots) (k : K (some (.int x)) h) : AW M kc ks pc lv [.int x] h K := by
  intro l p e s m args below meth c dC dI cy A ad0 adV ad dom0 dom H locs ls hf hX hT hE hW hS hl ho hs
  refine W.widen hk.1 hk.2 ?_
  exact W.iret hf.1 hf.2.1 (hf.2.2.2.1.trans hr) (fun t ht _ => ⟨⟨some (.int x), h, ad, dom, rfl, k, by rw [ht]; exact hW, fun _ hx => by cases hx; exact ok_i, hE⟩, hS.F ht⟩) hS.2.2 hd hf.2.2.2.2.1
theorem aw_zret {x : Int32} {ty : FieldType} (hr : mT M = some ty) (hn : narrow ty (.int x) = .int x) (hd : decode (mC M) pc = .ok (.ireturn, 1)) (hk : kc ≤ (mR M).cells ∧ ks ≤ (mR M).slots) (k : K (some (.int x)) h) : AW M kc ks pc lv [.int x] h K := by
  intro l p e s m args below meth c dC dI cy A ad0 adV ad dom0 dom H locs ls hf hX hT hE hW hS hl ho hs
  refine W.widen hk.1 hk.2 ?_
  exact W.zret hf.1 hf.2.1 (hf.2.2.2.1.trans hr) hn (fun t ht _ => ⟨⟨some (.int x), h, ad, dom, rfl, k, by rw [ht]; exact hW, fun _ hx => by cases hx; exact ok_i, hE⟩, hS.F ht⟩) hS.2.2 hd hf.2.2.2.2.1
theorem aw_lret {x : Int64} (hr : mT M = some .long) (hd : decode (mC M) pc = .ok (.lreturn, 1)) (hk : kc ≤ (mR M).cells ∧ ks ≤ (mR M).slots) (k : K (some (.long x)) h) : AW M kc ks pc lv [.long x] h K := by
  intro l p e s m args below meth c dC dI cy A ad0 adV ad dom0 dom H locs ls hf hX hT hE hW hS hl ho hs
  refine W.widen hk.1 hk.2 ?_
  exact W.lret hf.1 hf.2.1 (hf.2.2.2.1.trans hr) (fun t ht _ => ⟨⟨some (.long x), h, ad, dom, rfl, k, by rw [ht]; exact hW, fun _ hx => by cases hx; exact ok_l, hE⟩, hS.F ht⟩) hS.2.2 hd hf.2.2.2.2.1
theorem aw_vret (hr : mT M = none) (hd : decode (mC M) pc = .ok (.return_, 1)) (hk : kc ≤ (mR M).cells ∧ ks ≤ (mR M).slots) (k : K none h) : AW M kc ks pc lv [] h K := by
  intro l p e s m args below meth c dC dI cy A ad0 adV ad dom0 dom H locs ls hf hX hT hE hW hS hl ho hs
  refine W.widen hk.1 hk.2 ?_
  exact W.vret hf.1 hf.2.1 (hf.2.2.2.1.trans hr) (fun t ht _ => ⟨⟨none, h, ad, dom, rfl, k, by rw [ht]; exact hW, (fun _ hx => by cases hx), hE⟩, hS.F ht⟩) hS.2.2 hd hf.2.2.2.2.1
theorem aw_aret {a : Nat} {rt : FieldType} (hr : mT M = some rt) (hrt : (∃ n, rt = .object n) ∨ ∃ t, rt = .array t) (hd : decode (mC M) pc = .ok (.areturn, 1)) (hk : kc ≤ (mR M).cells ∧ ks ≤ (mR M).slots) (k : K (some (.ref a)) h) : AW M kc ks pc lv [.ref a] h K := by
  intro l p e s m args below meth c dC dI cy A ad0 adV ad dom0 dom H locs ls hf hX hT hE hW hS hl ho hs
  refine W.widen hk.1 hk.2 ?_
  exact W.aret hf.1 hf.2.1 (hf.2.2.2.1.trans hr) hrt (Or.inr ⟨_, rfl⟩) (fun t ht _ => ⟨⟨some (.ref a), h, ad, dom, rfl, k, by rw [ht]; exact hW, fun _ hx => by cases hx; exact ok_h hs, hE⟩, hS.F ht⟩) hS.2.2 hd hf.2.2.2.2.1
theorem aw_aretN {rt : FieldType} (hr : mT M = some rt) (hrt : (∃ n, rt = .object n) ∨ ∃ t, rt = .array t) (hd : decode (mC M) pc = .ok (.areturn, 1)) (hk : kc ≤ (mR M).cells ∧ ks ≤ (mR M).slots) (k : K (some .null) h) : AW M kc ks pc lv [.null] h K := by
  intro l p e s m args below meth c dC dI cy A ad0 adV ad dom0 dom H locs ls hf hX hT hE hW hS hl ho hs
  refine W.widen hk.1 hk.2 ?_
  exact W.aret hf.1 hf.2.1 (hf.2.2.2.1.trans hr) hrt (Or.inl rfl) (fun t ht _ => ⟨⟨some .null, h, ad, dom, rfl, k, by rw [ht]; exact hW, fun _ hx => by cases hx; exact ok_n, hE⟩, hS.F ht⟩) hS.2.2 hd hf.2.2.2.2.1
/-- the extra facts speak of the old cells alone -/
def xs_ (M : Mc_) : Prop := ∀ (ad ad' : Nat → Nat) (A : Nat → Prop) (s : State), (∀ a, 1000 ≤ a → ad' a = ad a) → mX M ad A s → mX M ad' A s
theorem cv_same {ad ad' : Nat → Nat} {v : Value} (hv : ∀ c, v = .ref c → ad' c = ad c) : h_cv ad' v = h_cv ad v := by
  cases v with
  | ref c => show Value.ref (ad' c) = Value.ref (ad c); rw [hv c rfl]
  | _ => rfl
theorem cvs_same {ad ad' : Nat → Nat} {st : List Value} (hs : ∀ v ∈ st, ∀ c, v = .ref c → ad' c = ad c) : st.map (h_cv ad') = st.map (h_cv ad) := List.map_congr_left (fun v hv => cv_same (hs v hv))
theorem lvs_same {ad ad' : Nat → Nat} {lv : List (Nat × Value)} (hs : ∀ q ∈ lv, ∀ c, q.2 = .ref c → ad' c = ad c) : lv.map (fun q => (q.1, h_cv ad' q.2)) = lv.map (fun q => (q.1, h_cv ad q.2)) := List.map_congr_left (fun q hq => by rw [cv_same (hs q hq)])
theorem st_same {ad ad' adV : Nat → Nat} {A : Nat → Prop} {s : State} (he : ∀ a, 1000 ≤ a → ad' a = ad a) (hT : st_ ad adV A s) : st_ ad' adV A s := by
  have e : (fun i => ad' (1000 + i)) = (fun i => ad (1000 + i)) := funext fun i => he _ (by omega)
  refine ⟨⟨by rw [e]; exact hT.1.1, fun i => by rw [he _ (by omega)]; exact hT.1.2.1 i, hT.1.2.2.1, by rw [he 2100 (by omega)]; exact hT.1.2.2.2⟩, fun r hr => ?_⟩
  rw [he _ (by omega)]
  exact hT.2 r hr
theorem h_ok_mono {dom dom' : List Nat} (hd : ∀ a ∈ dom, a ∈ dom') {v : Value} (hv : h_ok dom v) : h_ok dom' v := fun c hc => (hv c hc).imp (hd c) id
theorem ex_trans {ad0 ad ad' : Nat → Nat} {dom0 dom dom' : List Nat} (h1 : ex_ ad0 ad dom0 dom) (h2 : ex_ ad ad' dom dom') : ex_ ad0 ad' dom0 dom' :=
  ⟨fun a ha => (h2.1 a (ha.imp (h1.2 a) id)).trans (h1.1 a ha), fun a ha => h2.2 a (h1.2 a ha)⟩
/-- on to a later world -/
theorem aw_on {kc' ks' : Nat} {st' : List Value} {h' : Hp_} (hXs : xs_ M) (k : AW M kc' ks' pc lv st' h' K)
    {l : Ln_} {p : Program} {e : Env} {s : State} {m : MethodId} {args : Array Value} {below : List Frame} {meth : Method} {c : Code} {dC : Nat → ClassId} {dI : Nat → Nat → Nat} {cy : Nat → ClassId} {A : Nat → Prop} {ad0 adV ad ad' : Nat → Nat} {dom0 dom dom' : List Nat} {H' : Heap} {locs' : List Loc} {ls : Array Slot}
    (hf : fr_ (mY M) (mC M) (mN M) (mT M) p s m args meth c dC dI cy A) (hX : mX M ad A s) (hT : st_ ad adV A s) (hE : ex_ ad0 ad dom0 dom) (hE2 : ex_ ad ad' dom dom') (hW' : wd_ dC dI cy A ad' dom' h' H') (hS' : va_S A s.heap H' locs') (hl : lv_has ls (mN M) (lv.map (fun q => (q.1, h_cv ad q.2)))) (ho : ∀ q ∈ lv, h_ok dom q.2) (hs' : ∀ v ∈ st', h_ok dom' v) :
    W p l.1 e (mR M) s m args below meth c H' locs' kc' ks' (MQ below (qq_ K dC dI cy A ad0 dom0) args s (mR M).cells (mR M).slots A) (F0 m pc ls (st'.map (h_cv ad'))) := by
  have he : ∀ a, 1000 ≤ a → ad' a = ad a := fun a ha => hE2.1 a (Or.inr ha)
  refine k l p e s m args below meth c dC dI cy A ad0 adV ad' dom0 dom' H' locs' ls hf (hXs ad ad' A s he hX) (st_same he hT) (ex_trans hE hE2) hW' hS' ?_ (fun q hq => h_ok_mono hE2.2 (ho q hq)) hs'
  rw [lvs_same (fun q hq z hz => hE2.1 z (ho q hq z hz))]
  exact hl
theorem h_sh_nw {h : Hp_} {a t n b : Nat} : h_sh (h_nw h a t n) b = if b = a then some (t, n) else h_sh h b := rfl
theorem h_i_nw {h : Hp_} {a t n b : Nat} : h_i (h_nw h a t n) b = if b = a then (fun _ => 0) else h_i h b := rfl
theorem h_l_nw {h : Hp_} {a t n b : Nat} : h_l (h_nw h a t n) b = if b = a then (fun _ => 0) else h_l h b := rfl
theorem h_r_nw {h : Hp_} {a t n b : Nat} : h_r (h_nw h a t n) b = if b = a then (fun _ => none) else h_r h b := rfl
theorem h_ce_nw {cy : Nat → ClassId} {ad ad' : Nat → Nat} {h : Hp_} {a t n b : Nat} (hb : b ≠ a) (hr : ∀ k c, h_r h b k = some c → ad' c = ad c) : h_ce cy ad' (h_nw h a t n) b = h_ce cy ad h b := by
  have e1 : h_i (h_nw h a t n) b = h_i h b := by rw [h_i_nw, if_neg hb]
  have e2 : h_l (h_nw h a t n) b = h_l h b := by rw [h_l_nw, if_neg hb]
  have e3 : h_r (h_nw h a t n) b = h_r h b := by rw [h_r_nw, if_neg hb]
  have e4 : ∀ k, (h_r h b k).map ad' = (h_r h b k).map ad := fun k => by
    cases hk : h_r h b k with
    | none => rfl
    | some z => show some (ad' z) = some (ad z); rw [hr k z hk]
  unfold h_ce
  rw [h_sh_nw, if_neg hb]
  split
  · rename_i t2 n2 _
    have f1 : h_ar ad' (h_nw h a t n) b t2 = h_ar ad h b t2 := by unfold h_ar; rw [e1, e2, e3]; simp only [e4]
    have f2 : h_fv ad' (h_nw h a t n) b (t2 - 10) = h_fv ad h b (t2 - 10) := by funext k; unfold h_fv; rw [e1, e2, e3, e4]
    rw [f1, f2]
  · rfl
theorem va_up_at {α : Type} (f : Nat → α) (k : Nat) (v : α) : va_up f k v k = v := by unfold va_up; rw [if_pos rfl]
theorem va_up_off {α : Type} (f : Nat → α) {k j : Nat} (v : α) (hj : j ≠ k) : va_up f k v j = f j := by unfold va_up; rw [if_neg hj]
/-- a new cell joins the world -/
theorem wd_nw {dC : Nat → ClassId} {dI : Nat → Nat → Nat} {cy : Nat → ClassId} {A : Nat → Prop} {ad : Nat → Nat} {dom : List Nat} {h : Hp_} {H H1 : Heap} {na q t n : Nat} {e : va_E} (hW : wd_ dC dI cy A ad dom h H) (hna : h_sh h na = none) (hlt : na < 1000) (he : h_ce cy (va_up ad na q) (h_nw h na t n) na = e) (h1 : va_P (dC, dI) kl_ (h_W cy ad h dom ++ [(q, e)]) H1) (h2 : va_D A (h_W cy ad h dom ++ [(q, e)])) :
    wd_ dC dI cy A (va_up ad na q) (dom ++ [na]) (h_nw h na t n) H1 ∧ ex_ ad (va_up ad na q) dom (dom ++ [na]) := by
  have hnd : na ∉ dom := fun z => ((hW.1.2.1 na).mpr z) hna
  have hr : ∀ b k c, h_r h b k = some c → va_up ad na q c = ad c := fun b k c hc => va_up_off _ _ (by
    rcases hW.1.2.2.2 b k c hc with z | z
    · exact fun w => hnd (w ▸ z)
    · omega)
  rw [h_W_new (ad' := va_up ad na q) (h' := h_nw h na t n) (a := na) (va_up_at _ _ _) he (fun b hb => ⟨va_up_off _ _ (fun w => hnd (w ▸ hb)), h_ce_nw (fun w => hnd (w ▸ hb)) (hr b)⟩)] at h1 h2
  refine ⟨⟨⟨?_, fun a => ?_, fun a ha => ?_, fun b k c hc => ?_⟩, h1, h2⟩, fun a ha => va_up_off _ _ ?_, fun a ha => List.mem_append_left _ ha⟩
  · refine List.nodup_append.mpr ⟨hW.1.1, by simp, fun a ha b hb => ?_⟩
    rw [List.mem_singleton.mp hb]
    exact fun w => hnd (w ▸ ha)
  · rw [h_sh_nw]
    by_cases hz : a = na
    · rw [if_pos hz]
      exact ⟨fun _ => List.mem_append_right _ (by rw [hz]; exact List.mem_singleton.mpr rfl), fun _ w => by cases w⟩
    · rw [if_neg hz, hW.1.2.1 a]
      exact ⟨fun z => List.mem_append_left _ z, fun z => (List.mem_append.mp z).resolve_right (fun w => hz (List.mem_singleton.mp w))⟩
  · rcases List.mem_append.mp ha with z | z
    · exact hW.1.2.2.1 a z
    · rw [List.mem_singleton.mp z]; exact hlt
  · rw [h_r_nw] at hc
    split at hc
    · cases hc
    · exact (hW.1.2.2.2 b k c hc).imp (fun z => List.mem_append_left _ z) id
  · rcases ha with z | z
    · exact fun w => hnd (w ▸ z)
    · omega
theorem aw_new {ci : Nat} {C : String} {T : u_T} {N idx : Nat} (na : Nat) (hc : kc_ ci C T N) (hcl : Cond.classLink (mY M).cls idx C ∈ lw_g) (hin : Cond.instantiable C N ∈ lw_g) (hini : Cond.initialized C ∈ lw_g) (hna : h_sh h na = none) (hlt : na < 1000) (hXs : xs_ M) (hkc : kc + 1 ≤ (mR M).cells) (hks : ks + N ≤ (mR M).slots) (hd : decode (mC M) pc = .ok (.new idx, 3)) (k : AW M (kc + 1) (ks + N) (pc + 3) lv (.ref na :: st) (h_nw h na (ci + 10) N) K) : AW M kc ks pc lv st h K := by
  intro l p e s m args below meth c dC dI cy A ad0 adV ad dom0 dom H locs ls hf hX hT hE hW hS hl ho hs
  refine va_new (fs := (List.range N).map (fun k => h_dv (h_kd (h_tyc ci k)))) hf.1 hf.2.1 hf.2.2.2.2.2.2.2.1 hc.2.1 (h_tyc ci) hc.2.2.1 hf.2.2.2.2.2.1 (hf.2.2.2.2.2.2.2.1 _ hcl) (hf.2.2.2.2.2.2.2.1 _ hin) (hf.2.2.2.2.2.2.2.1 _ hini) hf.2.2.2.2.2.2.2.2.1.1 hW.2.1 hW.2.2 hS hf.2.2.2.2.2.2.2.2.2 hc.1 (fun j hj => ?_) hkc hks hd (fun q H1 h1 h2 hS1 => ?_)
  · rw [hc.2.2.2.2 j hj]
    simp [vp_V, hj]
  · have he : h_ce cy (va_up ad na q) (h_nw h na (ci + 10) N) na = .inr (ci, (List.range N).map (fun k => h_dv (h_kd (h_tyc ci k)))) := by
      rw [h_ce_obj (ci := ci) (n := N) (by rw [h_sh_nw, if_pos rfl])]
      congr 3
      funext j
      unfold h_fv
      rw [h_i_nw, h_l_nw, h_r_nw, if_pos rfl, if_pos rfl, if_pos rfl]
      cases h_kd (h_tyc ci j) with
      | zero => rfl
      | succ x => cases x <;> rfl
    obtain ⟨hW1, hE1⟩ := wd_nw hW hna hlt he h1 h2
    have hz := aw_on (l := l) (e := e) (below := below) hXs k hf hX hT hE hE1 hW1 hS1 hl ho (ok_c (fun z w => by cases w; exact Or.inl (List.mem_append_right _ (List.mem_singleton.mpr rfl))) (fun v hv => h_ok_mono hE1.2 (hs v hv)))
    rw [List.map_cons, cvs_same (ad := ad) (fun v hv z w => hE1.1 z (hs v hv z w))] at hz
    rw [show h_cv (va_up ad na q) (.ref na) = .ref q from congrArg Value.ref (va_up_at _ _ _)] at hz
    exact hz
theorem aw_newa {t : Nat} {atype : ArrayType} {n : Int32} (na N : Nat) (ht : t < 4) (hty : (h_tys (fun _ => 0))[t]? = some (0, newarray.typeOf atype)) (hac : Cond.arrayClass (newarray.typeOf atype) ∈ lw_g) (hna : h_sh h na = none) (hlt : na < 1000) (hXs : xs_ M) (hn : ¬ n < 0) (hN : n.toNatClampNeg = N) (hb : N * componentBytes (newarray.typeOf atype) ≤ 536870912) (hkc : kc + 1 ≤ (mR M).cells) (hks : ks + N ≤ (mR M).slots) (hd : decode (mC M) pc = .ok (.newarray atype, 2)) (k : AW M (kc + 1) (ks + N) (pc + 2) lv (.ref na :: st) (h_nw h na t N) K) : AW M kc ks pc lv (.int n :: st) h K := by
  intro l p e s m args below meth c dC dI cy A ad0 adV ad dom0 dom H locs ls hf hX hT hE hW hS hl ho hs
  have hK := hf.2.2.2.2.2.2.2.2.1.1
  have htc : (h_tys cy)[t]? = some (cy t, newarray.typeOf atype) := by
    match t, ht with
    | 0, _ => cases atype <;> first | rfl | cases hty
    | 1, _ => cases atype <;> first | rfl | cases hty
    | 2, _ => cases atype <;> first | rfl | cases hty
    | 3, _ => cases atype <;> first | rfl | cases hty
  have hpr : ∀ cA, va_RA s cA (newarray.typeOf atype) → s.vm.findClass ("[" ++ (newarray.typeOf atype).toString) = some cA := fun cA w => by cases atype <;> exact w
  refine va_newa (a0 := (N, h_ar ad (h_nw h na t N) na t)) hf.1 hf.2.1 (hf.2.2.2.2.2.2.2.1 _ hac) rfl hK hW.2.1 hW.2.2 hS hf.2.2.2.2.2.2.2.2.2 (fun cA => ?_) hn hN hb hkc hks hd (fun q cA H1 hK1 h1 h2 hS1 => ?_)
  · match t, ht with
    | 0, _ => cases atype <;> first | (unfold h_ar; rw [h_i_nw, if_pos rfl]; rfl) | cases hty
    | 1, _ => cases atype <;> first | (unfold h_ar; rw [h_i_nw, if_pos rfl]; rfl) | cases hty
    | 2, _ => cases atype <;> first | (unfold h_ar; rw [h_i_nw, if_pos rfl]; rfl) | cases hty
    | 3, _ => cases atype <;> first | (unfold h_ar; rw [h_l_nw, if_pos rfl]; rfl) | cases hty
  · have hcA : cA = cy t := by
      have e1 := hpr _ (hK1.2 5 (cA, newarray.typeOf atype) rfl).2
      have e2 := hpr _ (hK.2 t (cy t, newarray.typeOf atype) htc).2
      exact Option.some.inj (e1.symm.trans e2)
    subst hcA
    have har : h_ar (va_up ad na q) (h_nw h na t N) na t = h_ar ad (h_nw h na t N) na t := by
      match t, ht with
      | 0, _ => rfl
      | 1, _ => rfl
      | 2, _ => rfl
      | 3, _ => rfl
    have he : h_ce cy (va_up ad na q) (h_nw h na t N) na = .inl (cy t, N, h_ar ad (h_nw h na t N) na t) := by
      rw [h_ce_arr (t := t) (n := N) (by rw [h_sh_nw, if_pos rfl]) (by omega), har]
    obtain ⟨hW1, hE1⟩ := wd_nw hW hna hlt he h1 h2
    have hz := aw_on (l := l) (e := e) (below := below) hXs k hf hX hT hE hE1 hW1 hS1 hl ho (ok_c (fun z w => by cases w; exact Or.inl (List.mem_append_right _ (List.mem_singleton.mpr rfl))) (fun v hv => h_ok_mono hE1.2 (ok_t hs v hv)))
    rw [List.map_cons, cvs_same (ad := ad) (fun v hv z w => hE1.1 z (ok_t hs v hv z w))] at hz
    rw [show h_cv (va_up ad na q) (.ref na) = .ref q from congrArg Value.ref (va_up_at _ _ _)] at hz
    exact hz
theorem aw_newq {idx : Nat} {n : Int32} (na N : Nat) (hcl : Cond.classLink (mY M).cls idx "CountyWatch$Constable" ∈ lw_g) (hna : h_sh h na = none) (hlt : na < 1000) (hXs : xs_ M) (hn : ¬ n < 0) (hN : n.toNatClampNeg = N) (hb : N * 4 ≤ 536870912) (hkc : kc + 1 ≤ (mR M).cells) (hks : ks + N ≤ (mR M).slots) (hd : decode (mC M) pc = .ok (.anewarray idx, 3)) (k : AW M (kc + 1) (ks + N) (pc + 3) lv (.ref na :: st) (h_nw h na 4 N) K) : AW M kc ks pc lv (.int n :: st) h K := by
  intro l p e s m args below meth c dC dI cy A ad0 adV ad dom0 dom H locs ls hf hX hT hE hW hS hl ho hs
  have hK := hf.2.2.2.2.2.2.2.2.1.1
  refine va_newq hf.1 hf.2.1 hf.2.2.2.2.2.1 (hf.2.2.2.2.2.2.2.1 _ hcl) hf.2.2.2.2.2.2.2.2.1.2.2 hK hW.2.1 hW.2.2 hS hf.2.2.2.2.2.2.2.2.2 hn hN hb hkc hks hd (fun q cA H1 hK1 h1 h2 hS1 => ?_)
  have hcA : cA = cy 4 := by
    obtain ⟨_, _, _, _, _, e1⟩ := (hK1.2 5 (cA, .object "CountyWatch$Constable") rfl).2
    obtain ⟨_, _, _, _, _, e2⟩ := (hK.2 4 (cy 4, .object "CountyWatch$Constable") rfl).2
    exact Option.some.inj (e1.symm.trans e2)
  subst hcA
  have he : h_ce cy (va_up ad na q) (h_nw h na 4 N) na = .inl (cy 4, N, .inr (.inr (.inr (.inr (fun _ => none))))) := by
    rw [h_ce_arr (t := 4) (n := N) (by rw [h_sh_nw, if_pos rfl]) (by omega)]
    unfold h_ar
    rw [h_r_nw, if_pos rfl]
    rfl
  obtain ⟨hW1, hE1⟩ := wd_nw hW hna hlt he h1 h2
  have hz := aw_on (l := l) (e := e) (below := below) hXs k hf hX hT hE hE1 hW1 hS1 hl ho (ok_c (fun z w => by cases w; exact Or.inl (List.mem_append_right _ (List.mem_singleton.mpr rfl))) (fun v hv => h_ok_mono hE1.2 (ok_t hs v hv)))
  rw [List.map_cons, cvs_same (ad := ad) (fun v hv z w => hE1.1 z (ok_t hs v hv z w))] at hz
  rw [show h_cv (va_up ad na q) (.ref na) = .ref q from congrArg Value.ref (va_up_at _ _ _)] at hz
  exact hz
end AWC
