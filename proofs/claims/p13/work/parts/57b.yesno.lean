/-! the walk of a method that answers yes or no -/
def Sg (g : Nat → Int) (ws : List Nat) (h0 : Hp_) (M : Mc_) (K : Option Value → Hp_ → Prop) (pc : Nat) (f : Fx) : Prop := ∀ (a : Ab) (out : List (Nat × Ab)), f a = some out → ∀ lv st h, Gm g ws h0 a lv st h →
  (∀ o ∈ out, ∀ lv' st' h', Gm g ws h0 o.2 lv' st' h' → AW M 0 0 o.1 lv' st' h' K) → AW M 0 0 pc lv st h K
def Alg (g : Nat → Int) (ws : List Nat) (h0 : Hp_) (M : Mc_) (K : Option Value → Hp_ → Prop) : List (Nat × Fx) → Prop
  | [] => True
  | (p, f) :: t => Sg g ws h0 M K p f ∧ Alg g ws h0 M K t
theorem Alg_ok {g : Nat → Int} {ws : List Nat} {h0 : Hp_} {M : Mc_} {K : Option Value → Hp_ → Prop} : ∀ {l : List (Nat × Fx)}, Alg g ws h0 M K l → ∀ q ∈ l, Sg g ws h0 M K q.1 q.2
  | [], _, q, h => (nomatch h)
  | (_, _) :: _, a, q, h => by
    rcases List.mem_cons.mp h with z | z
    · rw [z]; exact a.1
    · exact Alg_ok a.2 q z
theorem Sg_of {g : Nat → Int} {ws : List Nat} {h0 : Hp_} {M : Mc_} {K : Option Value → Hp_ → Prop} {pc : Nat} {f : Fx} (h : Sd ws h0 M K pc f) : Sg g ws h0 M K pc f := h g
section WALKB
variable {g : Nat → Int} {ws : List Nat} {h0 : Hp_} {M : Mc_} {K : Option Value → Hp_ → Prop} {code : List (Nat × Fx)} {pc : Nat}
theorem wkg_ok (hS : ∀ q ∈ code, Sg g ws h0 M K q.1 q.2) : ∀ n pc a, wk code [] none n pc a = true → ∀ lv st h, Gm g ws h0 a lv st h → AW M 0 0 pc lv st h K
  | 0, _, _, e => (nomatch e)
  | n + 1, pc, a, e => by
    intro lv st h G
    unfold wk at e
    split at e
    · rename_i q; cases q
    · split at e
      · rename_i f q
        split at e
        · rename_i out w
          refine hS (pc, f) (lk_mem q) a out w lv st h G (fun o ho lv' st' h' G' => ?_)
          exact wkg_ok hS n o.1 o.2 (List.all_eq_true.mp e o ho) lv' st' h' G'
        · cases e
      · cases e
theorem trc_ok {la : List (Nat × Av)} {hf : Hf} {t : Tr} {us : List Value} {lv : List (Nat × Value)} {h : Hp_} (hu : ∀ j x, us[j]? = some (Value.int x) → g j = x.toInt) (ty : ∀ q ∈ t.1, ∃ x, us[q.1]? = some (Value.int x)) (m : lm g h lv la) (I : Iv h) (hh : hm h hf) (e : trc la hf t = true) : fo us t.1 ∧ hm h t.2 := by
  unfold trc at e
  rw [Bool.and_eq_true] at e
  refine ⟨fun q hq => ?_, hmc_ok I hh e.2⟩
  have w := List.all_eq_true.mp e.1 q hq
  split at w
  · rename_i r s j d lkq
    simp only [Bool.and_eq_true] at w
    obtain ⟨⟨w1, w2⟩, w3⟩ := w
    have w1 := Nat.eq_of_beq_eq_true w1
    have w2 := ieq_iff.mp w2
    obtain ⟨i, v, hi, x, ex, hx, hg⟩ := lm_lk m lkq
    have e1 := (hg _ rfl).2 (by show j % 2 = 0; omega)
    have e1 : x.toInt = g (j / 2) + d := e1
    obtain ⟨y, ey⟩ := ty q hq
    have e2 := hu _ _ ey
    refine ⟨y, ey, ?_⟩
    have e3 : x.toInt = y.toInt := by rw [e1, ← e2, w1, w2, Int.add_zero, Nat.mul_div_cancel_left _ (by omega)]
    rw [← e3]
    exact rsub_in w3 hx
  · cases w
theorem z_retB {us : List Value} {ty tn : Tr} (hu : ∀ j x, us[j]? = some (Value.int x) → g j = x.toInt) (t1 : ∀ q ∈ ty.1, ∃ x, us[q.1]? = some (Value.int x)) (t2 : ∀ q ∈ tn.1, ∃ x, us[q.1]? = some (Value.int x)) (hr : mT M = some .boolean) (hd : decode (mC M) pc = .ok (.ireturn, 1)) : Sg g [] h0 M (Kb h0 us ty tn) pc (x_retB ty tn) := by
  intro a out e lv st h G kk
  obtain ⟨la, sa, hf⟩ := a
  unfold x_retB at e
  split at e
  · rename_i r s g1 q
    have q : sa = [.inl (r, s, g1)] := q
    subst q
    cases z : rsub r (0, 1) && (ile r.2 0 || trc la hf.1 ty) && (ile 1 r.1 || trc la hf.1 tn) with
    | false =>
      have e : (bif rsub r (0, 1) && (ile r.2 0 || trc la hf.1 ty) && (ile 1 r.1 || trc la hf.1 tn) then some [] else none) = some out := e
      rw [z] at e; cases e
    | true =>
      simp only [Bool.and_eq_true, Bool.or_eq_true, ile_iff] at z
      obtain ⟨⟨z1, z2⟩, z3⟩ := z
      obtain ⟨v, t, es, ⟨x, ex, hx, _⟩, _, m⟩ := sm1 G.2.1
      cases t with
      | cons _ _ => exact m.elim
      | nil =>
        subst es ex
        have h01 := rsub_in z1 hx
        refine aw_zret hr (nf_zr h01).1 hd ⟨Nat.zero_le _, Nat.zero_le _⟩ ⟨G.2.2.2.1, G.2.2.2.2.1, x, rfl, ?_⟩
        have a1 : 0 ≤ x.toInt := h01.1
        have a2 : x.toInt ≤ 1 := h01.2
        have a3 := hx.1
        have a4 := hx.2
        rcases (show x.toInt = 1 ∨ x.toInt = 0 by omega) with w | w
        · refine Or.inl ⟨w, ?_⟩
          rcases z2 with z2 | z2
          · omega
          · exact trc_ok hu t1 G.1 G.2.2.2.1 G.2.2.1.1 z2
        · refine Or.inr ⟨w, ?_⟩
          rcases z3 with z3 | z3
          · omega
          · exact trc_ok hu t2 G.1 G.2.2.2.1 G.2.2.1.1 z3
  · cases e
theorem am_get {h : Hp_} : ∀ {vs : List Value} {es : List Av} {i : Nat} {a : Av}, am h vs es → es[i]? = some a → ∃ v, vs[i]? = some v ∧ bn h v a
  | v :: vs, e :: es, 0, a, m, q => by
    rw [List.getElem?_cons_zero] at q
    have q := Option.some.inj q
    subst q
    exact ⟨v, rfl, m.1⟩
  | v :: vs, e :: es, i + 1, a, m, q => by
    rw [List.getElem?_cons_succ] at q
    obtain ⟨w, e1, e2⟩ := am_get m.2 q
    exact ⟨w, by rw [List.getElem?_cons_succ]; exact e1, e2⟩
  | [], [], _, _, _, q => by simp at q
  | [], _ :: _, _, _, m, _ => m.elim
  | _ :: _, [], _, _, m, _ => m.elim
theorem tyok_am {h : Hp_} {vs : List Value} {es : List Av} {t : List (Nat × Rg)} (m : am h vs es) (e : tyok es t = true) : ∀ q ∈ t, ∃ x, vs[q.1]? = some (Value.int x) := fun q hq => by
  obtain ⟨r, s, gh, w⟩ := tyok_ok e q hq
  obtain ⟨v, ev, x, ex, _⟩ := am_get m w
  exact ⟨x, by rw [ev, ex]⟩
theorem args_at {v : Value} : ∀ {us : List Value} {i j : Nat}, (∀ u ∈ us, u.category = 1) → us[j]? = some v → (i + j, v) ∈ lv_args i us
  | u :: us, i, 0, hc, e => by
    rw [List.getElem?_cons_zero] at e
    have e := Option.some.inj e
    subst e
    simp only [lv_args]
    exact List.mem_cons_self
  | u :: us, i, j + 1, hc, e => by
    rw [List.getElem?_cons_succ] at e
    simp only [lv_args]
    rw [cat_nx, hc u List.mem_cons_self]
    have := args_at (i := i + 1) (fun w hw => hc w (List.mem_cons_of_mem _ hw)) e
    rw [show i + (j + 1) = i + 1 + j by omega]
    exact List.mem_cons_of_mem _ this
  | [], _, _, _, e => by simp at e
theorem am_one {h : Hp_} : ∀ {vs : List Value} {es : List Av}, am h vs es → es.all (fun e => Nat.beq (ac e) 1) = true → ∀ v ∈ vs, v.category = 1
  | [], [], _, _, v, hv => (nomatch hv)
  | w :: vs, e :: es, m, c, v, hv => by
    rw [List.all_cons, Bool.and_eq_true] at c
    rcases List.mem_cons.mp hv with z | z
    · rw [z]
      have := ac_cat m.1
      rw [ac_noG] at this
      exact this.trans (Nat.eq_of_beq_eq_true c.1)
    · exact am_one m.2 c.2 v z
  | [], _ :: _, m, _, _, _ => m.elim
  | _ :: _, [], m, _, _, _ => m.elim
theorem lm_lmn {h : Hp_} : ∀ {vs : List Value} {es : List Av} {i : Nat}, am h vs es → lmn h (lv_args i vs) (la_args i es)
  | [], [], _, _ => trivial
  | v :: vs, e :: es, i, m => by
    have c := ac_cat m.1
    rw [ac_noG] at c
    show lmn h (lv_args i (v :: vs)) ((i, noG e) :: la_args (i + ac e) es)
    simp only [lv_args]
    rw [← c, cat_nx]
    refine ⟨rfl, ?_, lm_lmn m.2⟩
    have b := m.1
    unfold bn at b ⊢
    have e2 : noG (noG e) = noG e := by cases e <;> rfl
    rw [e2]; exact b
  | [], _ :: _, _, m => m.elim
  | _ :: _, [], _, m => m.elim
def chkB (code : List (Nat × Fx)) (es : List Av) (pre : Hf) (ty tn : Tr) (n : Nat) : Bool := tyok es.reverse ty.1 && tyok es.reverse tn.1 && es.reverse.all (fun e => Nat.beq (ac e) 1) && wk code [] none n 0 (gz (la_args 0 es.reverse), [], (pre, [], []))
theorem Hb_of {es : List Av} {pre : Hf} {ty tn : Tr} {n : Nat} (hX : ∀ ad A s, mX M ad A s) (hy : plainName (mY M).cls = true) (hv : (es.reverse.map ac).sum ≤ mN M) (hS : ∀ (g : Nat → Int) h0 us, (∀ j x, us[j]? = some (Value.int x) → g j = x.toInt) → (∀ q ∈ ty.1, ∃ x, us[q.1]? = some (Value.int x)) → (∀ q ∈ tn.1, ∃ x, us[q.1]? = some (Value.int x)) → Alg g [] h0 M (Kb h0 us ty tn) code) (e : chkB code es pre ty tn n = true) : Hb M es pre ty tn := by
  intro vs h ma I hp
  unfold chkB at e
  simp only [Bool.and_eq_true] at e
  obtain ⟨⟨⟨e1, e2⟩, e3⟩, e4⟩ := e
  have mr := am_rev ma
  have one := am_one mr e3
  refine Ct.of hX hy (by rw [am_cat mr]; exact hv) ?_
  have hu : ∀ j x, vs.reverse[j]? = some (Value.int x) → gof (lv_args 0 vs.reverse) j = x.toInt := fun j x hj => by
    have := args_at (i := 0) one hj
    rw [Nat.zero_add] at this
    exact gof_mem (args_rise _ _) this
  exact wkg_ok (Alg_ok (hS (gof (lv_args 0 vs.reverse)) h vs.reverse hu (tyok_am mr e1) (tyok_am mr e2))) n 0 _ e4 _ _ _ ⟨lm_gz (fun j x hx _ => gof_mem (args_rise _ _) hx) (lm_lmn mr), trivial, ⟨hp, fun _ z => (nomatch z), fun _ z => (nomatch z)⟩, I, Fr.rf _ _, args_rise _ _⟩
end WALKB
section ZX
variable {ws : List Nat} {h0 : Hp_} {M : Mc_} {K : Option Value → Hp_ → Prop} {pc : Nat}
theorem z_callSB {M' : Mc_} {es : List Av} {pre : Hf} {ty tn : Tr} {idx n : Nat} (hC : Hb M' es pre ty tn) (hd : decode (mC M) pc = .ok (.invokestatic idx, 3)) (hm : cS_ M' n) (hlk : Cond.methodLink (mY M).cls idx (mY M') ∈ lw_g) (hn : es.length = n) (hz : rz_ M' M) {nx : Nat} (hn : pc + 3 = nx) : Sd ws h0 M K pc (x_callC es pre ty tn nx) := by
  subst hn
  exact
  sd_callSB hC (fun lv rest h vs K' hl hc C k => aw_callS hd hm.1 hm.2 hlk (hl.trans hn) hz.1 hc ⟨by rw [hz.2.1]; exact Nat.zero_le _, by rw [hz.2.2.1]; exact Nat.zero_le _⟩ hz.2.2.2 C (fun v h' kv => by rw [hz.2.1, hz.2.2.1]; exact k v h' kv))
theorem z_callSNB {M' : Mc_} {es : List Av} {pre : Hf} {ty tn : Tr} {idx n : Nat} (hC : Hb M' es pre ty tn) (hd : decode (mC M) pc = .ok (.invokestatic idx, 3)) (hm : cS_ M' n) (hlk : ((mY M).cls, idx, mY M') ∈ h_nest) (hn : es.length = n) (hz : rz_ M' M) {nx : Nat} (hn : pc + 3 = nx) : Sd ws h0 M K pc (x_callC es pre ty tn nx) := by
  subst hn
  exact
  sd_callSB hC (fun lv rest h vs K' hl hc C k => aw_callSN hd hm.1 hm.2 hlk (hl.trans hn) hz.1 hc ⟨by rw [hz.2.1]; exact Nat.zero_le _, by rw [hz.2.2.1]; exact Nat.zero_le _⟩ hz.2.2.2 C (fun v h' kv => by rw [hz.2.1, hz.2.2.1]; exact k v h' kv))
theorem z_callVB {M' : Mc_} {es es' : List Av} {pre : Hf} {ty tn : Tr} {idx n m ci N : Nat} {T : u_T} (he : es = es' ++ [.inr m]) (ht : thok m ci N = true) (hC : Hb M' es pre ty tn) (hd : decode (mC M) pc = .ok (.invokevirtual idx, 3)) (hm : cV_ M' n) (hkc : kc_ ci (mY M').cls T N) (hlk : Cond.methodLink (mY M).cls idx (mY M') ∈ lw_g) (hn : es'.length = n) (hz : rz_ M' M) {nx : Nat} (hn : pc + 3 = nx) : Sd ws h0 M K pc (x_callC es pre ty tn nx) := by
  subst hn
  exact
  sd_callVB he ht hC (fun lv rest h vs a K' hl hs hc C k => aw_callV hd hm.1 hkc hs hm.2.1 hm.2.2 hlk (hl.trans hn) hz.1 hc ⟨by rw [hz.2.1]; exact Nat.zero_le _, by rw [hz.2.2.1]; exact Nat.zero_le _⟩ hz.2.2.2 C (fun v h' kv => by rw [hz.2.1, hz.2.2.1]; exact k v h' kv))
end ZX
