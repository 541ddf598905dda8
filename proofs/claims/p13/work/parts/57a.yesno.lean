/-! methods that answer yes or no: what either answer says of the arguments -/
abbrev Tr : Type := List (Nat × Rg) × Hf
def fo (us : List Value) (t : List (Nat × Rg)) : Prop := ∀ q ∈ t, ∃ y : Int32, us[q.1]? = some (.int y) ∧ rin y.toInt q.2
def Kb (h0 : Hp_) (us : List Value) (ty tn : Tr) (v : Option Value) (h : Hp_) : Prop := Iv h ∧ Fr [] h0 h ∧ ∃ x : Int32, v = some (.int x) ∧ ((x.toInt = 1 ∧ fo us ty.1 ∧ hm h ty.2) ∨ (x.toInt = 0 ∧ fo us tn.1 ∧ hm h tn.2))
def Hb (M : Mc_) (es : List Av) (pre : Hf) (ty tn : Tr) : Prop := ∀ vs h, am h vs es → Iv h → hm h pre → Ct M vs.reverse h (Kb h vs.reverse ty tn)
section SDX
variable {ws : List Nat} {h0 : Hp_} {M : Mc_} {K : Option Value → Hp_ → Prop} {pc : Nat}
/-- the arguments, the first first, and what is known of them behind the answer -/
def rfl_ (as : List Av) : List (Nat × Rg) → Ab → Option Ab
  | [], a => some a
  | q :: t, a => match as[q.1]? with
    | some (.inl (r, s, _)) => bif remp (rmeet r q.2) then none else rfl_ as t (rfn s (rmeet r q.2) a)
    | _ => none
def x_callB (es : List Av) (pre : Hf) (ty tn : Tr) (n : Nat) : Fx := fun a => match pop es a.2.1 with
  | some rest => bif hmc a.2.2.1 pre && Nat.ble ((rest.map ac).sum) 8 then
      some (((rfl_ (a.2.1.take es.length).reverse ty.1 (a.1, rest, a.2.2)).toList.map (fun b => (n, (b.1, avi (1, 1) :: b.2.1, (ty.2 ++ b.2.2.1, b.2.2.2))))) ++ ((rfl_ (a.2.1.take es.length).reverse tn.1 (a.1, rest, a.2.2)).toList.map (fun b => (n, (b.1, avi (0, 0) :: b.2.1, (tn.2 ++ b.2.2.1, b.2.2.2)))))) else none
  | none => none
/-- each argument with what is known of it, in order -/
def pm (g : Nat → Int) (h : Hp_) (lv : List (Nat × Value)) (us : List Value) (as : List Av) : Prop := ∀ (i : Nat) (a : Av), as[i]? = some a → ∃ v, us[i]? = some v ∧ bm g h v a ∧ sl h lv v a
theorem rfl_ok {g : Nat → Int} {lv : List (Nat × Value)} {st us : List Value} {h : Hp_} {as : List Av} (p : pm g h lv us as) : ∀ {t : List (Nat × Rg)} {a : Ab}, fo us t → (∀ q ∈ t, ∃ r s gh, as[q.1]? = some (.inl (r, s, gh))) → Gm g ws h0 a lv st h → ∃ b, rfl_ as t a = some b ∧ Gm g ws h0 b lv st h ∧ True
  | [], a, _, _, G => ⟨a, rfl, G, trivial⟩
  | q :: t, a, f, ty, G => by
    obtain ⟨r, s, gh, ea⟩ := ty q List.mem_cons_self
    obtain ⟨y, ey, hy⟩ := f q List.mem_cons_self
    obtain ⟨v, ev, ⟨x, ex, hx, _⟩, l⟩ := p q.1 _ ea
    rw [ey] at ev
    have ev := Option.some.inj ev
    rw [← ev] at ex
    cases ex
    have hm := rmeet_in hx hy
    have G' : Gm g ws h0 (rfn s (rmeet r q.2) a) lv st h := Gm.rf2 G (l y ev.symm) hm
    obtain ⟨b, eb, Gb, _⟩ := rfl_ok p (t := t) (fun o ho => f o (List.mem_cons_of_mem _ ho)) (fun o ho => ty o (List.mem_cons_of_mem _ ho)) G'
    refine ⟨b, ?_, Gb, trivial⟩
    unfold rfl_
    rw [ea]
    show (bif remp (rmeet r q.2) then none else rfl_ as t (rfn s (rmeet r q.2) a)) = some b
    rw [remp_in hm]
    exact eb
def tyok (as : List Av) (t : List (Nat × Rg)) : Bool := t.all (fun q => match as[q.1]? with
  | some (.inl _) => true
  | _ => false)
theorem tyok_ok {as : List Av} {t : List (Nat × Rg)} (e : tyok as t = true) : ∀ q ∈ t, ∃ r s gh, as[q.1]? = some (.inl (r, s, gh)) := fun q hq => by
  have := List.all_eq_true.mp e q hq
  split at this
  · rename_i z w; exact ⟨_, _, _, w⟩
  · cases this
theorem pop_pm {g : Nat → Int} {h : Hp_} {lv : List (Nat × Value)} : ∀ {es : List Av} {st : List Value} {sa r : List Av}, sm g h lv st sa → pop es sa = some r → ∃ vs rest, st = vs ++ rest ∧ am h vs es ∧ sm g h lv rest r ∧ sm g h lv vs (sa.take es.length) ∧ (sa.take es.length).length = es.length
  | [], st, sa, r, m, e => by
    have e : some sa = some r := e
    have e := Option.some.inj e
    subst e
    exact ⟨[], st, rfl, trivial, m, trivial, rfl⟩
  | e :: es, v :: st, p :: sa, r, m, q => by
    unfold pop at q
    cases c : asub p e with
    | false => rw [c] at q; cases q
    | true =>
      rw [c] at q
      obtain ⟨vs, rest, e1, e2, e3, e4, e5⟩ := pop_pm m.2.2 q
      exact ⟨v :: vs, rest, by rw [e1]; rfl, ⟨asub_ok c m.1, e2⟩, e3, ⟨m.1, m.2.1, e4⟩, by show (p :: sa.take es.length).length = _; rw [List.length_cons, e5, List.length_cons]⟩
  | _ :: _, [], [], _, _, q => (nomatch q)
  | _ :: _, [], _ :: _, _, m, _ => m.elim
  | _ :: _, _ :: _, [], _, m, _ => m.elim
theorem sm_get {g : Nat → Int} {h : Hp_} {lv : List (Nat × Value)} : ∀ {st : List Value} {sa : List Av} {i : Nat} {a : Av}, sm g h lv st sa → sa[i]? = some a → ∃ v, st[i]? = some v ∧ bm g h v a ∧ sl h lv v a
  | v :: st, p :: sa, 0, a, m, e => by
    rw [List.getElem?_cons_zero] at e
    have e := Option.some.inj e
    subst e
    exact ⟨v, rfl, m.1, m.2.1⟩
  | v :: st, p :: sa, i + 1, a, m, e => by
    rw [List.getElem?_cons_succ] at e
    obtain ⟨w, e1, e2⟩ := sm_get m.2.2 e
    exact ⟨w, by rw [List.getElem?_cons_succ]; exact e1, e2⟩
  | [], [], _, _, _, e => by simp at e
  | [], _ :: _, _, _, m, _ => m.elim
  | _ :: _, [], _, _, m, _ => m.elim
theorem pm_rev {g : Nat → Int} {h : Hp_} {lv : List (Nat × Value)} {st : List Value} {sa : List Av} (m : sm g h lv st sa) : pm g h lv st.reverse sa.reverse := by
  intro i a e
  have l := sm_len m
  have li : i < sa.reverse.length := (List.getElem?_eq_some_iff.mp e).1
  rw [List.length_reverse] at li
  rw [List.getElem?_reverse li] at e
  rw [List.getElem?_reverse (by omega), l]
  exact sm_get m e
theorem am_revget {h : Hp_} {es : List Av} {vs : List Value} (m : am h vs es) : True := trivial
/-- a call's answer, told apart -/
theorem callB_on {g : Nat → Int} {la : List (Nat × Av)} {sa r : List Av} {hf : Hx} {es : List Av} {ty tn : Tr} {n : Nat} {lv : List (Nat × Value)} {vs rest : List Value} {h h1 : Hp_} {v : Option Value} (k1 : tyok (sa.take es.length).reverse ty.1 = true) (k2 : tyok (sa.take es.length).reverse tn.1 = true) (hl : lm g h lv la) (hs : sm g h lv rest r) (ha : sm g h lv vs (sa.take es.length)) (hh : hx g lv h hf) (I : Fr ws h0 h) (hr : lv_rise lv = true) (q : Kb h vs.reverse ty tn v h1)
    (kk : ∀ o ∈ ((rfl_ (sa.take es.length).reverse ty.1 (la, r, hf)).toList.map (fun b => (n, (b.1, avi (1, 1) :: b.2.1, (ty.2 ++ b.2.2.1, b.2.2.2))))) ++ ((rfl_ (sa.take es.length).reverse tn.1 (la, r, hf)).toList.map (fun b => (n, (b.1, avi (0, 0) :: b.2.1, (tn.2 ++ b.2.2.1, b.2.2.2))))), ∀ lv' st' h', Gm g ws h0 o.2 lv' st' h' → AW M 0 0 o.1 lv' st' h' K) : AW M 0 0 n lv (v.toList ++ rest) h1 K := by
  obtain ⟨I1, F1, x, ev, q⟩ := q
  have e := F1.1
  have ei : ∀ b k, h_i h1 b k = h_i h b k := fun b k => (F1.2 b k rfl).1
  have el : ∀ s x, lnk h lv x s → lnk h1 lv x s := fun s x l => ⟨l.1, fun z1 z2 => by rw [ei]; exact l.2.1 z1 z2, fun z => by
    obtain ⟨i, m1, m2⟩ := l.2.2 z
    exact ⟨i, m1, by rw [ei]; exact m2⟩⟩
  have G1 : Gm g ws h0 (la, r, hf) lv rest h1 := by
    refine ⟨lm_sh e hl, ?_, ⟨fun p hp => by rw [ei]; exact hh.1 p hp, fun p hp => by
      obtain ⟨i, m1, m2⟩ := hh.2.1 p hp
      exact ⟨i, m1, by rw [ei]; exact m2⟩, fun p hp => by rw [ei]; exact hh.2.2 p hp⟩, I1, I.tr (Fr.more (a := []) rfl F1), hr⟩
    have s1 := sm_kav (f := fun _ => false) (h' := h1) (lv' := lv) e (fun s x _ l => el s x l) hs
    have e9 : kav (fun _ => false) = id := by funext a; unfold kav; split <;> rfl
    rw [e9, List.map_id] at s1
    exact s1
  have ha1 : sm g h1 lv vs (sa.take es.length) := by
    have s1 := sm_kav (f := fun _ => false) (h' := h1) (lv' := lv) e (fun s x _ l => el s x l) ha
    have e9 : kav (fun _ => false) = id := by funext a; unfold kav; split <;> rfl
    rw [e9, List.map_id] at s1
    exact s1
  subst ev
  rcases q with ⟨x1, f, hp⟩ | ⟨x0, f, hp⟩
  · obtain ⟨b, eb, Gb, _⟩ := rfl_ok (pm_rev ha1) f (tyok_ok k1) G1
    refine kk _ (List.mem_append_left _ (List.mem_map.mpr ⟨b, by rw [eb]; exact List.mem_cons_self, rfl⟩)) _ _ _ ?_
    refine ⟨Gb.1, ⟨bm_i (i_in x1) _, sl_0, Gb.2.1⟩, ⟨fun p hq => ?_, Gb.2.2.1.2⟩, Gb.2.2.2⟩
    rcases List.mem_append.mp hq with z | z
    · exact hp p z
    · exact Gb.2.2.1.1 p z
  · obtain ⟨b, eb, Gb, _⟩ := rfl_ok (pm_rev ha1) f (tyok_ok k2) G1
    refine kk _ (List.mem_append_right _ (List.mem_map.mpr ⟨b, by rw [eb]; exact List.mem_cons_self, rfl⟩)) _ _ _ ?_
    refine ⟨Gb.1, ⟨bm_i (i_in x0) _, sl_0, Gb.2.1⟩, ⟨fun p hq => ?_, Gb.2.2.1.2⟩, Gb.2.2.2⟩
    rcases List.mem_append.mp hq with z | z
    · exact hp p z
    · exact Gb.2.2.1.1 p z
def x_callC (es : List Av) (pre : Hf) (ty tn : Tr) (n : Nat) : Fx := fun a => bif tyok (a.2.1.take es.length).reverse ty.1 && tyok (a.2.1.take es.length).reverse tn.1 then x_callB es pre ty tn n a else none
theorem sd_callSB {M' : Mc_} {es : List Av} {pre : Hf} {ty tn : Tr} {n : Nat} (hC : Hb M' es pre ty tn) (rule : ∀ lv rest h (vs : List Value) K', vs.length = es.length → (rest.map (fun v : Value => v.category)).sum ≤ 8 → Ct M' vs h K' → (∀ v h', K' v h' → AW M 0 0 n lv (v.toList ++ rest) h' K) → AW M 0 0 pc lv (vs.reverse ++ rest) h K) : Sd ws h0 M K pc (x_callC es pre ty tn n) := by
  intro g a out e lv st h G kk
  obtain ⟨la, sa, hf⟩ := a
  unfold x_callC at e
  cases t : tyok (sa.take es.length).reverse ty.1 && tyok (sa.take es.length).reverse tn.1 with
  | false => rw [t] at e; cases e
  | true =>
    rw [t] at e
    rw [Bool.and_eq_true] at t
    have e : x_callB es pre ty tn n (la, sa, hf) = some out := e
    unfold x_callB at e
    split at e
    · rename_i r q
      cases z : hmc hf.1 pre && Nat.ble ((r.map ac).sum) 8 with
      | false => rw [z] at e; cases e
      | true =>
        rw [z] at e
        have e := (Option.some.inj e).symm
        subst e
        rw [Bool.and_eq_true, Nat.ble_eq] at z
        obtain ⟨vs, rest, es', ma, ms, mv, _⟩ := pop_pm G.2.1 q
        subst es'
        have w := rule lv rest h vs.reverse _ (by rw [List.length_reverse]; exact am_len ma) (by rw [sm_cat ms]; exact z.2) (hC vs h ma G.2.2.2.1 (hmc_ok G.2.2.2.1 G.2.2.1.1 z.1)) (fun v h' kv => callB_on t.1 t.2 G.1 ms mv G.2.2.1 G.2.2.2.2.1 G.2.2.2.2.2 kv kk)
        rw [List.reverse_reverse] at w
        exact w
    · cases e
theorem sd_callVB {M' : Mc_} {es es' : List Av} {pre : Hf} {ty tn : Tr} {n m ci N : Nat} (he : es = es' ++ [.inr m]) (ht : thok m ci N = true) (hC : Hb M' es pre ty tn) (rule : ∀ lv rest h (vs : List Value) a K', vs.length = es'.length → h_sh h a = some (ci + 10, N) → (rest.map (fun v : Value => v.category)).sum ≤ 8 → Ct M' (.ref a :: vs) h K' → (∀ v h', K' v h' → AW M 0 0 n lv (v.toList ++ rest) h' K) → AW M 0 0 pc lv (vs.reverse ++ .ref a :: rest) h K) : Sd ws h0 M K pc (x_callC es pre ty tn n) := by
  intro g a out e lv st h G kk
  obtain ⟨la, sa, hf⟩ := a
  unfold x_callC at e
  cases t : tyok (sa.take es.length).reverse ty.1 && tyok (sa.take es.length).reverse tn.1 with
  | false => rw [t] at e; cases e
  | true =>
    rw [t] at e
    rw [Bool.and_eq_true] at t
    have e : x_callB es pre ty tn n (la, sa, hf) = some out := e
    unfold x_callB at e
    split at e
    · rename_i r q
      cases z : hmc hf.1 pre && Nat.ble ((r.map ac).sum) 8 with
      | false => rw [z] at e; cases e
      | true =>
        rw [z] at e
        have e := (Option.some.inj e).symm
        subst e
        rw [Bool.and_eq_true, Nat.ble_eq] at z
        obtain ⟨vs, rest, es2, ma, ms, mv, _⟩ := pop_pm G.2.1 q
        subst es2
        have C := hC _ h ma G.2.2.2.1 (hmc_ok G.2.2.2.1 G.2.2.1.1 z.1)
        have kv0 : ∀ v h', Kb h vs.reverse ty tn v h' → AW M 0 0 n lv (v.toList ++ rest) h' K := fun v h' kv => callB_on t.1 t.2 G.1 ms mv G.2.2.1 G.2.2.2.2.1 G.2.2.2.2.2 kv kk
        have ma' := ma
        rw [he] at ma'
        obtain ⟨us, v0, e1, mu, b⟩ := am_snoc ma'
        obtain ⟨a0, ea, hsa⟩ := thok_ok G.2.2.2.1 ht b
        subst ea
        generalize hK : Kb h vs.reverse ty tn = K1 at C kv0
        subst e1
        rw [List.reverse_append, List.reverse_singleton, List.singleton_append] at C
        have w := rule lv rest h us.reverse a0 K1 (by rw [List.length_reverse]; exact am_len mu) hsa (by rw [sm_cat ms]; exact z.2) C kv0
        rw [List.reverse_reverse] at w
        rw [List.append_assoc, List.singleton_append]
        exact w
    · cases e
/-- the end of such a method: what either answer says of the arguments, that stand in the locals still -/
def trc (la : List (Nat × Av)) (hf : Hf) (t : Tr) : Bool := t.1.all (fun q => match lk q.1 la with
  | some (.inl (r, _, some (j, d))) => Nat.beq j (2 * q.1) && ieq d 0 && rsub r q.2
  | _ => false) && hmc hf t.2
def x_retB (ty tn : Tr) : Fx := fun a => match a.2.1 with
  | [.inl (r, _, _)] => bif rsub r (0, 1) && (ile r.2 0 || trc a.1 a.2.2.1 ty) && (ile 1 r.1 || trc a.1 a.2.2.1 tn) then some [] else none
  | _ => none
end SDX
