/-! calls and ends -/
def noG (a : Av) : Av := match a with
  | .inl (r, _, _) => .inl (r, (0, 0), none)
  | .inr n => .inr n
def bn (h : Hp_) (v : Value) (e : Av) : Prop := bm (fun _ => 0) h v (noG e)
def asub (p e : Av) : Bool := match p, e with
  | .inl (r, _, _), .inl (r', _, _) => rsub r r'
  | .inr n, .inr m => Nat.beq n m || (Nat.beq m 2 && (Nat.beq n 1 || Nat.beq n 3))
  | _, _ => false
theorem asub_ok {g : Nat → Int} {h : Hp_} {v : Value} {p e : Av} (s : asub p e = true) (b : bm g h v p) : bn h v e := by
  unfold asub at s
  split at s
  · rename_i r s1 g1 r' s2 g2
    obtain ⟨x, ex, hx, _⟩ := b
    exact ⟨x, ex, rsub_in s hx, fun _ z => (nomatch z)⟩
  · rename_i n m
    rw [Bool.or_eq_true] at s
    rcases s with s | s
    · have e := Nat.eq_of_beq_eq_true s; subst e; exact b
    · rw [Bool.and_eq_true, Bool.or_eq_true] at s
      have e := Nat.eq_of_beq_eq_true s.1
      subst e
      rcases s.2 with z | z
      · have e := Nat.eq_of_beq_eq_true z
        subst e
        exact Or.inl b
      · have e := Nat.eq_of_beq_eq_true z
        subst e
        exact Or.inr b
  · cases s
theorem bn_bm {g : Nat → Int} {h : Hp_} {v : Value} {e : Av} (b : bn h v e) : bm g h v (noG e) := by
  unfold bn noG at b
  unfold noG
  split at b
  · obtain ⟨x, ex, hx, _⟩ := b; exact ⟨x, ex, hx, fun _ z => (nomatch z)⟩
  · exact b
theorem sl_noG {h : Hp_} {lv : List (Nat × Value)} {v : Value} {e : Av} : sl h lv v (noG e) := by
  unfold noG
  split
  · exact sl_0
  · trivial
def am (h : Hp_) : List Value → List Av → Prop
  | [], [] => True
  | v :: t, p :: u => bn h v p ∧ am h t u
  | _, _ => False
theorem am_len {h : Hp_} : ∀ {vs : List Value} {es : List Av}, am h vs es → vs.length = es.length
  | [], [], _ => rfl
  | _ :: _, _ :: _, m => by rw [List.length_cons, List.length_cons, am_len m.2]
  | [], _ :: _, m => m.elim
  | _ :: _, [], m => m.elim
theorem am_snoc {h : Hp_} {e : Av} : ∀ {vs : List Value} {es : List Av}, am h vs (es ++ [e]) → ∃ us v, vs = us ++ [v] ∧ am h us es ∧ bn h v e
  | [], [], m => m.elim
  | [], _ :: _, m => m.elim
  | v :: [], [], m => ⟨[], v, rfl, trivial, m.1⟩
  | _ :: _ :: _, [], m => m.2.elim
  | v :: vs, p :: es, m => by
    obtain ⟨us, w, e1, e2, e3⟩ := am_snoc m.2
    exact ⟨v :: us, w, by rw [e1]; rfl, ⟨m.1, e2⟩, e3⟩
def pop : List Av → List Av → Option (List Av)
  | [], st => some st
  | e :: es, p :: st => bif asub p e then pop es st else none
  | _ :: _, [] => none
theorem pop_ok {g : Nat → Int} {h : Hp_} {lv : List (Nat × Value)} : ∀ {es : List Av} {st : List Value} {sa r : List Av}, sm g h lv st sa → pop es sa = some r → ∃ vs rest, st = vs ++ rest ∧ am h vs es ∧ sm g h lv rest r
  | [], st, sa, r, m, e => by
    have e : some sa = some r := e
    have e := Option.some.inj e
    subst e
    exact ⟨[], st, rfl, trivial, m⟩
  | e :: es, v :: st, p :: sa, r, m, q => by
    unfold pop at q
    cases c : asub p e with
    | false => rw [c] at q; cases q
    | true =>
      rw [c] at q
      obtain ⟨vs, rest, e1, e2, e3⟩ := pop_ok m.2.2 q
      exact ⟨v :: vs, rest, by rw [e1]; rfl, ⟨asub_ok c m.1, e2⟩, e3⟩
  | _ :: _, [], [], _, _, q => (nomatch q)
  | _ :: _, [], _ :: _, _, m, _ => m.elim
  | _ :: _, _ :: _, [], _, m, _ => m.elim
/-- what a method asks and gives: its arguments (the last first), what fields must hold, what it answers, what fields hold behind it, which cells it writes -/
abbrev Ctr : Type := List Av × Hf × Option Av × Hf × List Nat
def rtm (h : Hp_) (v : Option Value) (rt : Option Av) : Prop := match rt with
  | none => v = none
  | some a => ∃ x, v = some x ∧ bn h x a
def Kc (ws : List Nat) (h0 : Hp_) (rt : Option Av) (post : Hf) (v : Option Value) (h : Hp_) : Prop := Iv h ∧ Fr ws h0 h ∧ hm h post ∧ rtm h v rt
def Hc (M : Mc_) (c : Ctr) : Prop := ∀ vs h, am h vs c.1 → Iv h → hm h c.2.1 → Ct M vs.reverse h (Kc c.2.2.2.2 h c.2.2.1 c.2.2.2.1)
def hmc (hf pre : Hf) : Bool := pre.all (fun q => rsub (rmeet (tf q.1.1 q.1.2) (hfg q.1.1 q.1.2 hf)) q.2)
theorem hmc_ok {h : Hp_} {hf pre : Hf} (I : Iv h) (m : hm h hf) (e : hmc hf pre = true) : hm h pre := fun q hq => rsub_in (List.all_eq_true.mp e q hq) (rmeet_in (I.2.1 _ _) (hfg_in m))
section SDW
variable {ws : List Nat} {h0 : Hp_} {M : Mc_} {K : Option Value → Hp_ → Prop} {pc : Nat}
/-- what is known of the heap behind a call -/
def kcl (c : Ctr) (l : Hx) : Hx := (c.2.2.2.1 ++ hfd (fun q => inw c.2.2.2.2 q.1 q.2) l.1, l.2.1.filter (fun q => off c.2.2.2.2 q.1.1), l.2.2.filter (fun q => !inw c.2.2.2.2 q.1.1 q.1.2))
def x_call (ws : List Nat) (c : Ctr) (n : Nat) : Fx := fun a => match pop c.1 a.2.1 with
  | some rest => bif wsub c.2.2.2.2 ws && hmc a.2.2.1 c.2.1 && Nat.ble ((rest.map ac).sum) 8 then some [(n, a.1, (c.2.2.1.map noG).toList ++ rest.map (kav kfl), kcl c a.2.2)] else none
  | none => none
theorem sm_cat {g : Nat → Int} {h : Hp_} {lv : List (Nat × Value)} : ∀ {st : List Value} {sa : List Av}, sm g h lv st sa → st.map (fun v => v.category) = sa.map ac
  | [], [], _ => rfl
  | _ :: _, _ :: _, m => by rw [List.map_cons, List.map_cons, sm_cat m.2.2, ac_cat m.1]
  | [], _ :: _, m => m.elim
  | _ :: _, [], m => m.elim
theorem call_on {g : Nat → Int} {la : List (Nat × Av)} {hf : Hx} {c : Ctr} {r : List Av} {lv : List (Nat × Value)} {rest : List Value} {h h1 : Hp_} {v : Option Value} (hl : lm g h lv la) (hs : sm g h lv rest r) (hh : hx g lv h hf) (I : Fr ws h0 h) (hr : lv_rise lv = true) (hw : wsub c.2.2.2.2 ws = true) (q : Kc c.2.2.2.2 h c.2.2.1 c.2.2.2.1 v h1) :
    Gm g ws h0 (la, (c.2.2.1.map noG).toList ++ r.map (kav kfl), kcl c hf) lv (v.toList ++ rest) h1 := by
  have e := q.2.1.1
  have s1 : sm g h1 lv rest (r.map (kav kfl)) := sm_kav e (fun s x hs l => ⟨l.1, fun z => (by unfold kfl at hs; rw [Nat.ble_eq.mpr z] at hs; exact Bool.noConfusion hs), fun z => (by unfold kfl at hs; rw [Nat.ble_eq.mpr (by omega)] at hs; exact Bool.noConfusion hs)⟩) hs
  refine ⟨lm_sh e hl, ?_, ⟨fun p hp => ?_, fun p hp => ?_, fun p hp => ?_⟩, q.1, I.tr (q.2.1.more hw), hr⟩
  · have t := q.2.2.2
    unfold rtm at t
    split at t
    · rename_i w
      show sm g h1 lv (v.toList ++ rest) ((c.2.2.1.map noG).toList ++ r.map (kav kfl))
      rw [t, w]; exact s1
    · rename_i a w
      obtain ⟨x, ex, b⟩ := t
      show sm g h1 lv (v.toList ++ rest) ((c.2.2.1.map noG).toList ++ r.map (kav kfl))
      rw [ex, w]
      exact ⟨bn_bm b, sl_noG, s1⟩
  · rcases List.mem_append.mp hp with z | z
    · exact q.2.2.1 p z
    · have w := List.mem_filter.mp z
      have w2 : inw c.2.2.2.2 p.1.1 p.1.2 = false := by have := w.2; rwa [Bool.not_eq_true'] at this
      rw [(q.2.1.2 _ _ w2).1]
      exact hh.1 p w.1
  · have w := List.mem_filter.mp hp
    obtain ⟨i, m1, m2⟩ := hh.2.1 p w.1
    refine ⟨i, m1, ?_⟩
    rw [(q.2.1.2 _ _ (off_inw w.2 _)).1]
    exact m2
  · have w := List.mem_filter.mp hp
    have w2 : inw c.2.2.2.2 p.1.1 p.1.2 = false := by have := w.2; rwa [Bool.not_eq_true'] at this
    rw [(q.2.1.2 _ _ w2).1]
    exact hh.2.2 p w.1
theorem sd_callS {M' : Mc_} {c : Ctr} {n : Nat} (hC : Hc M' c) (rule : ∀ lv rest h (vs : List Value) K', vs.length = c.1.length → (rest.map (fun v : Value => v.category)).sum ≤ 8 → Ct M' vs h K' → (∀ v h', K' v h' → AW M 0 0 n lv (v.toList ++ rest) h' K) → AW M 0 0 pc lv (vs.reverse ++ rest) h K) : Sd ws h0 M K pc (x_call ws c n) := by
  intro g a out e lv st h G kk
  obtain ⟨la, sa, hf⟩ := a
  unfold x_call at e
  split at e
  · rename_i r q
    cases z : wsub c.2.2.2.2 ws && hmc hf.1 c.2.1 && Nat.ble ((r.map ac).sum) 8 with
    | false => rw [z] at e; cases e
    | true =>
      rw [z] at e
      have e := (Option.some.inj e).symm
      subst e
      simp only [Bool.and_eq_true, Nat.ble_eq] at z
      obtain ⟨⟨z1, z2⟩, z3⟩ := z
      obtain ⟨vs, rest, es, ma, ms⟩ := pop_ok G.2.1 q
      subst es
      have w := rule lv rest h vs.reverse _ (by rw [List.length_reverse]; exact am_len ma) (by rw [sm_cat ms]; exact z3) (hC vs h ma G.2.2.2.1 (hmc_ok G.2.2.2.1 G.2.2.1.1 z2)) (fun v h' kv => kk _ List.mem_cons_self _ _ _ (call_on G.1 ms G.2.2.1 G.2.2.2.2.1 G.2.2.2.2.2 z1 kv))
      rw [List.reverse_reverse] at w
      exact w
  · cases e
def thok (m ci N : Nat) : Bool := match m with
  | 3 => Nat.beq ci 2 && Nat.beq N 17
  | c + 10 => fsh c ci N
  | _ => false
theorem thok_ok {h : Hp_} {v : Value} {m ci N : Nat} (I : Iv h) (t : thok m ci N = true) (b : bn h v (.inr m)) : ∃ a, v = .ref a ∧ h_sh h a = some (ci + 10, N) := by
  unfold thok at t
  split at t
  · rw [Bool.and_eq_true] at t
    have t1 := Nat.eq_of_beq_eq_true t.1
    have t2 := Nat.eq_of_beq_eq_true t.2
    obtain ⟨c, ec, hc⟩ := b
    exact ⟨c, ec, by rw [t1, t2]; exact hc.2.2⟩
  · rename_i c
    exact ⟨c, b, fsh_sh I.1 t⟩
  · cases t
theorem sd_callV {M' : Mc_} {c : Ctr} {n m ci N : Nat} {es : List Av} (he : c.1 = es ++ [.inr m]) (ht : thok m ci N = true) (hC : Hc M' c) (rule : ∀ lv rest h (vs : List Value) a K', vs.length = es.length → h_sh h a = some (ci + 10, N) → (rest.map (fun v : Value => v.category)).sum ≤ 8 → Ct M' (.ref a :: vs) h K' → (∀ v h', K' v h' → AW M 0 0 n lv (v.toList ++ rest) h' K) → AW M 0 0 pc lv (vs.reverse ++ .ref a :: rest) h K) : Sd ws h0 M K pc (x_call ws c n) := by
  intro g a out e lv st h G kk
  obtain ⟨la, sa, hf⟩ := a
  unfold x_call at e
  split at e
  · rename_i r q
    cases z : wsub c.2.2.2.2 ws && hmc hf.1 c.2.1 && Nat.ble ((r.map ac).sum) 8 with
    | false => rw [z] at e; cases e
    | true =>
      rw [z] at e
      have e := (Option.some.inj e).symm
      subst e
      simp only [Bool.and_eq_true, Nat.ble_eq] at z
      obtain ⟨⟨z1, z2⟩, z3⟩ := z
      obtain ⟨vs, rest, es, ma, ms⟩ := pop_ok G.2.1 q
      subst es
      have ma' := ma
      rw [he] at ma'
      obtain ⟨us, v0, e1, mu, b⟩ := am_snoc ma'
      obtain ⟨a0, ea, hsa⟩ := thok_ok G.2.2.2.1 ht b
      subst ea e1
      have C := hC _ h ma G.2.2.2.1 (hmc_ok G.2.2.2.1 G.2.2.1.1 z2)
      rw [List.reverse_append, List.reverse_singleton, List.singleton_append] at C
      have w := rule lv rest h us.reverse a0 _ (by rw [List.length_reverse]; exact am_len mu) hsa (by rw [sm_cat ms]; exact z3) C (fun v h' kv => kk _ List.mem_cons_self _ _ _ (call_on G.1 ms G.2.2.1 G.2.2.2.2.1 G.2.2.2.2.2 z1 kv))
      rw [List.reverse_reverse] at w
      rw [List.append_assoc, List.singleton_append]
      exact w
  · cases e
def x_ret (nr : Rg) (rt : Av) (post : Hf) : Fx := fun a => match a.2.1 with
  | [.inl (r, s, g)] => bif asub (.inl (r, s, g)) rt && rsub r nr && hmc a.2.2.1 post then some [] else none
  | _ => none
theorem sd_ret {nr : Rg} {rt : Av} {post : Hf} (rule : ∀ lv h x, rin x.toInt nr → Kc ws h0 (some rt) post (some (.int x)) h → AW M 0 0 pc lv [.int x] h (Kc ws h0 (some rt) post)) : Sd ws h0 M (Kc ws h0 (some rt) post) pc (x_ret nr rt post) := by
  intro g a out e lv st h G kk
  obtain ⟨la, sa, hf⟩ := a
  unfold x_ret at e
  split at e
  · rename_i r s g1 q
    have q : sa = [.inl (r, s, g1)] := q
    subst q
    cases z : asub (.inl (r, s, g1)) rt && rsub r nr && hmc hf.1 post with
    | false => rw [z] at e; cases e
    | true =>
      simp only [Bool.and_eq_true] at z
      obtain ⟨⟨z1, z2⟩, z3⟩ := z
      obtain ⟨v, t, es, b, _, m⟩ := sm1 G.2.1
      have b' := b
      obtain ⟨x, ex, hx, _⟩ := b'
      cases t with
      | cons _ _ => exact m.elim
      | nil =>
        subst es ex
        exact rule lv h x (rsub_in z2 hx) ⟨G.2.2.2.1, G.2.2.2.2.1, hmc_ok G.2.2.2.1 G.2.2.1.1 z3, _, rfl, asub_ok z1 b⟩
  · cases e
def x_vret (post : Hf) : Fx := fun a => match a.2.1 with
  | [] => bif hmc a.2.2.1 post then some [] else none
  | _ => none
theorem sd_vret {post : Hf} (rule : ∀ lv h, Kc ws h0 none post none h → AW M 0 0 pc lv [] h (Kc ws h0 none post)) : Sd ws h0 M (Kc ws h0 none post) pc (x_vret post) := by
  intro g a out e lv st h G kk
  obtain ⟨la, sa, hf⟩ := a
  unfold x_vret at e
  split at e
  · rename_i q
    have q : sa = [] := q
    subst q
    cases z : hmc hf.1 post with
    | false => rw [z] at e; cases e
    | true =>
      cases st with
      | cons _ _ => exact G.2.1.elim
      | nil => exact rule lv h ⟨G.2.2.2.1, G.2.2.2.2.1, hmc_ok G.2.2.2.1 G.2.2.1.1 z, rfl⟩
  · cases e
def x_lret (post : Hf) : Fx := fun a => match a.2.1 with
  | [.inr 0] => bif hmc a.2.2.1 post then some [] else none
  | _ => none
theorem sd_lret {post : Hf} (rule : ∀ lv h x, Kc ws h0 (some (.inr 0)) post (some (.long x)) h → AW M 0 0 pc lv [.long x] h (Kc ws h0 (some (.inr 0)) post)) : Sd ws h0 M (Kc ws h0 (some (.inr 0)) post) pc (x_lret post) := by
  intro g a out e lv st h G kk
  obtain ⟨la, sa, hf⟩ := a
  unfold x_lret at e
  split at e
  · rename_i q
    have q : sa = [.inr 0] := q
    subst q
    cases z : hmc hf.1 post with
    | false => rw [z] at e; cases e
    | true =>
      obtain ⟨v, t, es, ⟨x, ex⟩, _, m⟩ := sm1 G.2.1
      cases t with
      | cons _ _ => exact m.elim
      | nil =>
        subst es ex
        exact rule lv h x ⟨G.2.2.2.1, G.2.2.2.2.1, hmc_ok G.2.2.2.1 G.2.2.1.1 z, _, rfl, ⟨x, rfl⟩⟩
  · cases e
def x_aret (rt : Av) (post : Hf) : Fx := fun a => match a.2.1 with
  | [.inr (c + 1)] => bif asub (.inr (c + 1)) rt && hmc a.2.2.1 post then some [] else none
  | _ => none
theorem sd_aret {rt : Av} {post : Hf} (rr : ∀ lv h x, Kc ws h0 (some rt) post (some (.ref x)) h → AW M 0 0 pc lv [.ref x] h (Kc ws h0 (some rt) post)) (rn : ∀ lv h, Kc ws h0 (some rt) post (some .null) h → AW M 0 0 pc lv [.null] h (Kc ws h0 (some rt) post)) : Sd ws h0 M (Kc ws h0 (some rt) post) pc (x_aret rt post) := by
  intro g a out e lv st h G kk
  obtain ⟨la, sa, hf⟩ := a
  unfold x_aret at e
  split at e
  · rename_i c q
    have q : sa = [.inr (c + 1)] := q
    subst q
    cases z : asub (.inr (c + 1)) rt && hmc hf.1 post with
    | false => rw [z] at e; cases e
    | true =>
      rw [Bool.and_eq_true] at z
      obtain ⟨v, t, es, b, _, m⟩ := sm1 G.2.1
      cases t with
      | cons _ _ => exact m.elim
      | nil =>
        subst es
        rcases rm_ref b with ev | ⟨x, ev⟩
        · subst ev; exact rn lv h ⟨G.2.2.2.1, G.2.2.2.2.1, hmc_ok G.2.2.2.1 G.2.2.1.1 z.2, _, rfl, asub_ok z.1 b⟩
        · subst ev; exact rr lv h x ⟨G.2.2.2.1, G.2.2.2.2.1, hmc_ok G.2.2.2.1 G.2.2.1.1 z.2, _, rfl, asub_ok z.1 b⟩
  · cases e
end SDW
