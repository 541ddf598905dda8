/-! fields and rows -/
section SDV
variable {ws : List Nat} {h0 : Hp_} {M : Mc_} {K : Option Value → Hp_ → Prop} {pc : Nat}
def hfg (a k : Nat) : Hf → Rg
  | [] => rtop
  | q :: t => bif Nat.beq q.1.1 a && Nat.beq q.1.2 k then q.2 else hfg a k t
theorem hfg_in {h : Hp_} {a k : Nat} : ∀ {l : Hf}, hm h l → rin (h_i h a k).toInt (hfg a k l)
  | [], _ => rtop_in _
  | q :: t, m => by
    unfold hfg
    cases c : Nat.beq q.1.1 a && Nat.beq q.1.2 k with
    | true =>
      rw [Bool.and_eq_true] at c
      have e1 := Nat.eq_of_beq_eq_true c.1
      have e2 := Nat.eq_of_beq_eq_true c.2
      have := m q List.mem_cons_self
      rw [e1, e2] at this
      exact this
    | false => exact hfg_in (fun p hp => m p (List.mem_cons_of_mem _ hp))
def gfg (a k : Nat) : List ((Nat × Nat) × (Nat × Int)) → Option (Nat × Int)
  | [] => none
  | q :: t => bif Nat.beq q.1.1 a && Nat.beq q.1.2 k then some q.2 else gfg a k t
theorem gfg_ok {g : Nat → Int} {h : Hp_} {a k : Nat} {o : Nat × Int} : ∀ {l : List ((Nat × Nat) × (Nat × Int))}, gfm g h l → gfg a k l = some o → gq g (h_i h a k) o
  | [], _, e => (nomatch e)
  | q :: t, m, e => by
    unfold gfg at e
    cases c : Nat.beq q.1.1 a && Nat.beq q.1.2 k with
    | true =>
      rw [c] at e
      rw [Bool.and_eq_true] at c
      have e1 := Nat.eq_of_beq_eq_true c.1
      have e2 := Nat.eq_of_beq_eq_true c.2
      have e : some q.2 = some o := e
      have e := Option.some.inj e
      have := m q List.mem_cons_self
      rw [e1, e2, e] at this
      exact this
    | false =>
      rw [c] at e
      exact gfg_ok (fun p hp => m p (List.mem_cons_of_mem _ hp)) e
def fsh (a ci N : Nat) : Bool := match shq a with
  | some p => Nat.beq p.1 (ci + 10) && Nat.beq p.2 N
  | none => false
theorem fsh_sh {h : Hp_} {a ci N : Nat} (w : Wf h) (e : fsh a ci N = true) : h_sh h a = some (ci + 10, N) := by
  unfold fsh at e
  split at e
  · rename_i p q
    rw [Bool.and_eq_true] at e
    have := w.1 (a, p) (lk_mem q)
    rw [this]
    show some p = _
    rw [← Nat.eq_of_beq_eq_true e.1, ← Nat.eq_of_beq_eq_true e.2]
  · cases e
def x_geti (ci N k n : Nat) : Fx := fun a => match a.2.1 with
  | .inr 3 :: st => bif Nat.beq ci 2 && Nat.beq N 17 then some [(n, a.1, avi (tf 401 k) :: st, a.2.2)] else none
  | .inr (c + 10) :: st => bif fsh c ci N && Nat.ble c 900 then some [(n, a.1, .inl (rmeet (tf c k) (hfg c k a.2.2.1), (c + 2, k), gfg c k a.2.2.2.2) :: st, a.2.2)] else none
  | _ => none
theorem tf_cn {c k : Nat} (h1 : 401 ≤ c) (h2 : c ≤ 412) : tf c k = tf 401 k := by
  unfold tf
  have e : cn c = 401 := by unfold cn; rw [Nat.ble_eq.mpr h1, Nat.ble_eq.mpr h2]; rfl
  rw [e]; rfl
theorem sd_geti {ci N k n : Nat} (rule : ∀ lv st h a, h_sh h a = some (ci + 10, N) → AW M 0 0 n lv (.int (h_i h a k) :: st) h K → AW M 0 0 pc lv (.ref a :: st) h K) : Sd ws h0 M K pc (x_geti ci N k n) := by
  intro g a out e lv st h G kx
  obtain ⟨la, sa, hf⟩ := a
  unfold x_geti at e
  split at e
  · rename_i sa' q
    have q : sa = .inr 3 :: sa' := q
    subst q
    cases z : Nat.beq ci 2 && Nat.beq N 17 with
    | false => rw [z] at e; cases e
    | true =>
      rw [z] at e
      have e := (Option.some.inj e).symm
      subst e
      rw [Bool.and_eq_true] at z
      have z1 := Nat.eq_of_beq_eq_true z.1
      have z2 := Nat.eq_of_beq_eq_true z.2
      obtain ⟨v, t, es, ⟨c, ev, hc⟩, _, m⟩ := sm1 G.2.1
      subst es ev
      have hv := G.2.2.2.1.2.1 c k
      rw [tf_cn hc.1 hc.2.1] at hv
      exact rule lv t h c (by rw [z1, z2]; exact hc.2.2) (kx _ List.mem_cons_self _ _ _ ⟨G.1, ⟨bm_i hv _, sl_0, m⟩, G.2.2⟩)
  · rename_i c sa' q
    have q : sa = .inr (c + 10) :: sa' := q
    subst q
    cases z0 : fsh c ci N && Nat.ble c 900 with
    | false => rw [z0] at e; cases e
    | true =>
      rw [z0] at e
      rw [Bool.and_eq_true, Nat.ble_eq] at z0
      have z := z0.1
      have e := (Option.some.inj e).symm
      subst e
      obtain ⟨v, t, es, ev, _, m⟩ := sm1 G.2.1
      have ev : v = .ref c := ev
      subst es ev
      refine rule lv t h c (fsh_sh G.2.2.2.1.1 z) (kx _ List.mem_cons_self _ _ _ ⟨G.1, ⟨⟨_, rfl, rmeet_in (G.2.2.2.1.2.1 c k) (hfg_in G.2.2.1.1), fun o ho => gfg_ok G.2.2.1.2.2 ho⟩, fun x ex => ⟨fun y => absurd y (by show ¬ c + 2 = 1; omega), fun _ _ => ?_, fun y => absurd y (by show ¬ 1000 ≤ c + 2; omega)⟩, m⟩, G.2.2⟩)
      cases ex
      show h_i h (c + 2 - 2) k = _
      rw [Nat.add_sub_cancel]
  · cases e
def x_getl (ci N n : Nat) : Fx := fun a => match a.2.1 with
  | .inr (c + 10) :: st => bif fsh c ci N then some [(n, a.1, .inr 0 :: st, a.2.2)] else none
  | _ => none
theorem sd_getl {ci N k n : Nat} (rule : ∀ lv st h a, h_sh h a = some (ci + 10, N) → AW M 0 0 n lv (.long (h_l h a k) :: st) h K → AW M 0 0 pc lv (.ref a :: st) h K) : Sd ws h0 M K pc (x_getl ci N n) := by
  intro g a out e lv st h G kx
  obtain ⟨la, sa, hf⟩ := a
  unfold x_getl at e
  split at e
  · rename_i c sa' q
    have q : sa = .inr (c + 10) :: sa' := q
    subst q
    cases z : fsh c ci N with
    | false => rw [z] at e; cases e
    | true =>
      rw [z] at e
      have e := (Option.some.inj e).symm
      subst e
      obtain ⟨v, t, es, ev, _, m⟩ := sm1 G.2.1
      have ev : v = .ref c := ev
      subst es ev
      exact rule lv t h c (fsh_sh G.2.2.2.1.1 z) (kx _ List.mem_cons_self _ _ _ ⟨G.1, ⟨⟨_, rfl⟩, trivial, m⟩, G.2.2⟩)
  · cases e
def x_getr (ci N k n : Nat) : Fx := fun a => match a.2.1 with
  | .inr (c + 10) :: st => bif fsh c ci N then (match lk2 c k rfL with | some b => some [(n, a.1, .inr (b + 10) :: st, a.2.2)] | none => none) else none
  | _ => none
theorem sd_getr {ci N k n : Nat} (rule : ∀ lv st h a b, h_sh h a = some (ci + 10, N) → h_r h a k = some b → AW M 0 0 n lv (.ref b :: st) h K → AW M 0 0 pc lv (.ref a :: st) h K) : Sd ws h0 M K pc (x_getr ci N k n) := by
  intro g a out e lv st h G kx
  obtain ⟨la, sa, hf⟩ := a
  unfold x_getr at e
  split at e
  · rename_i c sa' q
    have q : sa = .inr (c + 10) :: sa' := q
    subst q
    cases z : fsh c ci N with
    | false => rw [z] at e; cases e
    | true =>
      rw [z] at e
      have e : (match lk2 c k rfL with | some b => some [(n, la, (.inr (b + 10) : Av) :: sa', hf)] | none => none) = some out := e
      split at e
      · rename_i b y
        have e := (Option.some.inj e).symm
        subst e
        obtain ⟨v, t, es, ev, _, m⟩ := sm1 G.2.1
        have ev : v = .ref c := ev
        subst es ev
        exact rule lv t h c b (fsh_sh G.2.2.2.1.1 z) (G.2.2.2.1.1.2 _ (lk2_mem y)) (kx _ List.mem_cons_self _ _ _ ⟨G.1, ⟨rfl, trivial, m⟩, G.2.2⟩)
      · cases e
  · cases e
def kfl (s : Nat × Nat) : Bool := Nat.ble 2 s.1
def hfd (p : Nat × Nat → Bool) (l : Hf) : Hf := l.filter (fun q => !p q.1)
/-- a heap behind a store of an int -/
theorem Iv.im {h : Hp_} {a k : Nat} {x : Int32} (I : Iv h) (hx : rin x.toInt (tf a k)) (hj : jw a k = false) : Iv (h_im h a k x) := by
  have hn : ¬ (a = 0 ∧ k = 0) := fun z => by rw [z.1, z.2] at hj; exact absurd hj (by decide)
  refine ⟨I.1.im a k x, fun b j => ?_, I.2.2.1, I.2.2.2.1, ?_, Jv_same (h := h) (fun b j hb => ?_) rfl rfl I.2.2.2.2.2⟩
  · rw [h_i_im]
    split
    · rename_i c; rw [c.1, c.2]; exact hx
    · exact I.2.1 b j
  · obtain ⟨c, N, e1, e2, e3, e4⟩ := I.2.2.2.2.1
    refine ⟨c, N, e1, e2, e3, ?_⟩
    rw [h_i_im, if_neg (fun z => hn ⟨z.1.symm, z.2.symm⟩)]
    exact e4
  · rw [h_i_im, if_neg (fun z => by rw [z.1, z.2, hj] at hb; cases hb)]
theorem Fr.im {h h1 : Hp_} {a k : Nat} {x : Int32} (f : Fr ws h h1) (ha : inw ws a k = true) : Fr ws h (h_im h1 a k x) := by
  refine ⟨f.1, fun b j hb => ⟨?_, (f.2 b j hb).2⟩⟩
  have n : ¬ (b = a ∧ j = k) := fun z => by rw [z.1, z.2, ha] at hb; cases hb
  rw [← (f.2 b j hb).1, h_i_im, if_neg n]
theorem Iv.lm {h : Hp_} {a k : Nat} {x : Int64} (I : Iv h) : Iv (h_lm h a k x) := ⟨I.1.lm a k x, I.2.1, I.2.2.1, I.2.2.2.1, I.2.2.2.2.1, Jv_same (h := h) (fun _ _ _ => rfl) rfl rfl I.2.2.2.2.2⟩
theorem Fr.lm {h h1 : Hp_} {a k : Nat} {x : Int64} (f : Fr ws h h1) (ha : inw ws a k = true) : Fr ws h (h_lm h1 a k x) := by
  refine ⟨f.1, fun b j hb => ⟨(f.2 b j hb).1, ?_, (f.2 b j hb).2.2⟩⟩
  have n : ¬ (b = a ∧ j = k) := fun z => by rw [z.1, z.2, ha] at hb; cases hb
  rw [← (f.2 b j hb).2.1, h_l_lm, if_neg n]
/-- the state behind a store into the heap: fields and rows of which nothing is known any more -/
def kfh (p : Nat × Nat → Bool) (a : Nat) (l : Hx) : Hx := (hfd p l.1, l.2.1.filter (fun q => !Nat.beq (cn q.1.1) (cn a)), l.2.2.filter (fun q => !p q.1))
theorem Gm.im {g : Nat → Int} {la : List (Nat × Av)} {sa : List Av} {hf : Hx} {lv : List (Nat × Value)} {st : List Value} {h : Hp_} {a k : Nat} {x : Int32} {p : Nat × Nat → Bool} (G : Gm g ws h0 (la, sa, hf) lv st h) (hxx : rin x.toInt (tf a k)) (hn : jw a k = false) (ha : inw ws a k = true) (hp : ∀ q, p q = false → ¬ (q.1 = a ∧ q.2 = k)) : Gm g ws h0 (la, sa.map (kav kfl), kfh p a hf) lv st (h_im h a k x) := by
  refine ⟨lm_sh (h := h) (h' := h_im h a k x) rfl G.1, sm_kav (f := kfl) (h := h) (h' := h_im h a k x) rfl (fun s y hs l => ?_) G.2.1, ⟨fun q hq => ?_, fun q hq => ?_, fun q hq => ?_⟩, G.2.2.2.1.im hxx hn, G.2.2.2.2.1.im ha, G.2.2.2.2.2⟩
  · refine ⟨l.1, fun z => ?_, fun z => ?_⟩
    · unfold kfl at hs; rw [Nat.ble_eq.mpr z] at hs; cases hs
    · unfold kfl at hs; rw [Nat.ble_eq.mpr (by omega)] at hs; cases hs
  · have w := List.mem_filter.mp hq
    have w2 := hp q.1 (by have := w.2; rwa [Bool.not_eq_true'] at this)
    rw [h_i_im, if_neg w2]
    exact G.2.2.1.1 q w.1
  · have w := List.mem_filter.mp hq
    have w2 := w.2
    rw [Bool.not_eq_true'] at w2
    obtain ⟨i, m1, m2⟩ := G.2.2.1.2.1 q w.1
    refine ⟨i, m1, ?_⟩
    have n : ¬ (q.1.1 = a ∧ i.toNatClampNeg = k) := fun z => by rw [z.1, Nat.beq_refl] at w2; cases w2
    rw [h_i_im, if_neg n]
    exact m2
  · have w := List.mem_filter.mp hq
    have w2 := hp q.1 (by have := w.2; rwa [Bool.not_eq_true'] at this)
    rw [h_i_im, if_neg w2]
    exact G.2.2.1.2.2 q w.1
theorem Gm.ls {g : Nat → Int} {la : List (Nat × Av)} {sa : List Av} {hf : Hx} {lv : List (Nat × Value)} {st : List Value} {h : Hp_} {a k : Nat} {x : Int64} (G : Gm g ws h0 (la, sa, hf) lv st h) (ha : inw ws a k = true) : Gm g ws h0 (la, sa, hf) lv st (h_lm h a k x) := by
  refine ⟨lm_sh (h := h) (h' := h_lm h a k x) rfl G.1, ?_, G.2.2.1, G.2.2.2.1.lm, G.2.2.2.2.1.lm ha, G.2.2.2.2.2⟩
  have m := sm_kav (f := fun _ => false) (h := h) (h' := h_lm h a k x) rfl (fun _ _ _ z => z) G.2.1
  have e : kav (fun _ => false) = id := by funext a; unfold kav; split <;> rfl
  rw [e, List.map_id] at m
  exact m
def x_puti (ws : List Nat) (nr : Rg) (ci N k n : Nat) : Fx := fun a => match a.2.1 with
  | .inl (r, _, _) :: .inr 3 :: st => bif Nat.beq ci 2 && Nat.beq N 17 && rsub r (tf 401 k) && rsub r nr && inw ws 401 k then some [(n, a.1, st.map (kav kfl), kfh (fun q => Nat.ble 401 q.1) 401 a.2.2)] else none
  | .inl (r, _, ga) :: .inr (c + 10) :: st => bif fsh c ci N && rsub r (tf c k) && rsub r nr && inw ws c k && !jw c k then some [(n, a.1, st.map (kav kfl), (((c, k), r) :: (kfh (fun q => Nat.beq q.1 c && Nat.beq q.2 k) c a.2.2).1, (kfh (fun q => Nat.beq q.1 c && Nat.beq q.2 k) c a.2.2).2.1, (ga.map (fun o => ((c, k), o))).toList ++ (kfh (fun q => Nat.beq q.1 c && Nat.beq q.2 k) c a.2.2).2.2))] else none
  | _ => none
theorem jw_cn {c : Nat} (h1 : 401 ≤ c) (h2 : c ≤ 412) (k : Nat) : jw c k = false := by
  have f : ∀ m, m < 401 → Nat.beq c m = false := fun m hm => by
    cases z : Nat.beq c m with
    | false => rfl
    | true => have := Nat.eq_of_beq_eq_true z; omega
  unfold jw jr
  rw [f 0 (by omega), f 228 (by omega), f 229 (by omega), f 231 (by omega), f 232 (by omega)]
  rfl
theorem jw_jr {c : Nat} (h0 : c ≠ 0) (h : jr c = false) (k : Nat) : jw c k = false := by
  unfold jw
  have z : Nat.beq c 0 = false := by
    cases z : Nat.beq c 0 with
    | false => rfl
    | true => exact absurd (Nat.eq_of_beq_eq_true z) h0
  rw [z, h]
  rfl
theorem inw_cn {c k : Nat} (h1 : 401 ≤ c) (h2 : c ≤ 412) : inw ws c k = inw ws 401 k := by
  unfold inw
  have e : cn c = 401 := by unfold cn; rw [Nat.ble_eq.mpr h1, Nat.ble_eq.mpr h2]; rfl
  rw [e]; rfl
theorem sd_puti {nr : Rg} {ci N k n : Nat} (rule : ∀ lv st h a x, rin x.toInt nr → h_sh h a = some (ci + 10, N) → AW M 0 0 n lv st (h_im h a k x) K → AW M 0 0 pc lv (.int x :: .ref a :: st) h K) : Sd ws h0 M K pc (x_puti ws nr ci N k n) := by
  intro g a out e lv st h G kx
  obtain ⟨la, sa, hf⟩ := a
  unfold x_puti at e
  split at e
  · rename_i r s2 ga sa' q
    have q : sa = .inl (r, s2, ga) :: .inr 3 :: sa' := q
    subst q
    cases z : Nat.beq ci 2 && Nat.beq N 17 && rsub r (tf 401 k) && rsub r nr && inw ws 401 k with
    | false => rw [z] at e; cases e
    | true =>
      rw [z] at e
      have e := (Option.some.inj e).symm
      subst e
      simp only [Bool.and_eq_true] at z
      obtain ⟨⟨⟨⟨z1, z2⟩, z3⟩, z4⟩, z5⟩ := z
      have z1 := Nat.eq_of_beq_eq_true z1
      have z2 := Nat.eq_of_beq_eq_true z2
      obtain ⟨v, w, t, es, ⟨x, ex, hx, _⟩, _, ⟨c, ev, hc⟩, _, m⟩ := sm2 G.2.1
      subst es ev ex
      refine rule lv t h c x (rsub_in z4 hx) (by rw [z1, z2]; exact hc.2.2) (kx _ List.mem_cons_self _ _ _ ?_)
      have G' := Gm.im (ws := ws) (h0 := h0) (la := la) (sa := sa') (hf := hf) (a := c) (k := k) (x := x) (p := fun q => Nat.ble 401 q.1) ⟨G.1, m, G.2.2⟩ (by rw [tf_cn hc.1 hc.2.1]; exact rsub_in z3 hx) (jw_cn hc.1 hc.2.1 k) (by rw [inw_cn hc.1 hc.2.1]; exact z5) (fun q hq y => by
        have := hc.1
        rw [Nat.ble_eq.mpr (by omega)] at hq
        cases hq)
      have ec : cn c = cn 401 := by unfold cn; rw [Nat.ble_eq.mpr hc.1, Nat.ble_eq.mpr hc.2.1]; rfl
      unfold kfh at G' ⊢
      rw [ec] at G'
      exact G'
  · rename_i r s2 ga c sa' q
    have q : sa = .inl (r, s2, ga) :: .inr (c + 10) :: sa' := q
    subst q
    cases z : fsh c ci N && rsub r (tf c k) && rsub r nr && inw ws c k && !jw c k with
    | false => rw [z] at e; cases e
    | true =>
      rw [z] at e
      have e := (Option.some.inj e).symm
      subst e
      simp only [Bool.and_eq_true] at z
      obtain ⟨⟨⟨⟨z1, z2⟩, z3⟩, z4⟩, z5⟩ := z
      obtain ⟨v, w, t, es, ⟨x, ex, hx, hg⟩, _, ev, _, m⟩ := sm2 G.2.1
      have ev : w = .ref c := ev
      subst es ev ex
      refine rule lv t h c x (rsub_in z3 hx) (fsh_sh G.2.2.2.1.1 z1) (kx _ List.mem_cons_self _ _ _ ?_)
      have n0 : jw c k = false := by rwa [Bool.not_eq_true'] at z5
      have G' := Gm.im (ws := ws) (h0 := h0) (la := la) (sa := sa') (hf := hf) (x := x) (p := fun q => Nat.beq q.1 c && Nat.beq q.2 k) ⟨G.1, m, G.2.2⟩ (rsub_in z2 hx) n0 z4 (fun q hq y => by
        rw [y.1, y.2, Nat.beq_refl, Nat.beq_refl] at hq; cases hq)
      refine ⟨G'.1, G'.2.1, ⟨fun q hq => ?_, G'.2.2.1.2.1, fun q hq => ?_⟩, G'.2.2.2⟩
      · rcases List.mem_cons.mp hq with y | y
        · rw [y]; show rin (h_i (h_im h c k x) c k).toInt r; rw [h_i_im, if_pos ⟨rfl, rfl⟩]; exact hx
        · exact G'.2.2.1.1 q y
      · rcases List.mem_append.mp hq with y | y
        · cases ga with
          | none => cases y
          | some o =>
            have y := mem1 y
            rw [y]
            show gq g (h_i (h_im h c k x) c k) o
            rw [h_i_im, if_pos ⟨rfl, rfl⟩]
            exact hg o rfl
        · exact G'.2.2.1.2.2 q y
  · cases e
def x_putl (ws : List Nat) (ci N k n : Nat) : Fx := fun a => match a.2.1 with
  | .inr 0 :: .inr (c + 10) :: st => bif fsh c ci N && inw ws c k then some [(n, a.1, st, a.2.2)] else none
  | _ => none
theorem sd_putl {ci N k n : Nat} (rule : ∀ lv st h a x, h_sh h a = some (ci + 10, N) → AW M 0 0 n lv st (h_lm h a k x) K → AW M 0 0 pc lv (.long x :: .ref a :: st) h K) : Sd ws h0 M K pc (x_putl ws ci N k n) := by
  intro g a out e lv st h G kx
  obtain ⟨la, sa, hf⟩ := a
  unfold x_putl at e
  split at e
  · rename_i c sa' q
    have q : sa = .inr 0 :: .inr (c + 10) :: sa' := q
    subst q
    cases z : fsh c ci N && inw ws c k with
    | false => rw [z] at e; cases e
    | true =>
      rw [z] at e
      have e := (Option.some.inj e).symm
      subst e
      rw [Bool.and_eq_true] at z
      obtain ⟨v, w, t, es, ⟨x, ex⟩, _, ev, _, m⟩ := sm2 G.2.1
      have ev : w = .ref c := ev
      subst es ev ex
      exact rule lv t h c x (fsh_sh G.2.2.2.1.1 z.1) (kx _ List.mem_cons_self _ _ _ (Gm.ls ⟨G.1, m, G.2.2⟩ z.2))
  · cases e
/-- rows: tag, length, index -/
def ash (t c : Nat) (ri : Rg) : Bool := match shq c with
  | some p => Nat.beq p.1 t && ile 0 ri.1 && ile (ri.2 + 1) (p.2 : Int)
  | none => false
theorem ash_in {h : Hp_} {t c : Nat} {ri : Rg} {i : Int32} (w : Wf h) (e : ash t c ri = true) (hi : rin i.toInt ri) : ∃ n, h_sh h c = some (t, n) ∧ vp_in i n := by
  unfold ash at e
  split at e
  · rename_i p q
    simp only [Bool.and_eq_true, ile_iff] at e
    obtain ⟨⟨e1, e2⟩, e3⟩ := e
    have e1 := Nat.eq_of_beq_eq_true e1
    have s := w.1 (c, p) (lk_mem q)
    refine ⟨p.2, ?_, ?_⟩
    · rw [s]; show some p = _; rw [← e1]
    · have l := hi.1
      have u := hi.2
      have a : (0 : Int32).toInt = 0 := rfl
      have b : (i.toNatClampNeg : Int) = i.toInt := by
        show ((i.toInt.toNat : Nat) : Int) = _
        omega
      rintro (z | z)
      · have z := Int32.lt_iff_toInt_lt.mp z
        omega
      · omega
  · cases e
def efg (a j : Nat) : List ((Nat × Nat) × Rg) → Rg
  | [] => rtop
  | q :: t => bif Nat.beq q.1.1 a && Nat.beq q.1.2 j then q.2 else efg a j t
theorem efg_in {lv : List (Nat × Value)} {h : Hp_} {a j : Nat} {i : Int32} (r : lv_rise lv = true) (hi : (j, Value.int i) ∈ lv) : ∀ {l : List ((Nat × Nat) × Rg)}, em lv h l → rin (h_i h a i.toNatClampNeg).toInt (efg a j l)
  | [], _ => rtop_in _
  | q :: t, m => by
    unfold efg
    cases c : Nat.beq q.1.1 a && Nat.beq q.1.2 j with
    | true =>
      rw [Bool.and_eq_true] at c
      have e1 := Nat.eq_of_beq_eq_true c.1
      have e2 := Nat.eq_of_beq_eq_true c.2
      obtain ⟨k, m1, m2⟩ := m q List.mem_cons_self
      rw [e2] at m1
      have e3 := rise_uniq r m1 hi
      cases e3
      rw [e1] at m2
      exact m2
    | false => exact efg_in r hi (fun p hp => m p (List.mem_cons_of_mem _ hp))
def x_ald (t n : Nat) : Fx := fun a => match a.2.1 with
  | .inl (ri, s, _) :: .inr (c + 10) :: st => bif ash t c ri then (match tfa c with | some r => (bif Nat.beq s.1 1 then some [(n, a.1, .inl (rmeet r (efg c s.2 a.2.2.2.1), (1000 + c, s.2), none) :: st, a.2.2)] else some [(n, a.1, avi r :: st, a.2.2)]) | none => none) else none
  | _ => none
theorem sd_ald {t n : Nat} (rule : ∀ lv st h a m i, h_sh h a = some (t, m) → vp_in i m → AW M 0 0 n lv (.int (h_i h a i.toNatClampNeg) :: st) h K → AW M 0 0 pc lv (.int i :: .ref a :: st) h K) : Sd ws h0 M K pc (x_ald t n) := by
  intro g a out e lv st h G kx
  obtain ⟨la, sa, hf⟩ := a
  unfold x_ald at e
  split at e
  · rename_i ri s2 ga c sa' q
    have q : sa = .inl (ri, s2, ga) :: .inr (c + 10) :: sa' := q
    subst q
    cases z : ash t c ri with
    | false => rw [z] at e; cases e
    | true =>
      rw [z] at e
      have e : (match tfa c with | some r => (bif Nat.beq s2.1 1 then some [(n, la, (.inl (rmeet r (efg c s2.2 hf.2.1), (1000 + c, s2.2), none) : Av) :: sa', hf)] else some [(n, la, avi r :: sa', hf)]) | none => none) = some out := e
      split at e
      · rename_i r y
        obtain ⟨v, w, t', es, ⟨x, ex, hx, _⟩, l1, ev, _, m⟩ := sm2 G.2.1
        have ev : w = .ref c := ev
        subst es ev ex
        obtain ⟨m', s1, s3⟩ := ash_in G.2.2.2.1.1 z hx
        have hv := G.2.2.2.1.2.1 c x.toNatClampNeg
        rw [tfa_tf y] at hv
        cases b : Nat.beq s2.1 1 with
        | false =>
          rw [b] at e
          have e := (Option.some.inj e).symm
          subst e
          exact rule lv t' h c m' x s1 s3 (kx _ List.mem_cons_self _ _ _ ⟨G.1, ⟨bm_i hv _, sl_0, m⟩, G.2.2⟩)
        | true =>
          rw [b] at e
          have e := (Option.some.inj e).symm
          subst e
          have lx := (l1 x rfl).1 (Nat.eq_of_beq_eq_true b)
          refine rule lv t' h c m' x s1 s3 (kx _ List.mem_cons_self _ _ _ ⟨G.1, ⟨bm_i (rmeet_in hv (efg_in G.2.2.2.2.2 lx G.2.2.1.2.1)) _, fun w ew => ⟨fun u => absurd u (by show ¬ 1000 + c = 1; omega), fun _ u => absurd u (by show ¬ 1000 + c < 1000; omega), fun _ => ⟨x, lx, ?_⟩⟩, m⟩, G.2.2⟩)
          cases ew
          show h_i h (1000 + c - 1000) x.toNatClampNeg = _
          rw [Nat.add_sub_cancel_left]
      · cases e
  · cases e
def x_ast (ws : List Nat) (o : Rg → Rg) (t n : Nat) : Fx := fun a => match a.2.1 with
  | .inl (rx, _, _) :: .inl (ri, s, _) :: .inr (c + 10) :: st => bif ash t c ri && inw ws c 999 && !Nat.beq c 0 && !jr c then (match tfa c with | some r => bif rsub (o rx) r then some [(n, a.1, st.map (kav kfl), ((kfh (fun q => Nat.beq q.1 c) c a.2.2).1, (bif Nat.beq s.1 1 then [((c, s.2), o rx)] else []) ++ (kfh (fun q => Nat.beq q.1 c) c a.2.2).2.1, (kfh (fun q => Nat.beq q.1 c) c a.2.2).2.2))] else none | none => none) else none
  | _ => none
theorem sm3 {g : Nat → Int} {h : Hp_} {lv : List (Nat × Value)} {st : List Value} {p q o : Av} {u : List Av} (m : sm g h lv st (p :: q :: o :: u)) : ∃ v w y t, st = v :: w :: y :: t ∧ bm g h v p ∧ (bm g h w q ∧ sl h lv w q) ∧ bm g h y o ∧ sm g h lv t u := by
  match st, m with
  | v :: w :: y :: t, m => exact ⟨v, w, y, t, rfl, m.1, ⟨m.2.2.1, m.2.2.2.1⟩, m.2.2.2.2.1, m.2.2.2.2.2.2⟩
theorem sd_ast {f : Int32 → Int32} {o : Rg → Rg} {t n : Nat} (ok : unok f o) (rule : ∀ lv st h a m i x, h_sh h a = some (t, m) → vp_in i m → AW M 0 0 n lv st (h_im h a i.toNatClampNeg (f x)) K → AW M 0 0 pc lv (.int x :: .int i :: .ref a :: st) h K) : Sd ws h0 M K pc (x_ast ws o t n) := by
  intro g a out e lv st h G kx
  obtain ⟨la, sa, hf⟩ := a
  unfold x_ast at e
  split at e
  · rename_i rx s1 g1 ri s2 g2 c sa' q
    have q : sa = .inl (rx, s1, g1) :: .inl (ri, s2, g2) :: .inr (c + 10) :: sa' := q
    subst q
    cases z : ash t c ri && inw ws c 999 && !Nat.beq c 0 && !jr c with
    | false => rw [z] at e; cases e
    | true =>
      rw [z] at e
      have e : (match tfa c with | some r => bif rsub (o rx) r then some [(n, la, sa'.map (kav kfl), ((kfh (fun q => Nat.beq q.1 c) c hf).1, (bif Nat.beq s2.1 1 then [((c, s2.2), o rx)] else []) ++ (kfh (fun q => Nat.beq q.1 c) c hf).2.1, (kfh (fun q => Nat.beq q.1 c) c hf).2.2))] else none | none => none) = some out := e
      split at e
      · rename_i r y
        cases z6 : rsub (o rx) r with
        | false => rw [z6] at e; cases e
        | true =>
          rw [z6] at e
          have e := (Option.some.inj e).symm
          subst e
          simp only [Bool.and_eq_true] at z
          obtain ⟨⟨⟨z1, z2⟩, z3⟩, z4⟩ := z
          rw [Bool.not_eq_true'] at z4
          obtain ⟨v, w, u, t', es, ⟨x, ex, hx, _⟩, ⟨⟨i, ei, hi, _⟩, li⟩, ev, m⟩ := sm3 G.2.1
          have ev : u = .ref c := ev
          subst es ev ex ei
          obtain ⟨m', y1, y2⟩ := ash_in G.2.2.2.1.1 z1 hi
          have c0 : c ≠ 0 := fun y => by rw [y] at z3; exact absurd z3 (by decide)
          refine rule lv t' h c m' i x y1 y2 (kx _ List.mem_cons_self _ _ _ ?_)
          have G' := Gm.im (ws := ws) (h0 := h0) (la := la) (sa := sa') (hf := hf) (a := c) (k := i.toNatClampNeg) (x := f x) (p := fun q => Nat.beq q.1 c) ⟨G.1, m, G.2.2⟩ (by rw [tfa_tf y]; exact rsub_in z6 (ok x rx hx)) (jw_jr c0 z4 _) (inw_row z2 _) (fun q hq y => by
            rw [y.1, Nat.beq_refl] at hq
            cases hq)
          refine ⟨G'.1, G'.2.1, ⟨G'.2.2.1.1, fun q hq => ?_, G'.2.2.1.2.2⟩, G'.2.2.2⟩
          rcases List.mem_append.mp hq with y | y
          · cases b : Nat.beq s2.1 1 with
            | false => rw [b] at y; cases y
            | true =>
              rw [b] at y
              have y := mem1 y
              have lx := (li i rfl).1 (Nat.eq_of_beq_eq_true b)
              rw [y]
              refine ⟨i, lx, ?_⟩
              show rin (h_i (h_im h c i.toNatClampNeg (f x)) c i.toNatClampNeg).toInt (o rx)
              rw [h_i_im, if_pos ⟨rfl, rfl⟩]
              exact ok x rx hx
          · exact G'.2.2.1.2.1 q y
      · cases e
  · cases e
theorem ok_id : unok (fun x => x) id := fun _ _ h => h
def x_lald (n : Nat) : Fx := fun a => match a.2.1 with
  | .inl (ri, _, _) :: .inr (c + 10) :: st => bif ash 3 c ri then some [(n, a.1, .inr 0 :: st, a.2.2)] else none
  | _ => none
theorem sd_lald {n : Nat} (rule : ∀ lv st h a m i, h_sh h a = some (3, m) → vp_in i m → AW M 0 0 n lv (.long (h_l h a i.toNatClampNeg) :: st) h K → AW M 0 0 pc lv (.int i :: .ref a :: st) h K) : Sd ws h0 M K pc (x_lald n) := by
  intro g a out e lv st h G kx
  obtain ⟨la, sa, hf⟩ := a
  unfold x_lald at e
  split at e
  · rename_i ri s2 ga c sa' q
    have q : sa = .inl (ri, s2, ga) :: .inr (c + 10) :: sa' := q
    subst q
    cases z : ash 3 c ri with
    | false => rw [z] at e; cases e
    | true =>
      rw [z] at e
      have e := (Option.some.inj e).symm
      subst e
      obtain ⟨v, w, t', es, ⟨x, ex, hx, _⟩, _, ev, _, m⟩ := sm2 G.2.1
      have ev : w = .ref c := ev
      subst es ev ex
      obtain ⟨m', s1, s2⟩ := ash_in G.2.2.2.1.1 z hx
      exact rule lv t' h c m' x s1 s2 (kx _ List.mem_cons_self _ _ _ ⟨G.1, ⟨⟨_, rfl⟩, trivial, m⟩, G.2.2⟩)
  · cases e
def x_last (ws : List Nat) (n : Nat) : Fx := fun a => match a.2.1 with
  | .inr 0 :: .inl (ri, _, _) :: .inr (c + 10) :: st => bif ash 3 c ri && inw ws c 999 then some [(n, a.1, st, a.2.2)] else none
  | _ => none
theorem sd_last {n : Nat} (rule : ∀ lv st h a m i x, h_sh h a = some (3, m) → vp_in i m → AW M 0 0 n lv st (h_lm h a i.toNatClampNeg x) K → AW M 0 0 pc lv (.long x :: .int i :: .ref a :: st) h K) : Sd ws h0 M K pc (x_last ws n) := by
  intro g a out e lv st h G kx
  obtain ⟨la, sa, hf⟩ := a
  unfold x_last at e
  split at e
  · rename_i ri s2 g2 c sa' q
    have q : sa = .inr 0 :: .inl (ri, s2, g2) :: .inr (c + 10) :: sa' := q
    subst q
    cases z : ash 3 c ri && inw ws c 999 with
    | false => rw [z] at e; cases e
    | true =>
      rw [z] at e
      have e := (Option.some.inj e).symm
      subst e
      rw [Bool.and_eq_true] at z
      obtain ⟨v, w, u, t', es, ⟨x, ex⟩, ⟨⟨i, ei, hi, _⟩, _⟩, ev, m⟩ := sm3 G.2.1
      have ev : u = .ref c := ev
      subst es ev ex ei
      obtain ⟨m', y1, y2⟩ := ash_in G.2.2.2.1.1 z.1 hi
      exact rule lv t' h c m' i x y1 y2 (kx _ List.mem_cons_self _ _ _ (Gm.ls ⟨G.1, m, G.2.2⟩ (inw_row z.2 _)))
  · cases e
/-- the men's row -/
def x_aald (n : Nat) : Fx := fun a => match a.2.1 with
  | .inl (ri, _, _) :: .inr 25 :: st => bif ash 4 15 ri then some [(n, a.1, .inr 2 :: st, a.2.2)] else none
  | _ => none
theorem sd_aald {n : Nat} (rr : ∀ lv st h a m i b, h_sh h a = some (4, m) → vp_in i m → h_r h a i.toNatClampNeg = some b → AW M 0 0 n lv (.ref b :: st) h K → AW M 0 0 pc lv (.int i :: .ref a :: st) h K) (rn : ∀ lv st h a m i, h_sh h a = some (4, m) → vp_in i m → h_r h a i.toNatClampNeg = none → AW M 0 0 n lv (.null :: st) h K → AW M 0 0 pc lv (.int i :: .ref a :: st) h K) : Sd ws h0 M K pc (x_aald n) := by
  intro g a out e lv st h G kx
  obtain ⟨la, sa, hf⟩ := a
  unfold x_aald at e
  split at e
  · rename_i ri s2 ga sa' q
    have q : sa = .inl (ri, s2, ga) :: .inr 25 :: sa' := q
    subst q
    cases z : ash 4 15 ri with
    | false => rw [z] at e; cases e
    | true =>
      rw [z] at e
      have e := (Option.some.inj e).symm
      subst e
      obtain ⟨v, w, t', es, ⟨x, ex, hx, _⟩, _, ev, _, m⟩ := sm2 G.2.1
      have ev : w = .ref 15 := ev
      subst es ev ex
      obtain ⟨m', s1, s2⟩ := ash_in G.2.2.2.1.1 z hx
      rcases G.2.2.2.1.2.2.1 x.toNatClampNeg with y | ⟨c, y, hc⟩
      · exact rn lv t' h 15 m' x s1 s2 y (kx _ List.mem_cons_self _ _ _ ⟨G.1, ⟨Or.inl rfl, trivial, m⟩, G.2.2⟩)
      · exact rr lv t' h 15 m' x c s1 s2 y (kx _ List.mem_cons_self _ _ _ ⟨G.1, ⟨Or.inr ⟨c, rfl, hc⟩, trivial, m⟩, G.2.2⟩)
  · cases e
def x_alen (n : Nat) : Fx := fun a => match a.2.1 with
  | .inr (c + 10) :: st => match shq c with
    | some p => bif Nat.ble p.1 4 && Nat.ble p.2 2000000 then some [(n, a.1, avi (p.2, p.2) :: st, a.2.2)] else none
    | none => none
  | _ => none
theorem sd_alen {n : Nat} (rule : ∀ lv st h a t m v, h_sh h a = some (t, m) → t < 5 → Int32.ofNat m = v → AW M 0 0 n lv (.int v :: st) h K → AW M 0 0 pc lv (.ref a :: st) h K) : Sd ws h0 M K pc (x_alen n) := by
  intro g a out e lv st h G kx
  obtain ⟨la, sa, hf⟩ := a
  unfold x_alen at e
  split at e
  · rename_i c sa' q
    have q : sa = .inr (c + 10) :: sa' := q
    subst q
    split at e
    · rename_i p y
      cases z : Nat.ble p.1 4 && Nat.ble p.2 2000000 with
      | false => rw [z] at e; cases e
      | true =>
        rw [z] at e
        have e := (Option.some.inj e).symm
        subst e
        rw [Bool.and_eq_true, Nat.ble_eq, Nat.ble_eq] at z
        obtain ⟨v, t', es, ev, _, m⟩ := sm1 G.2.1
        have ev : v = .ref c := ev
        subst es ev
        have s := G.2.2.2.1.1.1 (c, p) (lk_mem y)
        have ei : (Int32.ofNat p.2).toInt = (p.2 : Int) := Int32.toInt_ofNat_of_lt (by omega)
        exact rule lv t' h c p.1 p.2 _ s (by omega) rfl (kx _ List.mem_cons_self _ _ _ ⟨G.1, ⟨bm_i (by rw [ei]; exact ⟨Int.le_refl _, Int.le_refl _⟩) _, sl_0, m⟩, G.2.2⟩)
    · cases e
  · cases e
end SDV
