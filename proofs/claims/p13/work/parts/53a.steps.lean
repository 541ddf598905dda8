/-! the steps -/
section SDS
variable {ws : List Nat} {h0 : Hp_} {M : Mc_} {K : Option Value → Hp_ → Prop} {pc : Nat}
theorem mem1 {α : Type} {x y : α} (h : x ∈ [y]) : x = y := List.mem_singleton.mp h
def avi (r : Rg) : Av := .inl (r, (0, 0), none)
theorem bm_i {g : Nat → Int} {h : Hp_} {x : Int32} {r : Rg} (hx : rin x.toInt r) (s : Nat × Nat) : bm g h (.int x) (.inl (r, s, none)) := ⟨x, rfl, hx, fun _ e => (nomatch e)⟩
theorem sl_0 {h : Hp_} {lv : List (Nat × Value)} {v : Value} {r : Rg} {gh : Option (Nat × Int)} : sl h lv v (.inl (r, (0, 0), gh)) := fun _ _ => lnk_0
theorem Gm.push {g : Nat → Int} {a : Ab} {lv : List (Nat × Value)} {st : List Value} {h : Hp_} {v : Value} {av : Av} (G : Gm g ws h0 a lv st h) (b : bm g h v av) (l : sl h lv v av) : Gm g ws h0 (a.1, av :: a.2.1, a.2.2) lv (v :: st) h := ⟨G.1, ⟨b, l, G.2.1⟩, G.2.2⟩
def x_push (r : Rg) (n : Nat) : Fx := fun a => some [(n, a.1, avi r :: a.2.1, a.2.2)]
theorem sd_push {r : Rg} {n : Nat} (x : Int32) (hx : rin x.toInt r) (rule : ∀ lv st h, AW M 0 0 n lv (.int x :: st) h K → AW M 0 0 pc lv st h K) : Sd ws h0 M K pc (x_push r n) := by
  intro g a out e lv st h G k
  have e := (Option.some.inj e).symm
  subst e
  exact rule lv st h (k _ List.mem_cons_self _ _ _ (G.push (bm_i hx _) sl_0))
def x_pushR (c : Nat) (n : Nat) : Fx := fun a => some [(n, a.1, .inr c :: a.2.1, a.2.2)]
theorem sd_pushR {c n : Nat} (v : Value) (hv : ∀ h, rm_ h v c) (rule : ∀ lv st h, AW M 0 0 n lv (v :: st) h K → AW M 0 0 pc lv st h K) : Sd ws h0 M K pc (x_pushR c n) := by
  intro g a out e lv st h G k
  have e := (Option.some.inj e).symm
  subst e
  exact rule lv st h (k _ List.mem_cons_self _ _ _ (G.push (hv h) trivial))
def x_iload (i n : Nat) : Fx := fun a => match lk i a.1 with
  | some (.inl (r, _, gh)) => some [(n, a.1, .inl (r, (1, i), gh) :: a.2.1, a.2.2)]
  | _ => none
theorem sd_iload {i n : Nat} (rule : ∀ (lv : List (Nat × Value)) st h (j : Nat) x, lv[j]? = some (i, Value.int x) → AW M 0 0 n lv (.int x :: st) h K → AW M 0 0 pc lv st h K) : Sd ws h0 M K pc (x_iload i n) := by
  intro g a out e lv st h G k
  unfold x_iload at e
  split at e
  · rename_i r s gh q
    have e := (Option.some.inj e).symm
    subst e
    obtain ⟨j, v, hj, x, ev, hx, hg⟩ := lm_lk G.1 q
    subst ev
    exact rule lv st h j x hj (k _ List.mem_cons_self _ _ _ (G.push (av := .inl (r, (1, i), gh)) ⟨x, rfl, hx, hg⟩ (fun y ey => ⟨fun _ => by cases ey; exact List.mem_of_getElem? hj, fun z => absurd z (by show ¬ 2 ≤ 1; decide), fun z => absurd z (by show ¬ 1000 ≤ 1; decide)⟩)))
  · cases e
def x_lload (i n : Nat) : Fx := fun a => match lk i a.1 with
  | some (.inr 0) => some [(n, a.1, .inr 0 :: a.2.1, a.2.2)]
  | _ => none
theorem sd_lload {i n : Nat} (rule : ∀ (lv : List (Nat × Value)) st h (j : Nat) x, lv[j]? = some (i, Value.long x) → AW M 0 0 n lv (.long x :: st) h K → AW M 0 0 pc lv st h K) : Sd ws h0 M K pc (x_lload i n) := by
  intro g a out e lv st h G k
  unfold x_lload at e
  split at e
  · rename_i q
    have e := (Option.some.inj e).symm
    subst e
    obtain ⟨j, v, hj, x, ev⟩ := lm_lk G.1 q
    subst ev
    exact rule lv st h j x hj (k _ List.mem_cons_self _ _ _ (G.push (av := .inr 0) ⟨x, rfl⟩ trivial))
  · cases e
/-- a null or a constable at place i, told apart -/
def x_aload (i n : Nat) : Fx := fun a => match lk i a.1 with
  | some (.inr 1) => some [(n, a.1, .inr 1 :: a.2.1, a.2.2)]
  | some (.inr 2) => some [(n, la_put i (.inr 1) a.1, .inr 1 :: a.2.1, a.2.2), (n, la_put i (.inr 3) a.1, .inr 3 :: a.2.1, a.2.2)]
  | some (.inr 3) => some [(n, a.1, .inr 3 :: a.2.1, a.2.2)]
  | some (.inr 4) => some [(n, a.1, .inr 4 :: a.2.1, a.2.2)]
  | some (.inr (c + 10)) => some [(n, a.1, .inr (c + 10) :: a.2.1, a.2.2)]
  | _ => none
theorem lm_put_at {g : Nat → Int} {h : Hp_} {i j : Nat} {v : Value} {a : Av} (b : bm g h v a) : ∀ {lv : List (Nat × Value)} {la : List (Nat × Av)}, lv_rise lv = true → lm g h lv la → (i, v) ∈ lv → lm g h lv (la_put i a la)
  | [], [], _, _, hi => (nomatch hi)
  | q :: t, p :: u, r, m, hi => by
    have r := rise_mem r
    unfold la_put
    cases c : Nat.beq p.1 i with
    | true =>
      have e := Nat.eq_of_beq_eq_true c
      rcases List.mem_cons.mp hi with z | z
      · exact ⟨by rw [← z], by rw [← z]; exact b, m.2.2⟩
      · have := r.1 _ z
        have w := m.1
        have this : q.1 < i := this
        omega
    | false =>
      have ne : ¬ p.1 = i := fun z => by rw [z, Nat.beq_refl] at c; cases c
      rcases List.mem_cons.mp hi with z | z
      · exact absurd (by rw [← m.1, ← z]) ne
      · have l := r.1 _ z
        have l : q.1 < i := l
        have d : Nat.ble (i + 1) p.1 = false := by
          cases y : Nat.ble (i + 1) p.1 with
          | false => rfl
          | true => have := Nat.ble_eq.mp y; have := m.1; omega
        rw [d]
        exact ⟨m.1, m.2.1, lm_put_at (j := j) b r.2 m.2.2 z⟩
  | [], _ :: _, _, m, _ => m.elim
  | _ :: _, [], _, m, _ => m.elim
theorem sd_aload {i n : Nat} (rr : ∀ (lv : List (Nat × Value)) st h (j : Nat) x, lv[j]? = some (i, Value.ref x) → AW M 0 0 n lv (.ref x :: st) h K → AW M 0 0 pc lv st h K) (rn : ∀ (lv : List (Nat × Value)) st h (j : Nat), lv[j]? = some (i, Value.null) → AW M 0 0 n lv (.null :: st) h K → AW M 0 0 pc lv st h K) : Sd ws h0 M K pc (x_aload i n) := by
  intro g a out e lv st h G k
  unfold x_aload at e
  split at e
  · rename_i q
    have e := (Option.some.inj e).symm
    subst e
    obtain ⟨j, v, hj, ev⟩ := lm_lk G.1 q
    have ev : v = .null := ev
    subst ev
    exact rn lv st h j hj (k _ List.mem_cons_self _ _ _ (G.push (av := .inr 1) rfl trivial))
  · rename_i q
    have e := (Option.some.inj e).symm
    subst e
    obtain ⟨j, v, hj, ev⟩ := lm_lk G.1 q
    have ev : v = .null ∨ ∃ c, v = .ref c ∧ Cn h c := ev
    rcases ev with ev | ⟨c, ev, hc⟩
    · subst ev
      exact rn lv st h j hj (k _ List.mem_cons_self _ _ _ ⟨lm_put_at (j := 0) (a := .inr 1) rfl G.2.2.2.2.2 G.1 (List.mem_of_getElem? hj), ⟨rfl, trivial, G.2.1⟩, G.2.2⟩)
    · subst ev
      exact rr lv st h j c hj (k _ (List.mem_cons_of_mem _ List.mem_cons_self) _ _ _ ⟨lm_put_at (j := 0) (a := .inr 3) ⟨c, rfl, hc⟩ G.2.2.2.2.2 G.1 (List.mem_of_getElem? hj), ⟨⟨c, rfl, hc⟩, trivial, G.2.1⟩, G.2.2⟩)
  · rename_i q
    have e := (Option.some.inj e).symm
    subst e
    obtain ⟨j, v, hj, c, ev, hc⟩ := lm_lk G.1 q
    subst ev
    exact rr lv st h j c hj (k _ List.mem_cons_self _ _ _ (G.push (av := .inr 3) ⟨c, rfl, hc⟩ trivial))
  · rename_i q
    have e := (Option.some.inj e).symm
    subst e
    obtain ⟨j, v, hj, c, hc, ev⟩ := lm_lk G.1 q
    subst ev
    exact rr lv st h j _ hj (k _ List.mem_cons_self _ _ _ (G.push (av := .inr 4) ⟨c, hc, rfl⟩ trivial))
  · rename_i c q
    have e := (Option.some.inj e).symm
    subst e
    obtain ⟨j, v, hj, ev⟩ := lm_lk G.1 q
    have ev : v = .ref c := ev
    subst ev
    exact rr lv st h j c hj (k _ List.mem_cons_self _ _ _ (G.push (av := .inr (c + 10)) rfl trivial))
  · cases e
/-- which locals stay at a store of width w to place i -/
def ff (i w key cat : Nat) : Bool := !(Nat.beq (key + 1) i && Nat.beq cat 2) && !(Nat.beq w 2 && Nat.beq key (i + 1))
def ksl (i : Nat) (s : Nat × Nat) : Bool := (Nat.beq s.1 1 || Nat.ble 1000 s.1) && (Nat.beq s.2 i || Nat.beq s.2 (i + 1) || Nat.beq (s.2 + 1) i)
def plain (a : Av) : Av := match a with
  | .inl (r, _, gh) => .inl (r, (0, 0), gh)
  | .inr n => .inr n
theorem bm_plain {g : Nat → Int} {h : Hp_} {v : Value} {a : Av} (m : bm g h v a) : bm g h v (plain a) := by
  unfold plain
  split <;> exact m
theorem lm_fil {g : Nat → Int} {h : Hp_} {f : Nat → Nat → Bool} : ∀ {lv : List (Nat × Value)} {la : List (Nat × Av)}, lm g h lv la → lm g h (lv.filter (fun q => f q.1 q.2.category)) (la.filter (fun p => f p.1 (ac p.2)))
  | [], [], _ => trivial
  | q :: t, p :: u, m => by
    have c := ac_cat m.2.1
    have d : f q.1 q.2.category = f p.1 (ac p.2) := by rw [c, m.1]
    cases z : f p.1 (ac p.2) with
    | true => rw [List.filter_cons_of_pos (by rw [d, z]), List.filter_cons_of_pos (p := fun p : Nat × Av => f p.1 (ac p.2)) z]; exact ⟨m.1, m.2.1, lm_fil m.2.2⟩
    | false => rw [List.filter_cons_of_neg (by rw [d, z]; decide), List.filter_cons_of_neg (p := fun p : Nat × Av => f p.1 (ac p.2)) (by rw [z]; decide)]; exact lm_fil m.2.2
  | [], _ :: _, m => m.elim
  | _ :: _, [], m => m.elim
theorem rise_fil {f : Nat × Value → Bool} : ∀ {lv : List (Nat × Value)}, lv_rise lv = true → lv_rise (lv.filter f) = true
  | [], _ => rfl
  | q :: t, r => by
    have r := rise_mem r
    cases z : f q with
    | true =>
      rw [List.filter_cons_of_pos z]
      simp only [lv_rise, Bool.and_eq_true, List.all_eq_true, decide_eq_true_eq]
      exact ⟨fun p hp => r.1 p (List.mem_filter.mp hp).1, rise_fil r.2⟩
    | false => rw [List.filter_cons_of_neg (by rw [z]; decide)]; exact rise_fil r.2
theorem put_keeps {i : Nat} {v : Value} {q : Nat × Value} (hq : q.1 ≠ i) : ∀ {lv : List (Nat × Value)}, q ∈ lv → q ∈ lv_put i v lv
  | p :: t, h => by
    unfold lv_put
    by_cases c : p.1 = i
    · rw [if_pos c]
      rcases List.mem_cons.mp h with z | z
      · exact absurd (by rw [z]; exact c) hq
      · exact List.mem_cons_of_mem _ z
    · rw [if_neg c]
      by_cases d : i < p.1
      · rw [if_pos d]; exact List.mem_cons_of_mem _ h
      · rw [if_neg d]
        rcases List.mem_cons.mp h with z | z
        · rw [z]; exact List.mem_cons_self
        · exact List.mem_cons_of_mem _ (put_keeps hq z)
theorem beq_nat (a b : Nat) : (a == b) = Nat.beq a b := by rw [Bool.eq_iff_iff, beq_iff_eq, Nat.beq_eq]
theorem fit_fil {i w : Nat} {lv : List (Nat × Value)} : lv_fit i (lv.filter (fun q => ff i w q.1 q.2.category)) = true := by
  unfold lv_fit
  rw [List.all_eq_true]
  intro q hq
  have z := (List.mem_filter.mp hq).2
  simp only [ff, Bool.and_eq_true, Bool.not_eq_true'] at z
  rw [Bool.not_eq_true', beq_nat, beq_nat]
  exact z.1
theorem fit2_fil {i : Nat} {lv : List (Nat × Value)} : (lv.filter (fun q => ff i 2 q.1 q.2.category)).all (fun q => !(q.1 == i + 1)) = true := by
  rw [List.all_eq_true]
  intro q hq
  have z := (List.mem_filter.mp hq).2
  simp only [ff, Bool.and_eq_true, Bool.not_eq_true'] at z
  rw [Bool.not_eq_true', beq_nat]
  exact z.2
/-- elements whose place is told anew -/
def kef (i : Nat) (l : Hx) : Hx := (l.1, l.2.1.filter (fun q => !(Nat.beq q.1.2 i || Nat.beq q.1.2 (i + 1) || Nat.beq (q.1.2 + 1) i)), l.2.2)
theorem put_fil {i w j : Nat} {v : Value} {x : Int32} {lv : List (Nat × Value)} (hs : (Nat.beq j i || Nat.beq j (i + 1) || Nat.beq (j + 1) i) = false) (hm : (j, Value.int x) ∈ lv) : (j, Value.int x) ∈ lv_put i v (lv.filter (fun q => ff i w q.1 q.2.category)) := by
  rw [Bool.or_eq_false_iff, Bool.or_eq_false_iff] at hs
  have n1 : j ≠ i := fun z => by rw [z, Nat.beq_refl] at hs; exact Bool.noConfusion hs.1.1
  refine put_keeps n1 (List.mem_filter.mpr ⟨hm, ?_⟩)
  show ff i w j 1 = true
  unfold ff
  rw [hs.2, hs.1.2, Bool.and_false]
  rfl
/-- the state behind a store to the frame -/
theorem Gm.put {g : Nat → Int} {la : List (Nat × Av)} {sa : List Av} {hf : Hx} {lv : List (Nat × Value)} {st : List Value} {h : Hp_} {v : Value} {av : Av} {i w : Nat} (G : Gm g ws h0 (la, sa, hf) lv st h) (b : bm g h v av) :
    Gm g ws h0 (la_put i (plain av) (la.filter (fun p => ff i w p.1 (ac p.2))), sa.map (kav (ksl i)), kef i hf) (lv_put i v (lv.filter (fun q => ff i w q.1 q.2.category))) st h := by
  refine ⟨lm_put (bm_plain b) (lm_fil G.1), sm_kav rfl ?_ G.2.1, ⟨G.2.2.1.1, ?_, G.2.2.1.2.2⟩, G.2.2.2.1, G.2.2.2.2.1, rise_put (rise_fil G.2.2.2.2.2)⟩
  · intro s x hs l
    unfold ksl at hs
    refine ⟨fun z => ?_, l.2.1, fun z => ?_⟩
    · rw [z] at hs
      exact put_fil hs (l.1 z)
    · rw [Nat.ble_eq.mpr z, Bool.or_true] at hs
      obtain ⟨k, m1, m2⟩ := l.2.2 z
      exact ⟨k, put_fil hs m1, m2⟩
  · intro q hq
    have z := List.mem_filter.mp hq
    have z2 := z.2
    rw [Bool.not_eq_true'] at z2
    obtain ⟨k, m1, m2⟩ := G.2.2.1.2.1 q z.1
    exact ⟨k, put_fil z2 m1, m2⟩
def stp (i n : Nat) (av : Av) (la : List (Nat × Av)) (st : List Av) (hf : Hx) : Option (List (Nat × Ab)) := some [(n, la_put i (plain av) (la.filter (fun p => ff i (ac av) p.1 (ac p.2))), st.map (kav (ksl i)), kef i hf)]
def x_istore (i n : Nat) : Fx := fun a => match a.2.1 with
  | .inl p :: st => stp i n (.inl p) a.1 st a.2.2
  | _ => none
def x_lstore (i n : Nat) : Fx := fun a => match a.2.1 with
  | .inr 0 :: st => stp i n (.inr 0) a.1 st a.2.2
  | _ => none
def x_astore (i n : Nat) : Fx := fun a => match a.2.1 with
  | .inr (c + 1) :: st => stp i n (.inr (c + 1)) a.1 st a.2.2
  | _ => none
theorem aw_fil {n : Nat} {lv : List (Nat × Value)} {st : List Value} {h : Hp_} (f : Nat × Value → Bool) (k : AW M 0 0 n (lv.filter f) st h K) : AW M 0 0 n lv st h K := aw_lv (lv.filter f) (fun q hq => (List.mem_filter.mp hq).1) k
theorem sd_istore {i n : Nat} (rule : ∀ lv st h x, (lv_rise lv && lv_fit i lv) = true → AW M 0 0 n (lv_put i (.int x) lv) st h K → AW M 0 0 pc lv (.int x :: st) h K) : Sd ws h0 M K pc (x_istore i n) := by
  intro g a out e lv st h G k
  obtain ⟨la, sa, hf⟩ := a
  unfold x_istore at e
  split at e
  · rename_i p sa' q
    have q : sa = .inl p :: sa' := q
    subst q
    have e := (Option.some.inj e).symm
    subst e
    cases st with
    | nil => exact G.2.1.elim
    | cons v st =>
      have b := G.2.1.1
      obtain ⟨x, ev, _⟩ := b
      subst ev
      refine aw_fil (fun q => ff i 1 q.1 q.2.category) (rule _ st h x (by rw [rise_fil G.2.2.2.2.2, fit_fil]; rfl) (k _ List.mem_cons_self _ _ _ ?_))
      exact Gm.put (w := 1) ⟨G.1, G.2.1.2.2, G.2.2⟩ G.2.1.1
  · cases e
theorem sd_lstore {i n : Nat} (rule : ∀ lv st h x, (lv_rise lv && lv_fit i lv && lv.all (fun q => !(q.1 == i + 1))) = true → AW M 0 0 n (lv_put i (.long x) lv) st h K → AW M 0 0 pc lv (.long x :: st) h K) : Sd ws h0 M K pc (x_lstore i n) := by
  intro g a out e lv st h G k
  obtain ⟨la, sa, hf⟩ := a
  unfold x_lstore at e
  split at e
  · rename_i sa' q
    have q : sa = .inr 0 :: sa' := q
    subst q
    have e := (Option.some.inj e).symm
    subst e
    cases st with
    | nil => exact G.2.1.elim
    | cons v st =>
      have b := G.2.1.1
      obtain ⟨x, ev⟩ := b
      subst ev
      refine aw_fil (fun q => ff i 2 q.1 q.2.category) (rule _ st h x (by rw [rise_fil G.2.2.2.2.2, fit_fil, fit2_fil]; rfl) (k _ List.mem_cons_self _ _ _ ?_))
      exact Gm.put (w := 2) ⟨G.1, G.2.1.2.2, G.2.2⟩ G.2.1.1
  · cases e
theorem rm_ref {h : Hp_} {v : Value} {c : Nat} (m : rm_ h v (c + 1)) : v = .null ∨ ∃ x, v = .ref x := by
  unfold rm_ at m
  split at m
  · rename_i z; cases z
  · exact Or.inl m
  · exact m.imp id (fun ⟨x, e, _⟩ => ⟨x, e⟩)
  · obtain ⟨x, e, _⟩ := m; exact Or.inr ⟨x, e⟩
  · obtain ⟨x, _, e⟩ := m; exact Or.inr ⟨_, e⟩
  · exact Or.inr ⟨_, m⟩
  · exact m.elim
theorem sd_astore {i n : Nat} (rr : ∀ lv st h x, (lv_rise lv && lv_fit i lv) = true → AW M 0 0 n (lv_put i (.ref x) lv) st h K → AW M 0 0 pc lv (.ref x :: st) h K) (rn : ∀ lv st h, (lv_rise lv && lv_fit i lv) = true → AW M 0 0 n (lv_put i .null lv) st h K → AW M 0 0 pc lv (.null :: st) h K) : Sd ws h0 M K pc (x_astore i n) := by
  intro g a out e lv st h G k
  obtain ⟨la, sa, hf⟩ := a
  unfold x_astore at e
  split at e
  · rename_i c sa' q
    have q : sa = .inr (c + 1) :: sa' := q
    subst q
    have e := (Option.some.inj e).symm
    subst e
    cases st with
    | nil => exact G.2.1.elim
    | cons v st =>
      have G' := Gm.put (ws := ws) (h0 := h0) (la := la) (sa := sa') (i := i) (w := 1) (hf := hf) ⟨G.1, G.2.1.2.2, G.2.2⟩ G.2.1.1
      have k' := k _ List.mem_cons_self
      have w1 : ac (.inr (c + 1)) = 1 := rfl
      rw [w1] at k'
      rcases rm_ref G.2.1.1 with ev | ⟨x, ev⟩
      · subst ev
        exact aw_fil (fun q => ff i 1 q.1 q.2.category) (rn _ st h (by rw [rise_fil G.2.2.2.2.2, fit_fil]; rfl) (k' _ _ _ G'))
      · subst ev
        exact aw_fil (fun q => ff i 1 q.1 q.2.category) (rr _ st h x (by rw [rise_fil G.2.2.2.2.2, fit_fil]; rfl) (k' _ _ _ G'))
  · cases e
end SDS
