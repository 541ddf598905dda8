section SDT
variable {ws : List Nat} {h0 : Hp_} {M : Mc_} {K : Option Value → Hp_ → Prop} {pc : Nat}
def x_iinc (i : Nat) (c : Int) (n : Nat) : Fx := fun a => match lk i a.1 with
  | some (.inl (r, _, gh)) => bif rok (r.1 + c, r.2 + c) then stp i n (.inl ((r.1 + c, r.2 + c), (0, 0), gh.map (fun q => (q.1, q.2 + c)))) a.1 a.2.1 a.2.2 else stp i n (avi rtop) a.1 a.2.1 a.2.2
  | _ => none
theorem sd_iinc {i n : Nat} {c : Int} {w : Int} (hc : (Int32.ofInt w).toInt = c) (rule : ∀ (lv : List (Nat × Value)) st h x (j : Nat), lv[j]? = some (i, Value.int x) → (lv_rise lv && lv_fit i lv) = true → AW M 0 0 n (lv_put i (.int (x + Int32.ofInt w)) lv) st h K → AW M 0 0 pc lv st h K) : Sd ws h0 M K pc (x_iinc i c n) := by
  intro g a out e lv st h G k
  obtain ⟨la, sa, hf⟩ := a
  unfold x_iinc at e
  split at e
  · rename_i r s gh q
    obtain ⟨j, v, hj, x, ev, hx, hg⟩ := lm_lk G.1 q
    subst ev
    have mem := List.mem_of_getElem? hj
    have kx : ff i 1 i (Value.int x).category = true := by
      show ff i 1 i 1 = true
      unfold ff
      rw [show Nat.beq 1 2 = false from rfl, Bool.and_false]; rfl
    have mem' : (i, Value.int x) ∈ lv.filter (fun q => ff i 1 q.1 q.2.category) := List.mem_filter.mpr ⟨mem, kx⟩
    obtain ⟨j', hj'⟩ := List.getElem?_of_mem mem'
    cases z : rok (r.1 + c, r.2 + c) with
    | true =>
      rw [z] at e
      have e := (Option.some.inj e).symm
      subst e
      have z := rok_iff.mp z
      have ex : (x + Int32.ofInt w).toInt = x.toInt + c := by
        rw [Int32.toInt_add, hc]
        have := hx.1; have := hx.2
        have z1 : -2147483648 ≤ r.1 + c := z.1
        have z2 : r.2 + c ≤ 2147483647 := z.2
        exact Int.bmod_eq_of_le (by omega) (by omega)
      refine aw_fil (fun q => ff i 1 q.1 q.2.category) (rule _ st h x j' hj' (by rw [rise_fil G.2.2.2.2.2, fit_fil]; rfl) (k _ List.mem_cons_self _ _ _ ?_))
      refine Gm.put (w := 1) (av := .inl ((r.1 + c, r.2 + c), (0, 0), gh.map (fun q => (q.1, q.2 + c)))) G ⟨_, rfl, ?_, ?_⟩
      · rw [ex]; exact ⟨by have := hx.1; show r.1 + c ≤ _; omega, by have := hx.2; show _ ≤ r.2 + c; omega⟩
      · intro p hp
        cases gh with
        | none => cases hp
        | some o =>
          have hp : some (o.1, o.2 + c) = some p := hp
          have hp := Option.some.inj hp
          rw [← hp]
          exact gq_add (hg o rfl) ex
    | false =>
      rw [z] at e
      have e := (Option.some.inj e).symm
      subst e
      refine aw_fil (fun q => ff i 1 q.1 q.2.category) (rule _ st h x j' hj' (by rw [rise_fil G.2.2.2.2.2, fit_fil]; rfl) (k _ List.mem_cons_self _ _ _ ?_))
      exact Gm.put (w := 1) (av := avi rtop) G (bm_i (rtop_in _) _)
  · cases e
def x_bin (o : Rg → Rg → Rg) (n : Nat) : Fx := fun a => match a.2.1 with
  | .inl (rb, _, _) :: .inl (ra, _, _) :: st => some [(n, a.1, avi (o ra rb) :: st, a.2.2)]
  | _ => none
theorem sm2 {g : Nat → Int} {h : Hp_} {lv : List (Nat × Value)} {st : List Value} {p q : Av} {u : List Av} (m : sm g h lv st (p :: q :: u)) : ∃ v w t, st = v :: w :: t ∧ bm g h v p ∧ sl h lv v p ∧ bm g h w q ∧ sl h lv w q ∧ sm g h lv t u := by
  match st, m with
  | v :: w :: t, m => exact ⟨v, w, t, rfl, m.1, m.2.1, m.2.2.1, m.2.2.2.1, m.2.2.2.2⟩
theorem sm1 {g : Nat → Int} {h : Hp_} {lv : List (Nat × Value)} {st : List Value} {p : Av} {u : List Av} (m : sm g h lv st (p :: u)) : ∃ v t, st = v :: t ∧ bm g h v p ∧ sl h lv v p ∧ sm g h lv t u := by
  match st, m with
  | v :: t, m => exact ⟨v, t, rfl, m.1, m.2.1, m.2.2⟩
theorem sd_bin {f : Int32 → Int32 → Int32} {o : Rg → Rg → Rg} {n : Nat} (ok : opok f o) (rule : ∀ lv st h x y, AW M 0 0 n lv (.int (f x y) :: st) h K → AW M 0 0 pc lv (.int y :: .int x :: st) h K) : Sd ws h0 M K pc (x_bin o n) := by
  intro g a out e lv st h G k
  obtain ⟨la, sa, hf⟩ := a
  unfold x_bin at e
  split at e
  · rename_i rb sb gb ra s2 ga sa' q
    have q : sa = .inl (rb, sb, gb) :: .inl (ra, s2, ga) :: sa' := q
    subst q
    have e := (Option.some.inj e).symm
    subst e
    obtain ⟨v, w, t, es, ⟨y, ey, hy, _⟩, _, ⟨x, ex, hx, _⟩, _, m⟩ := sm2 G.2.1
    subst es ey ex
    exact rule lv t h x y (k _ List.mem_cons_self _ _ _ ⟨G.1, ⟨bm_i (ok x y ra rb hx hy) _, sl_0, m⟩, G.2.2⟩)
  · cases e
/-- a sum with a known number keeps how the other stands to the last stop -/
def x_add (n : Nat) : Fx := fun a => match a.2.1 with
  | .inl (rb, _, _) :: .inl (ra, _, ga) :: st => bif ile rb.1 rb.2 && ile rb.2 rb.1 && rok (ra.1 + rb.1, ra.2 + rb.2) then some [(n, a.1, .inl ((ra.1 + rb.1, ra.2 + rb.2), (0, 0), ga.map (fun q => (q.1, q.2 + rb.1))) :: st, a.2.2)] else some [(n, a.1, avi (o_add ra rb) :: st, a.2.2)]
  | _ => none
theorem sd_add {n : Nat} (rule : ∀ lv st h x y, AW M 0 0 n lv (.int (x + y) :: st) h K → AW M 0 0 pc lv (.int y :: .int x :: st) h K) : Sd ws h0 M K pc (x_add n) := by
  intro g a out e lv st h G k
  obtain ⟨la, sa, hf⟩ := a
  unfold x_add at e
  split at e
  · rename_i rb sb gb ra s2 ga sa' q
    have q : sa = .inl (rb, sb, gb) :: .inl (ra, s2, ga) :: sa' := q
    subst q
    obtain ⟨v, w, t, es, ⟨y, ey, hy, _⟩, _, ⟨x, ex, hx, hg⟩, _, m⟩ := sm2 G.2.1
    subst es ey ex
    cases z : ile rb.1 rb.2 && ile rb.2 rb.1 && rok (ra.1 + rb.1, ra.2 + rb.2) with
    | false =>
      rw [z] at e
      have e := (Option.some.inj e).symm
      subst e
      exact rule lv t h x y (k _ List.mem_cons_self _ _ _ ⟨G.1, ⟨bm_i (ok_add x y ra rb hx hy) _, sl_0, m⟩, G.2.2⟩)
    | true =>
      rw [z] at e
      have e := (Option.some.inj e).symm
      subst e
      rw [Bool.and_eq_true, Bool.and_eq_true, ile_iff, ile_iff, rok_iff] at z
      obtain ⟨⟨z1, z2⟩, z3, z4⟩ := z
      have x1 := hx.1
      have x2 := hx.2
      have y1 := hy.1
      have y2 := hy.2
      have z3 : -2147483648 ≤ ra.1 + rb.1 := z3
      have z4 : ra.2 + rb.2 ≤ 2147483647 := z4
      have ey : y.toInt = rb.1 := by omega
      have exy : (x + y).toInt = x.toInt + y.toInt := by
        rw [Int32.toInt_add, Int.bmod_eq_of_le (by omega) (by omega)]
      refine rule lv t h x y (k _ List.mem_cons_self _ _ _ ⟨G.1, ⟨⟨x + y, rfl, ?_, ?_⟩, sl_0, m⟩, G.2.2⟩)
      · exact ⟨by show ra.1 + rb.1 ≤ (x + y).toInt; omega, by show (x + y).toInt ≤ ra.2 + rb.2; omega⟩
      · intro p hp
        cases ga with
        | none => cases hp
        | some o =>
          have hp : some (o.1, o.2 + rb.1) = some p := hp
          have hp := Option.some.inj hp
          rw [← hp]
          exact gq_add (hg o rfl) (by rw [exy, ey])
  · cases e
def x_div (o : Rg → Rg → Rg) (n : Nat) : Fx := fun a => match a.2.1 with
  | .inl (rb, _, _) :: .inl (ra, _, _) :: st => bif ile 1 rb.1 || ile rb.2 (-1) then some [(n, a.1, avi (o ra rb) :: st, a.2.2)] else none
  | _ => none
theorem sd_div {f : Int32 → Int32 → Int32} {o : Rg → Rg → Rg} {n : Nat} (ok : opok f o) (rule : ∀ lv st h x y, ¬ y = 0 → AW M 0 0 n lv (.int (f x y) :: st) h K → AW M 0 0 pc lv (.int y :: .int x :: st) h K) : Sd ws h0 M K pc (x_div o n) := by
  intro g a out e lv st h G k
  obtain ⟨la, sa, hf⟩ := a
  unfold x_div at e
  split at e
  · rename_i rb sb gb ra s2 ga sa' q
    have q : sa = .inl (rb, sb, gb) :: .inl (ra, s2, ga) :: sa' := q
    subst q
    cases z : ile 1 rb.1 || ile rb.2 (-1) with
    | false => rw [z] at e; cases e
    | true =>
      rw [z] at e
      have e := (Option.some.inj e).symm
      subst e
      rw [Bool.or_eq_true, ile_iff, ile_iff] at z
      obtain ⟨v, w, t, es, ⟨y, ey, hy, _⟩, _, ⟨x, ex, hx, _⟩, _, m⟩ := sm2 G.2.1
      subst es ey ex
      have y0 : ¬ y = 0 := by
        intro c
        have c0 : y.toInt = 0 := by rw [c]; rfl
        have := hy.1; have := hy.2
        omega
      exact rule lv t h x y y0 (k _ List.mem_cons_self _ _ _ ⟨G.1, ⟨bm_i (ok x y ra rb hx hy) _, sl_0, m⟩, G.2.2⟩)
  · cases e
def x_un (o : Rg → Rg) (n : Nat) : Fx := fun a => match a.2.1 with
  | .inl (ra, _, _) :: st => some [(n, a.1, avi (o ra) :: st, a.2.2)]
  | _ => none
theorem sd_un {f : Int32 → Int32} {o : Rg → Rg} {n : Nat} (ok : unok f o) (rule : ∀ lv st h x, AW M 0 0 n lv (.int (f x) :: st) h K → AW M 0 0 pc lv (.int x :: st) h K) : Sd ws h0 M K pc (x_un o n) := by
  intro g a out e lv st h G k
  obtain ⟨la, sa, hf⟩ := a
  unfold x_un at e
  split at e
  · rename_i ra s2 ga sa' q
    have q : sa = .inl (ra, s2, ga) :: sa' := q
    subst q
    have e := (Option.some.inj e).symm
    subst e
    obtain ⟨w, t, es, ⟨x, ex, hx, _⟩, _, m⟩ := sm1 G.2.1
    subst es ex
    exact rule lv t h x (k _ List.mem_cons_self _ _ _ ⟨G.1, ⟨bm_i (ok x ra hx) _, sl_0, m⟩, G.2.2⟩)
  · cases e
/-- longs: two of them, one behind; a shift; to and from ints; compared -/
def x_lbin (n : Nat) : Fx := fun a => match a.2.1 with
  | .inr 0 :: .inr 0 :: st => some [(n, a.1, .inr 0 :: st, a.2.2)]
  | _ => none
theorem sd_lbin {f : Int64 → Int64 → Int64} {n : Nat} (rule : ∀ lv st h x y, AW M 0 0 n lv (.long (f x y) :: st) h K → AW M 0 0 pc lv (.long y :: .long x :: st) h K) : Sd ws h0 M K pc (x_lbin n) := by
  intro g a out e lv st h G k
  obtain ⟨la, sa, hf⟩ := a
  unfold x_lbin at e
  split at e
  · rename_i sa' q
    have q : sa = .inr 0 :: .inr 0 :: sa' := q
    subst q
    have e := (Option.some.inj e).symm
    subst e
    obtain ⟨v, w, t, es, ⟨y, ey⟩, _, ⟨x, ex⟩, _, m⟩ := sm2 G.2.1
    subst es ey ex
    exact rule lv t h x y (k _ List.mem_cons_self _ _ _ ⟨G.1, ⟨⟨_, rfl⟩, trivial, m⟩, G.2.2⟩)
  · cases e
def x_lsh (n : Nat) : Fx := fun a => match a.2.1 with
  | .inl _ :: .inr 0 :: st => some [(n, a.1, .inr 0 :: st, a.2.2)]
  | _ => none
theorem sd_lsh {f : Int64 → Int32 → Int64} {n : Nat} (rule : ∀ lv st h x y, AW M 0 0 n lv (.long (f x y) :: st) h K → AW M 0 0 pc lv (.int y :: .long x :: st) h K) : Sd ws h0 M K pc (x_lsh n) := by
  intro g a out e lv st h G k
  obtain ⟨la, sa, hf⟩ := a
  unfold x_lsh at e
  split at e
  · rename_i p sa' q
    have q : sa = .inl p :: .inr 0 :: sa' := q
    subst q
    have e := (Option.some.inj e).symm
    subst e
    obtain ⟨v, w, t, es, ⟨y, ey, _⟩, _, ⟨x, ex⟩, _, m⟩ := sm2 G.2.1
    subst es ey ex
    exact rule lv t h x y (k _ List.mem_cons_self _ _ _ ⟨G.1, ⟨⟨_, rfl⟩, trivial, m⟩, G.2.2⟩)
  · cases e
def x_lcmp (n : Nat) : Fx := fun a => match a.2.1 with
  | .inr 0 :: .inr 0 :: st => some [(n, a.1, avi rtop :: st, a.2.2)]
  | _ => none
theorem sd_lcmp {f : Int64 → Int64 → Int32} {n : Nat} (rule : ∀ lv st h x y, AW M 0 0 n lv (.int (f x y) :: st) h K → AW M 0 0 pc lv (.long y :: .long x :: st) h K) : Sd ws h0 M K pc (x_lcmp n) := by
  intro g a out e lv st h G k
  obtain ⟨la, sa, hf⟩ := a
  unfold x_lcmp at e
  split at e
  · rename_i sa' q
    have q : sa = .inr 0 :: .inr 0 :: sa' := q
    subst q
    have e := (Option.some.inj e).symm
    subst e
    obtain ⟨v, w, t, es, ⟨y, ey⟩, _, ⟨x, ex⟩, _, m⟩ := sm2 G.2.1
    subst es ey ex
    exact rule lv t h x y (k _ List.mem_cons_self _ _ _ ⟨G.1, ⟨bm_i (rtop_in _) _, sl_0, m⟩, G.2.2⟩)
  · cases e
def x_i2l (n : Nat) : Fx := fun a => match a.2.1 with
  | .inl _ :: st => some [(n, a.1, .inr 0 :: st, a.2.2)]
  | _ => none
theorem sd_i2l {f : Int32 → Int64} {n : Nat} (rule : ∀ lv st h x, AW M 0 0 n lv (.long (f x) :: st) h K → AW M 0 0 pc lv (.int x :: st) h K) : Sd ws h0 M K pc (x_i2l n) := by
  intro g a out e lv st h G k
  obtain ⟨la, sa, hf⟩ := a
  unfold x_i2l at e
  split at e
  · rename_i p sa' q
    have q : sa = .inl p :: sa' := q
    subst q
    have e := (Option.some.inj e).symm
    subst e
    obtain ⟨w, t, es, ⟨x, ex, _⟩, _, m⟩ := sm1 G.2.1
    subst es ex
    exact rule lv t h x (k _ List.mem_cons_self _ _ _ ⟨G.1, ⟨⟨_, rfl⟩, trivial, m⟩, G.2.2⟩)
  · cases e
def x_l2i (n : Nat) : Fx := fun a => match a.2.1 with
  | .inr 0 :: st => some [(n, a.1, avi rtop :: st, a.2.2)]
  | _ => none
theorem sd_l2i {f : Int64 → Int32} {n : Nat} (rule : ∀ lv st h x, AW M 0 0 n lv (.int (f x) :: st) h K → AW M 0 0 pc lv (.long x :: st) h K) : Sd ws h0 M K pc (x_l2i n) := by
  intro g a out e lv st h G k
  obtain ⟨la, sa, hf⟩ := a
  unfold x_l2i at e
  split at e
  · rename_i sa' q
    have q : sa = .inr 0 :: sa' := q
    subst q
    have e := (Option.some.inj e).symm
    subst e
    obtain ⟨w, t, es, ⟨x, ex⟩, _, m⟩ := sm1 G.2.1
    subst es ex
    exact rule lv t h x (k _ List.mem_cons_self _ _ _ ⟨G.1, ⟨bm_i (rtop_in _) _, sl_0, m⟩, G.2.2⟩)
  · cases e
def x_dup (n : Nat) : Fx := fun a => match a.2.1 with
  | p :: st => bif Nat.beq (ac p) 1 then some [(n, a.1, p :: p :: st, a.2.2)] else none
  | _ => none
theorem sd_dup {n : Nat} (rule : ∀ lv st h v, v.category = 1 → AW M 0 0 n lv (v :: v :: st) h K → AW M 0 0 pc lv (v :: st) h K) : Sd ws h0 M K pc (x_dup n) := by
  intro g a out e lv st h G k
  obtain ⟨la, sa, hf⟩ := a
  unfold x_dup at e
  split at e
  · rename_i p sa' q
    have q : sa = p :: sa' := q
    subst q
    cases z : Nat.beq (ac p) 1 with
    | false => rw [z] at e; cases e
    | true =>
      rw [z] at e
      have e := (Option.some.inj e).symm
      subst e
      obtain ⟨v, t, es, b, l, m⟩ := sm1 G.2.1
      subst es
      exact rule lv t h v ((ac_cat b).trans (Nat.eq_of_beq_eq_true z)) (k _ List.mem_cons_self _ _ _ ⟨G.1, ⟨b, l, b, l, m⟩, G.2.2⟩)
  · cases e
def x_pop (n : Nat) : Fx := fun a => match a.2.1 with
  | p :: st => bif Nat.beq (ac p) 1 then some [(n, a.1, st, a.2.2)] else none
  | _ => none
theorem sd_pop {n : Nat} (rule : ∀ lv st h v, v.category = 1 → AW M 0 0 n lv st h K → AW M 0 0 pc lv (v :: st) h K) : Sd ws h0 M K pc (x_pop n) := by
  intro g a out e lv st h G k
  obtain ⟨la, sa, hf⟩ := a
  unfold x_pop at e
  split at e
  · rename_i p sa' q
    have q : sa = p :: sa' := q
    subst q
    cases z : Nat.beq (ac p) 1 with
    | false => rw [z] at e; cases e
    | true =>
      rw [z] at e
      have e := (Option.some.inj e).symm
      subst e
      obtain ⟨v, t, es, b, l, m⟩ := sm1 G.2.1
      subst es
      exact rule lv t h v ((ac_cat b).trans (Nat.eq_of_beq_eq_true z)) (k _ List.mem_cons_self _ _ _ ⟨G.1, m, G.2.2⟩)
  · cases e
def x_dup2 (n : Nat) : Fx := fun a => match a.2.1 with
  | p :: o :: st => bif Nat.beq (ac p) 1 && Nat.beq (ac o) 1 then some [(n, a.1, p :: o :: p :: o :: st, a.2.2)] else none
  | _ => none
theorem sd_dup2 {n : Nat} (rule : ∀ lv st h v w, v.category = 1 ∧ w.category = 1 → AW M 0 0 n lv (v :: w :: v :: w :: st) h K → AW M 0 0 pc lv (v :: w :: st) h K) : Sd ws h0 M K pc (x_dup2 n) := by
  intro g a out e lv st h G k
  obtain ⟨la, sa, hf⟩ := a
  unfold x_dup2 at e
  split at e
  · rename_i p o sa' q
    have q : sa = p :: o :: sa' := q
    subst q
    cases z : Nat.beq (ac p) 1 && Nat.beq (ac o) 1 with
    | false => rw [z] at e; cases e
    | true =>
      rw [z] at e
      have e := (Option.some.inj e).symm
      subst e
      rw [Bool.and_eq_true] at z
      obtain ⟨v, w, t, es, b, l, b2, l2, m⟩ := sm2 G.2.1
      subst es
      exact rule lv t h v w ⟨(ac_cat b).trans (Nat.eq_of_beq_eq_true z.1), (ac_cat b2).trans (Nat.eq_of_beq_eq_true z.2)⟩ (k _ List.mem_cons_self _ _ _ ⟨G.1, ⟨b, l, b2, l2, b, l, b2, l2, m⟩, G.2.2⟩)
  · cases e
def x_dupx1 (n : Nat) : Fx := fun a => match a.2.1 with
  | p :: o :: st => bif Nat.beq (ac p) 1 && Nat.beq (ac o) 1 then some [(n, a.1, p :: o :: p :: st, a.2.2)] else none
  | _ => none
theorem sd_dupx1 {n : Nat} (rule : ∀ lv st h v w, v.category = 1 ∧ w.category = 1 → AW M 0 0 n lv (v :: w :: v :: st) h K → AW M 0 0 pc lv (v :: w :: st) h K) : Sd ws h0 M K pc (x_dupx1 n) := by
  intro g a out e lv st h G k
  obtain ⟨la, sa, hf⟩ := a
  unfold x_dupx1 at e
  split at e
  · rename_i p o sa' q
    have q : sa = p :: o :: sa' := q
    subst q
    cases z : Nat.beq (ac p) 1 && Nat.beq (ac o) 1 with
    | false => rw [z] at e; cases e
    | true =>
      rw [z] at e
      have e := (Option.some.inj e).symm
      subst e
      rw [Bool.and_eq_true] at z
      obtain ⟨v, w, t, es, b, l, b2, l2, m⟩ := sm2 G.2.1
      subst es
      exact rule lv t h v w ⟨(ac_cat b).trans (Nat.eq_of_beq_eq_true z.1), (ac_cat b2).trans (Nat.eq_of_beq_eq_true z.2)⟩ (k _ List.mem_cons_self _ _ _ ⟨G.1, ⟨b, l, b2, l2, b, l, m⟩, G.2.2⟩)
  · cases e
def x_goto (t : Nat) : Fx := fun a => some [(t, a)]
theorem sd_goto {t : Nat} (rule : ∀ lv st h, AW M 0 0 t lv st h K → AW M 0 0 pc lv st h K) : Sd ws h0 M K pc (x_goto t) := by
  intro g a out e lv st h G k
  have e := (Option.some.inj e).symm
  subst e
  exact rule lv st h (k _ List.mem_cons_self _ _ _ G)
def x_null (tn tr : Nat) : Fx := fun a => match a.2.1 with
  | .inr (c + 1) :: st => bif Nat.beq c 0 then some [(tn, a.1, st, a.2.2)] else bif Nat.beq c 1 then some [(tn, a.1, st, a.2.2), (tr, a.1, st, a.2.2)] else some [(tr, a.1, st, a.2.2)]
  | _ => none
theorem sd_null {tn tr : Nat} (rn : ∀ lv st h, AW M 0 0 tn lv st h K → AW M 0 0 pc lv (.null :: st) h K) (rr : ∀ lv st h x, AW M 0 0 tr lv st h K → AW M 0 0 pc lv (.ref x :: st) h K) : Sd ws h0 M K pc (x_null tn tr) := by
  intro g a out e lv st h G k
  obtain ⟨la, sa, hf⟩ := a
  unfold x_null at e
  split at e
  · rename_i c sa' q
    have q : sa = .inr (c + 1) :: sa' := q
    subst q
    obtain ⟨v, t, es, b, l, m⟩ := sm1 G.2.1
    subst es
    have N : ∀ (lv : List (Nat × Value)) st h, Gm g ws h0 (la, sa', hf) lv st h → Gm g ws h0 (la, sa', hf) lv st h := fun _ _ _ z => z
    have G' : Gm g ws h0 (la, sa', hf) lv t h := ⟨G.1, m, G.2.2⟩
    cases z : Nat.beq c 0 with
    | true =>
      rw [z] at e
      have e := (Option.some.inj e).symm
      subst e
      have c0 := Nat.eq_of_beq_eq_true z
      subst c0
      have b : v = .null := b
      subst b
      exact rn lv t h (k _ List.mem_cons_self _ _ _ G')
    | false =>
      rw [z] at e
      cases y : Nat.beq c 1 with
      | true =>
        rw [y] at e
        have e := (Option.some.inj e).symm
        subst e
        rcases rm_ref b with ev | ⟨x, ev⟩
        · subst ev; exact rn lv t h (k _ List.mem_cons_self _ _ _ G')
        · subst ev; exact rr lv t h x (k _ (List.mem_cons_of_mem _ List.mem_cons_self) _ _ _ G')
      | false =>
        rw [y] at e
        have e := (Option.some.inj e).symm
        subst e
        have nn : ∃ x, v = .ref x := by
          have b : rm_ h v (c + 1) := b
          unfold rm_ at b
          split at b
          · rename_i w; cases w
          · rename_i w; have w : c = 0 := by omega
            rw [w] at z; cases z
          · rename_i w; have w : c = 1 := by omega
            rw [w] at y; cases y
          · obtain ⟨x, ev, _⟩ := b; exact ⟨x, ev⟩
          · obtain ⟨x, _, ev⟩ := b; exact ⟨_, ev⟩
          · exact ⟨_, b⟩
          · exact b.elim
        obtain ⟨x, ev⟩ := nn
        subst ev
        exact rr lv t h x (k _ List.mem_cons_self _ _ _ G')
  · cases e
end SDT
