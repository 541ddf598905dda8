/-! comparisons -/
abbrev Rf2 : Type := Rg → Rg → Rg × Rg
def cmok (P : Int → Int → Prop) (f : Rf2) : Prop := ∀ x y a b, rin x a → rin y b → P x y → rin x (f a b).1 ∧ rin y (f a b).2
def c_lt : Rf2 := fun a b => ((a.1, rmin a.2 (b.2 - 1)), (rmax b.1 (a.1 + 1), b.2))
def c_le : Rf2 := fun a b => ((a.1, rmin a.2 b.2), (rmax b.1 a.1, b.2))
def c_gt : Rf2 := fun a b => ((rmax a.1 (b.1 + 1), a.2), (b.1, rmin b.2 (a.2 - 1)))
def c_ge : Rf2 := fun a b => ((rmax a.1 b.1, a.2), (b.1, rmin b.2 a.2))
def c_eq : Rf2 := fun a b => (rmeet a b, rmeet a b)
def ieq (a b : Int) : Bool := ile a b && ile b a
theorem ieq_iff {a b : Int} : ieq a b = true ↔ a = b := by unfold ieq; rw [Bool.and_eq_true, ile_iff, ile_iff]; omega
/-- a range without a number, where that is one of its ends -/
def cutr (a : Rg) (x : Int) : Rg := (bif ieq a.1 x then a.1 + 1 else a.1, bif ieq a.2 x then a.2 - 1 else a.2)
theorem cutr_in {a : Rg} {x y : Int} (h : rin y a) (n : y ≠ x) : rin y (cutr a x) := by
  unfold cutr
  have h1 := h.1
  have h2 := h.2
  constructor
  · show (bif ieq a.1 x then a.1 + 1 else a.1) ≤ y
    cases c : ieq a.1 x with
    | true => have := ieq_iff.mp c; show a.1 + 1 ≤ y; omega
    | false => exact h1
  · show y ≤ (bif ieq a.2 x then a.2 - 1 else a.2)
    cases c : ieq a.2 x with
    | true => have := ieq_iff.mp c; show y ≤ a.2 - 1; omega
    | false => exact h2
def c_ne : Rf2 := fun a b => (bif ieq b.1 b.2 then cutr a b.1 else a, bif ieq a.1 a.2 then cutr b a.1 else b)
theorem ok_clt : cmok (fun x y => x < y) c_lt := fun x y a b hx hy p => by
  have := hx.1; have := hx.2; have := hy.1; have := hy.2; have p : x < y := p
  exact ⟨⟨hx.1, le_rmin hx.2 (by omega)⟩, ⟨rmax_le hy.1 (by omega), hy.2⟩⟩
theorem ok_cle : cmok (fun x y => x ≤ y) c_le := fun x y a b hx hy p => by
  have := hx.1; have := hx.2; have := hy.1; have := hy.2; have p : x ≤ y := p
  exact ⟨⟨hx.1, le_rmin hx.2 (by omega)⟩, ⟨rmax_le hy.1 (by omega), hy.2⟩⟩
theorem ok_cgt : cmok (fun x y => y < x) c_gt := fun x y a b hx hy p => by
  have := hx.1; have := hx.2; have := hy.1; have := hy.2; have p : y < x := p
  exact ⟨⟨rmax_le hx.1 (by omega), hx.2⟩, ⟨hy.1, le_rmin hy.2 (by omega)⟩⟩
theorem ok_cge : cmok (fun x y => y ≤ x) c_ge := fun x y a b hx hy p => by
  have := hx.1; have := hx.2; have := hy.1; have := hy.2; have p : y ≤ x := p
  exact ⟨⟨rmax_le hx.1 (by omega), hx.2⟩, ⟨hy.1, le_rmin hy.2 (by omega)⟩⟩
theorem ok_ceq : cmok (fun x y => x = y) c_eq := fun x y a b hx hy p => by
  have p : x = y := p
  subst p
  exact ⟨rmeet_in hx hy, rmeet_in hx hy⟩
theorem ok_cne : cmok (fun x y => x ≠ y) c_ne := fun x y a b hx hy p => by
  have p : x ≠ y := p
  unfold c_ne
  refine ⟨?_, ?_⟩
  · show rin x (bif ieq b.1 b.2 then cutr a b.1 else a)
    cases c : ieq b.1 b.2 with
    | true => have c := ieq_iff.mp c; have := hy.1; have := hy.2; exact cutr_in hx (by omega)
    | false => exact hx
  · show rin y (bif ieq a.1 a.2 then cutr b a.1 else b)
    cases c : ieq a.1 a.2 with
    | true => have c := ieq_iff.mp c; have := hx.1; have := hx.2; exact cutr_in hy (by omega)
    | false => exact hy
section SDU
variable {ws : List Nat} {h0 : Hp_} {M : Mc_} {K : Option Value → Hp_ → Prop} {pc : Nat}
/-- a value's source is known better -/
def rfav (r : Rg) (a : Av) : Av := match a with
  | .inl (r0, s, gh) => .inl (rmeet r0 r, s, gh)
  | .inr n => .inr n
def rfn (s : Nat × Nat) (r : Rg) (a : Ab) : Ab := bif Nat.beq s.1 1 then (a.1.map (fun p => (p.1, bif Nat.beq p.1 s.2 then rfav r p.2 else p.2)), a.2) else bif Nat.ble 1000 s.1 then (a.1, a.2.1, (a.2.2.1, ((s.1 - 1000, s.2), r) :: a.2.2.2.1, a.2.2.2.2)) else bif Nat.ble 2 s.1 then (a.1, a.2.1, (((s.1 - 2, s.2), r) :: a.2.2.1, a.2.2.2)) else a
theorem lm_rf {g : Nat → Int} {h : Hp_} {i : Nat} {x : Int32} {r : Rg} (hx : rin x.toInt r) : ∀ {lv : List (Nat × Value)} {la : List (Nat × Av)}, lm g h lv la → (∀ v, (i, v) ∈ lv → v = .int x) → lm g h lv (la.map (fun p => (p.1, bif Nat.beq p.1 i then rfav r p.2 else p.2)))
  | [], [], _, _ => trivial
  | q :: t, p :: u, m, hu => by
    refine ⟨m.1, ?_, lm_rf hx m.2.2 (fun v hv => hu v (List.mem_cons_of_mem _ hv))⟩
    show bm g h q.2 (bif Nat.beq p.1 i then rfav r p.2 else p.2)
    cases c : Nat.beq p.1 i with
    | false => exact m.2.1
    | true =>
      have e := Nat.eq_of_beq_eq_true c
      have ev : q.2 = .int x := hu q.2 (by rw [← e, ← m.1]; exact List.mem_cons_self)
      have b := m.2.1
      show bm g h q.2 (rfav r p.2)
      unfold rfav
      split
      · rename_i r0 s gh w
        rw [w] at b
        obtain ⟨y, ey, hy, hg⟩ := b
        rw [ev] at ey
        cases ey
        exact ⟨x, ev, rmeet_in hy hx, hg⟩
      · rename_i n w; rw [w] at b; exact b
  | [], _ :: _, m, _ => m.elim
  | _ :: _, [], m, _ => m.elim
theorem Gm.rf2 {g : Nat → Int} {a : Ab} {lv : List (Nat × Value)} {st : List Value} {h : Hp_} {x : Int32} {s : Nat × Nat} {r : Rg} (G : Gm g ws h0 a lv st h) (l : lnk h lv x s) (hx : rin x.toInt r) : Gm g ws h0 (rfn s r a) lv st h := by
  unfold rfn
  cases c : Nat.beq s.1 1 with
  | true =>
    have e := Nat.eq_of_beq_eq_true c
    exact ⟨lm_rf hx G.1 (fun v hv => rise_uniq G.2.2.2.2.2 hv (l.1 e)), G.2⟩
  | false =>
    cases f : Nat.ble 1000 s.1 with
    | true =>
      have e := Nat.ble_eq.mp f
      refine ⟨G.1, G.2.1, ⟨G.2.2.1.1, fun q hq => ?_, G.2.2.1.2.2⟩, G.2.2.2⟩
      rcases List.mem_cons.mp hq with z | z
      · obtain ⟨i, m1, m2⟩ := l.2.2 e
        rw [z]
        exact ⟨i, m1, by show rin (h_i h (s.1 - 1000) i.toNatClampNeg).toInt r; rw [m2]; exact hx⟩
      · exact G.2.2.1.2.1 q z
    | false =>
      have f' : s.1 < 1000 := by
        rcases Nat.lt_or_ge s.1 1000 with z | z
        · exact z
        · rw [Nat.ble_eq.mpr z] at f; cases f
      cases d : Nat.ble 2 s.1 with
      | true =>
        have e := Nat.ble_eq.mp d
        refine ⟨G.1, G.2.1, ⟨fun q hq => ?_, G.2.2.1.2⟩, G.2.2.2⟩
        rcases List.mem_cons.mp hq with z | z
        · rw [z]; show rin (h_i h (s.1 - 2) s.2).toInt r; rw [l.2.1 e f']; exact hx
        · exact G.2.2.1.1 q z
      | false => exact G
def remp (r : Rg) : Bool := !ile r.1 r.2
theorem remp_in {r : Rg} {x : Int} (h : rin x r) : remp r = false := by
  unfold remp
  rw [Bool.not_eq_false', ile_iff]
  exact Int.le_trans h.1 h.2
def brn (t : Nat) (q : Rg × Rg) (sa sb : Nat × Nat) (a : Ab) : List (Nat × Ab) := bif remp q.1 || remp q.2 then [] else [(t, rfn sa q.1 (rfn sb q.2 a))]
theorem brn_mem {t : Nat} {q : Rg × Rg} {sa sb : Nat × Nat} {a : Ab} {x y : Int} (h1 : rin x q.1) (h2 : rin y q.2) : (t, rfn sa q.1 (rfn sb q.2 a)) ∈ brn t q sa sb a := by
  unfold brn
  rw [remp_in h1, remp_in h2]
  exact List.mem_cons_self
def x_icmp (ft fe : Rf2) (t n : Nat) : Fx := fun a => match a.2.1 with
  | .inl (rb, sb, _) :: .inl (ra, sa, _) :: st => some (brn t (ft ra rb) sa sb (a.1, st, a.2.2) ++ brn n (fe ra rb) sa sb (a.1, st, a.2.2))
  | _ => none
theorem sd_icmp {P : Int32 → Int32 → Prop} {PT PF : Int → Int → Prop} {ft fe : Rf2} {t n : Nat} (ot : cmok PT ft) (oe : cmok PF fe) (hT : ∀ x y, P x y → PT x.toInt y.toInt) (hF : ∀ x y, ¬ P x y → PF x.toInt y.toInt) (rule : ∀ lv st h x y, (P x y → AW M 0 0 t lv st h K) → (¬ P x y → AW M 0 0 n lv st h K) → AW M 0 0 pc lv (.int y :: .int x :: st) h K) : Sd ws h0 M K pc (x_icmp ft fe t n) := by
  intro g a out e lv st h G k
  obtain ⟨la, sa, hf⟩ := a
  unfold x_icmp at e
  split at e
  · rename_i rb sb gb ra s2 ga sa' q
    have q : sa = .inl (rb, sb, gb) :: .inl (ra, s2, ga) :: sa' := q
    subst q
    have e := (Option.some.inj e).symm
    subst e
    obtain ⟨v, w, t', es, ⟨y, ey, hy, _⟩, l1, ⟨x, ex, hx, _⟩, l2, m⟩ := sm2 G.2.1
    subst es ey ex
    have G' : Gm g ws h0 (la, sa', hf) lv t' h := ⟨G.1, m, G.2.2⟩
    refine rule lv t' h x y (fun c => ?_) (fun c => ?_)
    · have w := ot _ _ _ _ hx hy (hT x y c)
      exact k _ (List.mem_append_left _ (brn_mem w.1 w.2)) _ _ _ (Gm.rf2 (Gm.rf2 G' (l1 y rfl) w.2) (l2 x rfl) w.1)
    · have w := oe _ _ _ _ hx hy (hF x y c)
      exact k _ (List.mem_append_right _ (brn_mem w.1 w.2)) _ _ _ (Gm.rf2 (Gm.rf2 G' (l1 y rfl) w.2) (l2 x rfl) w.1)
  · cases e
def x_if (ft fe : Rf2) (t n : Nat) : Fx := fun a => match a.2.1 with
  | .inl (ra, sa, _) :: st => some (brn t (ft ra (0, 0)) sa (0, 0) (a.1, st, a.2.2) ++ brn n (fe ra (0, 0)) sa (0, 0) (a.1, st, a.2.2))
  | _ => none
theorem sd_if {P : Int32 → Int32 → Prop} {PT PF : Int → Int → Prop} {ft fe : Rf2} {t n : Nat} (ot : cmok PT ft) (oe : cmok PF fe) (hT : ∀ x y, P x y → PT x.toInt y.toInt) (hF : ∀ x y, ¬ P x y → PF x.toInt y.toInt) (rule : ∀ lv st h x, (P x 0 → AW M 0 0 t lv st h K) → (¬ P x 0 → AW M 0 0 n lv st h K) → AW M 0 0 pc lv (.int x :: st) h K) : Sd ws h0 M K pc (x_if ft fe t n) := by
  intro g a out e lv st h G k
  obtain ⟨la, sa, hf⟩ := a
  unfold x_if at e
  split at e
  · rename_i ra s2 ga sa' q
    have q : sa = .inl (ra, s2, ga) :: sa' := q
    subst q
    have e := (Option.some.inj e).symm
    subst e
    obtain ⟨w, t', es, ⟨x, ex, hx, _⟩, l2, m⟩ := sm1 G.2.1
    subst es ex
    have G' : Gm g ws h0 (la, sa', hf) lv t' h := ⟨G.1, m, G.2.2⟩
    have z0 : rin (0 : Int32).toInt (0, 0) := ⟨Int.le_refl _, Int.le_refl _⟩
    refine rule lv t' h x (fun c => ?_) (fun c => ?_)
    · have w := ot _ _ _ _ hx z0 (hT x 0 c)
      exact k _ (List.mem_append_left _ (brn_mem w.1 w.2)) _ _ _ (Gm.rf2 (Gm.rf2 G' lnk_0 w.2) (l2 x rfl) w.1)
    · have w := oe _ _ _ _ hx z0 (hF x 0 c)
      exact k _ (List.mem_append_right _ (brn_mem w.1 w.2)) _ _ _ (Gm.rf2 (Gm.rf2 G' lnk_0 w.2) (l2 x rfl) w.1)
  · cases e
/-- a switch: the numbers that have a place of their own, and the place of all others -/
def swi (r : Rg) (s : Nat × Nat) (a : Ab) (v : Int) (t : Nat) : List (Nat × Ab) := bif ile r.1 v && ile v r.2 then [(t, rfn s (v, v) a)] else []
def x_switch (l : List (Int × Nat)) (df : Nat) : Fx := fun a => match a.2.1 with
  | .inl (r, s, _) :: st => some ((df, a.1, st, a.2.2) :: l.flatMap (fun p => swi r s (a.1, st, a.2.2) p.1 p.2))
  | _ => none
theorem sd_switch {l : List (Int × Nat)} {df : Nat} (rule : ∀ lv st h x, (∀ p ∈ l, x.toInt = p.1 → AW M 0 0 p.2 lv st h K) → AW M 0 0 df lv st h K → AW M 0 0 pc lv (.int x :: st) h K) : Sd ws h0 M K pc (x_switch l df) := by
  intro g a out e lv st h G k
  obtain ⟨la, sa, hf⟩ := a
  unfold x_switch at e
  split at e
  · rename_i ra s2 ga sa' q
    have q : sa = .inl (ra, s2, ga) :: sa' := q
    subst q
    have e := (Option.some.inj e).symm
    subst e
    obtain ⟨w, t', es, ⟨x, ex, hx, _⟩, l2, m⟩ := sm1 G.2.1
    subst es ex
    have G' : Gm g ws h0 (la, sa', hf) lv t' h := ⟨G.1, m, G.2.2⟩
    refine rule lv t' h x (fun p hp ep => ?_) (k _ List.mem_cons_self _ _ _ G')
    refine k (p.2, rfn s2 (p.1, p.1) (la, sa', hf)) (List.mem_cons_of_mem _ (List.mem_flatMap.mpr ⟨p, hp, ?_⟩)) _ _ _ (Gm.rf2 G' (l2 x rfl) ?_)
    · unfold swi
      have c : (ile ra.1 p.1 && ile p.1 ra.2) = true := by
        rw [Bool.and_eq_true, ile_iff, ile_iff, ← ep]; exact hx
      rw [c]
      exact List.mem_cons_self
    · rw [ep]; exact ⟨Int.le_refl _, Int.le_refl _⟩
  · cases e
end SDU
