section
/-! the reference's reader, with what it puts down -/
def opm (o : Int32) : Int32 := if o = 2 then 33 else if o = 5 then 43 else if o = 6 then 45 else if o = 7 then 42 else if o = 8 then 61 else if o = 9 then 60 else if o = 10 then 62 else if o = 11 then 38 else 124
def tkm (t : Tk2) : List Int32 := if t.1 = 0 then [0, t.2] else if t.1 = 1 then [1, t.2] else [opm t.1]
theorem fm_1 (E : List Tk2) (t : Tk2) : (E ++ [t]).flatMap tkm = E.flatMap tkm ++ tkm t := by
  rw [List.flatMap_append]
  simp
theorem fm_a (E F : List Tk2) : (E ++ F).flatMap tkm = E.flatMap tkm ++ F.flatMap tkm := List.flatMap_append
def Cdm (h0 h : Hp_) (E : List Int32) : Prop := sN h = sN h0 + E.length ∧ (∀ k, k < sN h0 → h_i h 226 k = h_i h0 226 k) ∧ ∀ i v, E[i]? = some v → h_i h 226 (sN h0 + i) = v
theorem Cdm.rf (h : Hp_) : Cdm h h [] := ⟨rfl, fun _ _ => rfl, fun i v e => by cases e⟩
theorem Cdm.tr {h0 h1 h2 : Hp_} {E F : List Int32} (a : Cdm h0 h1 E) (c : Cdm h1 h2 F) : Cdm h0 h2 (E ++ F) := by
  refine ⟨by rw [c.1, a.1, List.length_append]; omega, fun k hk => (c.2.1 k (by rw [a.1]; omega)).trans (a.2.1 k hk), fun i v e => ?_⟩
  by_cases l : i < E.length
  · rw [List.getElem?_append_left l] at e
    rw [c.2.1 _ (by rw [a.1]; omega)]
    exact a.2.2 i v e
  · rw [List.getElem?_append_right (by omega)] at e
    have z := c.2.2 _ v e
    rw [a.1, show sN h0 + E.length + (i - E.length) = sN h0 + i by omega] at z
    exact z
theorem Cdm.fr {h0 h h' : Hp_} {E : List Int32} {ws : List Nat} (a : Cdm h0 h E) (f : Fr ws h h') (o : (off ws 226 && !inw ws 1 36) = true) : Cdm h0 h' E := by
  rw [Bool.and_eq_true, Bool.not_eq_true'] at o
  refine ⟨?_, fun k hk => (fr_i f o.1 k).trans (a.2.1 k hk), fun i v e => (fr_i f o.1 _).trans (a.2.2 i v e)⟩
  show (h_i h' 1 36).toNatClampNeg = _
  rw [(f.2 1 36 o.2).1]
  exact a.1
theorem Cdm.f0 {h h' : Hp_} {ws : List Nat} (f : Fr ws h h') (o : (off ws 226 && !inw ws 1 36) = true) : Cdm h h' [] := (Cdm.rf h).fr f o
theorem Cdm.say {h h' : Hp_} {x : Int32} (I : Iv h) (S : Iv h' ∧ Fr [1036, 226999] h h' ∧ (h_i h' 1 36).toInt = (h_i h 1 36).toInt + 1 ∧ h_i h' 226 (h_i h 1 36).toNatClampNeg = x ∧ ∀ k, k ≠ (h_i h 1 36).toNatClampNeg → h_i h' 226 k = h_i h 226 k) : Cdm h h' [x] := by
  have n0 := sN_i I
  have n1 := sN_i S.1
  have e : ps h' = ps h + 1 := S.2.2.1
  refine ⟨by show sN h' = sN h + 1; omega, fun k hk => S.2.2.2.2 k (by show k ≠ sN h; omega), fun i v e => ?_⟩
  cases i with
  | zero =>
    have e : some x = some v := e
    rw [← Option.some.inj e]
    exact S.2.2.2.1
  | succ i => cases e
def Fte (b : Nat → Int32) (n : Nat) (T : Bool × Nat × List Tk2) (h0 h : Hp_) : Prop := (h_i h 1 34 = -1 ∧ T.1 = true ∧ ska b n (ta h) = T.2.1 ∧ Cdm h0 h (T.2.2.flatMap tkm)) ∨ (¬ h_i h 1 34 = -1 ∧ T.1 = false ∧ h_i h 1 34 = Int32.ofNat T.2.1)
theorem Fte.fr {b : Nat → Int32} {n : Nat} {T : Bool × Nat × List Tk2} {ws : List Nat} {h0 h h' : Hp_} (F : Fte b n T h0 h) (f : Fr ws h h') (o : (!inw ws 1 34 && !inw ws 1 33) = true) (o2 : (off ws 226 && !inw ws 1 36) = true) : Fte b n T h0 h' := by
  rw [Bool.and_eq_true, Bool.not_eq_true', Bool.not_eq_true'] at o
  have e4 : h_i h' 1 34 = h_i h 1 34 := (f.2 1 34 o.1).1
  have e3 : ta h' = ta h := by
    show (h_i h' 1 33).toNatClampNeg = _
    rw [(f.2 1 33 o.2).1]
  rcases F with F | F
  · exact Or.inl ⟨by rw [e4]; exact F.1, F.2.1, by rw [e3]; exact F.2.2.1, F.2.2.2.fr f o2⟩
  · exact Or.inr ⟨by rw [e4]; exact F.1, F.2.1, by rw [e4]; exact F.2.2⟩
theorem Fte.ok {b : Nat → Int32} {n : Nat} {T : Bool × Nat × List Tk2} {h0 h : Hp_} (F : Fte b n T h0 h) (w : h_i h 1 34 = -1) : T.1 = true ∧ ska b n (ta h) = T.2.1 ∧ Cdm h0 h (T.2.2.flatMap tkm) := by
  rcases F with F | F
  · exact F.2
  · exact absurd w F.1
theorem Fte.no {b : Nat → Int32} {n : Nat} {T : Bool × Nat × List Tk2} {h0 h : Hp_} (F : Fte b n T h0 h) (w : ¬ h_i h 1 34 = -1) : T.1 = false ∧ h_i h 1 34 = Int32.ofNat T.2.1 := by
  rcases F with F | F
  · exact absurd F.1 w
  · exact F.2
theorem Fte.wr {b : Nat → Int32} {n : Nat} {T : Bool × Nat × List Tk2} {h0 h1 h h' : Hp_} (F : Fte b n T h0 h) (w : ¬ h_i h 1 34 = -1) (e : h_i h' 1 34 = h_i h 1 34) : Fte b n T h1 h' := Or.inr ⟨by rw [e]; exact w, (F.no w).1, by rw [e]; exact (F.no w).2⟩
theorem Fte.b {b : Nat → Int32} {n : Nat} {T : Bool × Nat × List Tk2} {h0 h1 h : Hp_} (F : Fte b n T h0 h) (c : Cdm h1 h0 []) : Fte b n T h1 h := by
  rcases F with F | F
  · exact Or.inl ⟨F.1, F.2.1, F.2.2.1, c.tr F.2.2.2⟩
  · exact Or.inr F
theorem Fte.lk {b : Nat → Int32} {n : Nat} {T : Bool × Nat × List Tk2} {h0 h h' : Hp_} {r : Int32} (F : Fte b n T h0 h) (L : Lkf b n h r h') : Fte b n T h0 h' := by
  have e4 : h_i h' 1 34 = h_i h 1 34 := (L.1.2.1.2 1 34 (by decide +kernel)).1
  rcases F with F | F
  · exact Or.inl ⟨by rw [e4]; exact F.1, F.2.1, by rw [L.i, L.2.1]; exact F.2.2.1, F.2.2.2.fr L.1.2.1 (by decide +kernel)⟩
  · exact Or.inr ⟨by rw [e4]; exact F.1, F.2.1, by rw [e4]; exact F.2.2⟩
/-- a token of one sign more -/
theorem Fte.sy {b : Nat → Int32} {n : Nat} {T : Bool × Nat × List Tk2} {h0 h h' : Hp_} {x : Int32} (F : Fte b n T h0 h) (I : Iv h) (S : Iv h' ∧ Fr [1036, 226999] h h' ∧ (h_i h' 1 36).toInt = (h_i h 1 36).toInt + 1 ∧ h_i h' 226 (h_i h 1 36).toNatClampNeg = x ∧ ∀ k, k ≠ (h_i h 1 36).toNatClampNeg → h_i h' 226 k = h_i h 226 k) (t : Tk2) (e : tkm t = [x]) : Fte b n (k2app T [t]) h0 h' := by
  have e4 : h_i h' 1 34 = h_i h 1 34 := (S.2.1.2 1 34 (by decide +kernel)).1
  have e3 : ta h' = ta h := by
    show (h_i h' 1 33).toNatClampNeg = _
    rw [(S.2.1.2 1 33 (by decide +kernel)).1]
  rcases F with F | F
  · refine Or.inl ⟨by rw [e4]; exact F.1, F.2.1, by rw [e3]; exact F.2.2.1, ?_⟩
    show Cdm h0 h' ((T.2.2 ++ [t]).flatMap tkm)
    rw [fm_1, e]
    exact F.2.2.2.tr (Cdm.say I S)
  · exact Or.inr ⟨by rw [e4]; exact F.1, F.2.1, by rw [e4]; exact F.2.2⟩
/-- a token of two numbers more -/
theorem Fte.sz {b : Nat → Int32} {n : Nat} {T : Bool × Nat × List Tk2} {h0 h h1 h' : Hp_} {x y : Int32} (F : Fte b n T h0 h) (I : Iv h) (S : Iv h1 ∧ Fr [1036, 226999] h h1 ∧ (h_i h1 1 36).toInt = (h_i h 1 36).toInt + 1 ∧ h_i h1 226 (h_i h 1 36).toNatClampNeg = x ∧ ∀ k, k ≠ (h_i h 1 36).toNatClampNeg → h_i h1 226 k = h_i h 226 k) (S' : Iv h' ∧ Fr [1036, 226999] h1 h' ∧ (h_i h' 1 36).toInt = (h_i h1 1 36).toInt + 1 ∧ h_i h' 226 (h_i h1 1 36).toNatClampNeg = y ∧ ∀ k, k ≠ (h_i h1 1 36).toNatClampNeg → h_i h' 226 k = h_i h1 226 k) (t : Tk2) (e : T.1 = true → tkm t = [x, y]) : Fte b n (k2app T [t]) h0 h' := by
  have f := S.2.1.tr S'.2.1
  have e4 : h_i h' 1 34 = h_i h 1 34 := (f.2 1 34 (by decide +kernel)).1
  have e3 : ta h' = ta h := by
    show (h_i h' 1 33).toNatClampNeg = _
    rw [(f.2 1 33 (by decide +kernel)).1]
  rcases F with F | F
  · refine Or.inl ⟨by rw [e4]; exact F.1, F.2.1, by rw [e3]; exact F.2.2.1, ?_⟩
    show Cdm h0 h' ((T.2.2 ++ [t]).flatMap tkm)
    rw [fm_1, e F.2.1]
    exact F.2.2.2.tr ((Cdm.say I S).tr (Cdm.say S.1 S'))
  · exact Or.inr ⟨by rw [e4]; exact F.1, F.2.1, by rw [e4]; exact F.2.2⟩
def Rdg (b : Nat → Int32) (n s : Nat) (D : Int) (S : Rce) (C : Nat → Hp_ → (Hp_ → Prop) → Prop) : Prop := ∀ (d : Nat) (h : Hp_), Iv h → Pq h → pd h = D → h_i h 1 37 = Int32.ofNat s → Tp b n h → C d h (fun h' => Pe s h h' ∧ Fte b n (S (ta h)) h h')
def Sfe (b : Nat → Int32) (n : Nat) (T : Bool × Nat × List Tk2) (g : Rce) (h0 h : Hp_) : Prop := (h_i h 1 34 = -1 → ∃ E : List Tk2, T = k2pre E (g (ta h)) ∧ Cdm h0 h (E.flatMap tkm)) ∧ (¬ h_i h 1 34 = -1 → Fte b n T h0 h)
theorem Sfe.lk {b : Nat → Int32} {n : Nat} {T : Bool × Nat × List Tk2} {g : Rce} {h0 h h' : Hp_} {r : Int32} (F : Sfe b n T g h0 h) (c : Cne b n g) (L : Lkf b n h r h') : Sfe b n T g h0 h' := by
  have e4 : h_i h' 1 34 = h_i h 1 34 := (L.1.2.1.2 1 34 (by decide +kernel)).1
  refine ⟨fun w => ?_, fun w => ?_⟩
  · rw [e4] at w
    obtain ⟨E, e, k⟩ := F.1 w
    exact ⟨E, by rw [L.2.1, c]; exact e, k.fr L.1.2.1 (by decide +kernel)⟩
  · rw [e4] at w
    exact (F.2 w).lk L
theorem sqg {b : Nat → Int32} {n : Nat} {f g : Rce} {a : Nat} {h0 h : Hp_} (c : Cne b n g) (F : Fte b n (f a) h0 h) : Sfe b n (k2sq f g a) g h0 h := by
  refine ⟨fun w => ?_, fun w => ?_⟩
  · have k := F.ok w
    refine ⟨(f a).2.2, ?_, k.2.2⟩
    unfold k2sq
    rw [if_pos k.1, ← k.2.1, c]
  · have k := F.no w
    have e : k2sq f g a = f a := by
      unfold k2sq
      exact if_neg (by rw [k.1]; decide)
    rw [e]
    exact F
theorem Sfe.ft {b : Nat → Int32} {n : Nat} {T : Bool × Nat × List Tk2} {g : Rce} {h0 h h2 : Hp_} (F : Sfe b n T g h0 h) (w : h_i h 1 34 = -1) (G : Fte b n (g (ta h)) h h2) : Fte b n T h0 h2 := by
  obtain ⟨E, e, k⟩ := F.1 w
  rw [e]
  rcases G with G | G
  · refine Or.inl ⟨G.1, G.2.1, G.2.2.1, ?_⟩
    show Cdm h0 h2 ((E ++ (g (ta h)).2.2).flatMap tkm)
    rw [fm_a]
    exact k.tr G.2.2.2
  · exact Or.inr G
theorem Sfe.sq {b : Nat → Int32} {n : Nat} {T : Bool × Nat × List Tk2} {f g : Rce} {h0 h h2 : Hp_} (F : Sfe b n T (k2sq f g) h0 h) (w : h_i h 1 34 = -1) (c : Cne b n g) (G : Fte b n (f (ta h)) h h2) : Sfe b n T g h0 h2 := by
  obtain ⟨E, e, k⟩ := F.1 w
  have z := sqg (f := f) c G
  refine ⟨fun w2 => ?_, fun w2 => ?_⟩
  · obtain ⟨E2, e2, k2⟩ := z.1 w2
    exact ⟨E ++ E2, by rw [e, e2, k2pre_a], by rw [fm_a]; exact k.tr k2⟩
  · have q := (z.2 w2).no w2
    rw [e]
    exact Or.inr ⟨w2, q.1, q.2⟩
theorem lp0e {b : Nat → Int32} {n : Nat} {T : Bool × Nat × List Tk2} {sp : Int32 → Bool} {op : Int32 → List Tk2} {f : Rce} {h0 h h5 : Hp_} {r : Int32} (F : Sfe b n T (k2lp b n sp op f 0) h0 h) (w : h_i h 1 34 = -1) (L : Lkf b n h r h5) : Fte b n T h0 h5 := by
  have e4 : h_i h5 1 34 = h_i h 1 34 := (L.1.2.1.2 1 34 (by decide +kernel)).1
  obtain ⟨E, e, k⟩ := F.1 w
  rw [e]
  refine Or.inl ⟨by rw [e4]; exact w, rfl, by rw [L.i, L.2.1]; rfl, ?_⟩
  show Cdm h0 h5 ((E ++ []).flatMap tkm)
  rw [List.append_nil]
  exact k.fr L.1.2.1 (by decide +kernel)
theorem lpxe {b : Nat → Int32} {n k : Nat} {T : Bool × Nat × List Tk2} {sp : Int32 → Bool} {op : Int32 → List Tk2} {f : Rce} {h0 h h5 : Hp_} {r : Int32} (F : Sfe b n T (k2lp b n sp op f (k + 1)) h0 h) (w : h_i h 1 34 = -1) (L : Lkf b n h r h5) (ns : sp r = false) : Fte b n T h0 h5 := by
  have e4 : h_i h5 1 34 = h_i h 1 34 := (L.1.2.1.2 1 34 (by decide +kernel)).1
  obtain ⟨E, e, c⟩ := F.1 w
  have e2 : k2lp b n sp op f (k + 1) (ta h) = (true, ska b n (ta h), []) := by
    unfold k2lp
    exact if_neg (by rw [← L.2.2, ns]; decide)
  rw [e, e2]
  refine Or.inl ⟨by rw [e4]; exact w, rfl, by rw [L.i, L.2.1]; rfl, ?_⟩
  show Cdm h0 h5 ((E ++ []).flatMap tkm)
  rw [List.append_nil]
  exact c.fr L.1.2.1 (by decide +kernel)
theorem lpse {b : Nat → Int32} {n k : Nat} {T : Bool × Nat × List Tk2} {sp : Int32 → Bool} {op : Int32 → List Tk2} {f : Rce} {h0 h h6 h9 : Hp_} {r : Int32} (F : Sfe b n T (k2lp b n sp op f (k + 1)) h0 h) (w : h_i h 1 34 = -1) (er : r = skv b n (ta h)) (ys : sp r = true) (c6 : Cdm h h6 []) (G : Fte b n (k2app (f (ska b n (ta h) + 1)) (op r)) h6 h9) : Sfe b n T (k2lp b n sp op f k) h0 h9 := by
  obtain ⟨E, e, c⟩ := F.1 w
  have e2 : k2lp b n sp op f (k + 1) (ta h) = if (f (ska b n (ta h) + 1)).1 = true then k2pre ((f (ska b n (ta h) + 1)).2.2 ++ op r) (k2lp b n sp op f k (f (ska b n (ta h) + 1)).2.1) else f (ska b n (ta h) + 1) := by
    rw [er]
    show (if sp (skv b n (ta h)) = true then _ else _) = _
    rw [if_pos (by rw [← er]; exact ys)]
  rw [e2] at e
  rcases G with ⟨g1, g2, g3, g4⟩ | ⟨g1, g2, g3⟩
  · have g2 : (f (ska b n (ta h) + 1)).1 = true := g2
    have g3 : ska b n (ta h9) = (f (ska b n (ta h) + 1)).2.1 := g3
    rw [if_pos g2, ← g3, Cne.lp k, k2pre_a] at e
    refine ⟨fun _ => ⟨_, e, ?_⟩, fun y => absurd g1 y⟩
    rw [fm_a]
    exact c.tr (c6.tr g4)
  · have g2 : (f (ska b n (ta h) + 1)).1 = false := g2
    rw [if_neg (by rw [g2]; decide)] at e
    refine ⟨fun y => absurd y g1, fun _ => Or.inr ⟨g1, by rw [e]; exact g2, ?_⟩⟩
    rw [e]
    exact g3
/-! the reference: sums and comparisons, with what they put down -/
theorem c_termg {b : Nat → Int32} {n : Nat} (s e : Nat) (D : Int) (f : Rce) (A : Rdg b n s D f (fun d h K => Cv (m_X12_atom (d + e + 51) 0 0) [.ref 1] h K)) : Rdg b n s D (k2tm b n f) (fun d h K => Cv (m_X12_term (d + e + 52) 0 0) [.ref 1] h K) := by
  intro d h I q eD es t
  have z1 : pz h ≤ 160 := (pz_in I).2
  have lp : ∀ (k : Nat) (h2 : Hp_), Pe s h h2 → Sfe b n (k2tm b n f (ta h)) (k2lp b n (isq 42) (fun _ => [(7, 0)]) f k) h h2 → pz h - pa h2 ≤ k → AW (m_X12_term (d + e + 52) 0 0) 0 0 4 [(0, .ref 1)] [] h2 (kV (fun h' => Pe s h h' ∧ Fte b n (k2tm b n f (ta h)) h h')) := by
    intro k
    induction k with
    | zero =>
      intro h2 P F m
      refine t_X12_term_4 (d + e) h2 P.1.1 _ ⟨fun w => ⟨P, F.2 w⟩, fun w => Ci.mono (c_lookf (d + e) P.1 (P.tp t)) (fun r h5 L => ⟨L.1.1.1, fun _ => ⟨P.lk I L.1, lp0e F w L⟩, fun er => ?_⟩)⟩
      have z2 := zf P.2.1 (by decide +kernel)
      have l3 := L.1.2.2.1
      rcases L.1.2.2.2.2 with u | u
      · rw [er] at u; exact absurd u.1 (by decide)
      · have := u.1
        omega
    | succ k ih =>
      intro h2 P F m
      refine t_X12_term_4 (d + e) h2 P.1.1 _ ⟨fun w => ⟨P, F.2 w⟩, fun w => Ci.mono (c_lookf (d + e) P.1 (P.tp t)) (fun r h5 L => ⟨L.1.1.1, fun nr => ⟨P.lk I L.1, lpxe F w L (decide_eq_false nr)⟩, fun er => ?_⟩)⟩
      have P5 := P.lk I L.1
      have w5 : h_i h5 1 34 = -1 := by rw [(L.1.2.1.2 1 34 (by decide +kernel)).1]; exact w
      have z2 := zf P.2.1 (by decide +kernel)
      have l3 := L.1.2.2.1
      have l5 : pa h5 < pz h := by
        rcases L.1.2.2.2.2 with u | u
        · rw [er] at u; exact absurd u.1 (by decide)
        · have := u.1
          omega
      obtain ⟨I6, F6, a6, q6, d6, s6⟩ := P5.nx I q w5 l5
      refine Cv.mono (A d _ I6 q6 (by omega) (by rw [s6]; exact es) ((P5.tp t).fr F6 (by decide +kernel))) (fun h9 Q => ⟨Q.1.1.1, Cv.mono (c_say (d + e) Q.1.1 42 (Q.1.room I6 q6)) (fun h12 S => ?_)⟩)
      have P12 := P5.op w5 I I6 F6 (by omega) Q.1 S (by decide)
      have e33 : pa h12 = pa h9 := by show (h_i h12 1 33).toInt = _; rw [(S.2.1.2 1 33 (by decide +kernel)).1]
      have q4 := Q.1.2.2.2.1
      have G := Q.2.sy Q.1.1 S (7, 0) rfl
      rw [nxa L I6 a6] at G
      exact ⟨S.1.1, ih h12 P12 (lpse F w L.2.2 (decide_eq_true er) (Cdm.f0 (L.1.2.1.tr F6) (by decide +kernel)) G) (by omega)⟩
  refine t_X12_term (d + e) h I.1 _ (Cv.mono (A d h I q eD es t) (fun h1 P => ⟨P.1.1.1, lp 160 h1 P.1 (sqg (f := f) (Cne.lp 160) P.2) ?_⟩))
  have a1 : 0 ≤ pa h1 := (pa_in P.1.1).1
  omega
theorem c_sumg {b : Nat → Int32} {n : Nat} (s e : Nat) (D : Int) (f : Rce) (A : Rdg b n s D (k2tm b n f) (fun d h K => Cv (m_X12_term (d + e + 52) 0 0) [.ref 1] h K)) : Rdg b n s D (k2sm b n f) (fun d h K => Cv (m_X12_sum (d + e + 53) 0 0) [.ref 1] h K) := by
  intro d h I q eD es t
  have z1 : pz h ≤ 160 := (pz_in I).2
  have ni := tn_i I
  rw [t.2] at ni
  have lp : ∀ (k : Nat) (x1 : Int32) (h4 : Hp_), Pe s h h4 → Sfe b n (k2sm b n f (ta h)) (k2lp b n pmb pmo (k2tm b n f) k) h h4 → (x1 = skv b n (ta h4) ∧ ska b n (ta h4) = ta h4) → (x1 = -1 ∨ pa h4 < pz h) → pz h - pa h4 ≤ k → AW (m_X12_sum (d + e + 53) 0 0) 0 0 9 [(0, .ref 1), (1, .int x1)] [] h4 (kV (fun h' => Pe s h h' ∧ Fte b n (k2sm b n f (ta h)) h h')) := by
    intro k
    induction k with
    | zero =>
      intro x1 h4 P F er c m
      have fin : h_i h4 1 34 = -1 → Fte b n (k2sm b n f (ta h)) h h4 := fun w => by
        obtain ⟨E, e, c⟩ := F.1 w
        rw [e]
        refine Or.inl ⟨w, rfl, rfl, ?_⟩
        show Cdm h h4 ((E ++ []).flatMap tkm)
        rw [List.append_nil]
        exact c
      refine t_X12_sum_9 (d + e) h4 P.1.1 x1 _ ⟨fun w => ⟨P, F.2 w⟩, fun w => ⟨fun e1 => ?_, fun _ => ⟨fun _ => ⟨P, fin w⟩, fun e1 => ?_⟩⟩⟩
      · rcases c with u | u
        · rw [e1] at u; exact absurd u (by decide)
        · omega
      · rcases c with u | u
        · rw [e1] at u; exact absurd u (by decide)
        · omega
    | succ k ih =>
      intro x1 h4 P F er c m
      have go : h_i h4 1 34 = -1 → pmb x1 = true → (∃ o, pmo x1 = [(o, 0)] ∧ tkm (o, 0) = [x1]) → opc x1 = true → ¬ x1 = -1 → Cv (m_X12_term (d + e + 52) 0 0) [.ref 1] (h_im h4 1 33 ((h_i h4 1 33) + 1)) (fun h9 => Wf h9 ∧ (Cv (m_X12_say (d + e + 0) 0 0) [.ref 1, .int x1] h9 (fun h12 => Wf h12 ∧ (Ci (m_X12_look (d + e + 0) 0 0) [.ref 1] h12 (fun r17 h15 => Wf h15 ∧ (AW (m_X12_sum (d + e + 53) 0 0) 0 0 9 [(0, .ref 1), (1, .int r17)] [] h15 (kV (fun h' => Pe s h h' ∧ Fte b n (k2sm b n f (ta h)) h h')))))))) := by
        intro w hp hm ho hn
        have l5 : pa h4 < pz h := by
          rcases c with u | u
          · exact absurd u hn
          · exact u
        obtain ⟨I6, F6, a6, q6, d6, s6⟩ := P.nx I q w l5
        refine Cv.mono (A d _ I6 q6 (by omega) (by rw [s6]; exact es) ((P.tp t).fr F6 (by decide +kernel))) (fun h9 Q => ⟨Q.1.1.1, Cv.mono (c_say (d + e) Q.1.1 x1 (Q.1.room I6 q6)) (fun h12 S => ?_)⟩)
        have P12 := P.op w I I6 F6 (by omega) Q.1 S ho
        have e33 : pa h12 = pa h9 := by show (h_i h12 1 33).toInt = _; rw [(S.2.1.2 1 33 (by decide +kernel)).1]
        have q4 := Q.1.2.2.2.1
        obtain ⟨o, eo, et⟩ := hm
        have G := Q.2.sy Q.1.1 S (o, 0) et
        have a6' : ta (h_im h4 1 33 ((h_i h4 1 33) + 1)) = ska b n (ta h4) + 1 := by
          have k1 := ta_i I6
          have k2 := ta_i P.1
          rw [er.2]
          omega
        rw [a6', ← eo] at G
        have F12 := lpse F w er.1 hp (Cdm.f0 F6 (by decide +kernel)) G
        refine ⟨S.1.1, Ci.mono (c_lookf (d + e) P12.1 (P12.tp t)) (fun r h15 L => ?_)⟩
        have l3 := L.1.2.2.1
        exact ⟨L.1.1.1, ih r h15 (P12.lk I L.1) (F12.lk (Cne.lp k) L) ⟨by rw [L.2.1, skv_i]; exact L.2.2, L.i⟩ (L.1.fwd (zf P12.2.1 (by decide +kernel))) (by omega)⟩
      have fin : h_i h4 1 34 = -1 → ¬ x1 = 43 → ¬ x1 = 45 → Fte b n (k2sm b n f (ta h)) h h4 := fun w n1 n2 => by
        have e : k2lp b n pmb pmo (k2tm b n f) (k + 1) (ta h4) = (true, ska b n (ta h4), []) := by
          unfold k2lp
          exact if_neg (by rw [← er.1]; exact fun y => (of_decide_eq_true y).elim n1 n2)
        obtain ⟨E, e1, c⟩ := F.1 w
        rw [e1, e]
        refine Or.inl ⟨w, rfl, rfl, ?_⟩
        show Cdm h h4 ((E ++ []).flatMap tkm)
        rw [List.append_nil]
        exact c
      refine t_X12_sum_9 (d + e) h4 P.1.1 x1 _ ⟨fun w => ⟨P, F.2 w⟩, fun w => ⟨fun e1 => go w (by rw [e1]; decide) ⟨5, by rw [e1]; rfl, by rw [e1]; rfl⟩ (by rw [e1]; decide) (by rw [e1]; decide), fun n1 => ⟨fun n2 => ⟨P, fin w n1 n2⟩, fun e1 => go w (by rw [e1]; decide) ⟨6, by rw [e1]; rfl, by rw [e1]; rfl⟩ (by rw [e1]; decide) (by rw [e1]; decide)⟩⟩⟩
  refine t_X12_sum (d + e) h I.1 _ (Cv.mono (A d h I q eD es t) (fun h1 P => ⟨P.1.1.1, Ci.mono (c_lookf (d + e) P.1.1 (P.1.tp t)) (fun r h4 L => ⟨L.1.1.1, lp 160 r h4 (P.1.lk I L.1) ((sqg (f := k2tm b n f) (Cne.lp 160) P.2).lk (Cne.lp 160) L) ⟨by rw [L.2.1, skv_i]; exact L.2.2, L.i⟩ (L.1.fwd (zf P.1.2.1 (by decide +kernel))) ?_⟩)⟩))
  have a1 : 0 ≤ pa h4 := (pa_in L.1.1).1
  omega
theorem c_compareg {b : Nat → Int32} {n : Nat} (s e : Nat) (D : Int) (f : Rce) (A : Rdg b n s D f (fun d h K => Cv (m_X12_sum (d + e + 53) 0 0) [.ref 1] h K)) (d : Nat) {h h2 : Hp_} (I : Iv h) (q : Pq h) (eD : pd h = D) (es : h_i h 1 37 = Int32.ofNat s) (t : Tp b n h) (P : Pe s h h2) {T : Bool × Nat × List Tk2} {hb : Hp_} (F : Sfe b n T (k2cm b n f) hb h2) : Cv (m_X12_compare (d + e + 54) 0 0) [.ref 1] h2 (fun h' => Pe s h h' ∧ Fte b n T hb h') := by
  refine t_X12_compare (d + e) h2 P.1.1 _ ⟨fun w => Ci.mono (c_isSignf (d + e) h2 (-1)) (fun r h3 k => ?_), fun w => Ci.mono (c_lookf (d + e) P.1 (P.tp t)) (fun r h5 L => ⟨L.1.1.1, Ci.mono (c_isSignf (d + e) h5 r) (fun r2 h6 k => ?_)⟩)⟩
  · obtain ⟨e3, k⟩ := k
    subst e3
    refine ⟨P.1.1, fun r0 => ?_, fun _ => Cv.mono (c_badw (d + e) P.1 w) (fun h4 b4 => ⟨b4.1.1, P.bad I q b4.1 b4.2.1 (by rw [b4.2.2]; exact w), (F.2 w).wr w b4.2.2⟩)⟩
    rcases k with k | k
    · exact absurd rfl k.2.2.2
    · exact absurd k.1 r0
  · obtain ⟨e6, k⟩ := k
    subst e6
    have P5 := P.lk I L.1
    have w5 : h_i h6 1 34 = -1 := by rw [(L.1.2.1.2 1 34 (by decide +kernel)).1]; exact w
    refine ⟨L.1.1.1, fun r0 => ?_, fun r0 => Cv.mono (c_badf (d + e) L.1.1 w5) (fun h4 b4 => ⟨b4.1.1, P5.bad I q b4.1 b4.2.1 b4.2.2.1, ?_⟩)⟩
    · rcases k with k | k
      · have l5 : pa h6 < pz h := by
          rcases L.1.fwd (zf P.2.1 (by decide +kernel)) with u | u
          · exact absurd u k.2.2.2
          · exact u
        obtain ⟨I6, F6, a6, q6, d6, s6⟩ := P5.nx I q w5 l5
        refine Cv.mono (A d _ I6 q6 (by omega) (by rw [s6]; exact es) ((P5.tp t).fr F6 (by decide +kernel))) (fun h9 Q => ⟨Q.1.1.1, Cv.mono (c_say (d + e) Q.1.1 r (Q.1.room I6 q6)) (fun h12 S => ⟨S.1.1, P5.op w5 I I6 F6 (by omega) Q.1 S k.2.2.1, ?_⟩)⟩)
        have et : tkm (cpo r) = [r] := by
          have sg := of_decide_eq_true (show decide (r = 61 ∨ r = 60 ∨ r = 62) = true from k.2.1)
          rcases sg with u | u | u <;> rw [u] <;> rfl
        have G := Q.2.sy Q.1.1 S (cpo r) et
        rw [nxa L I6 a6] at G
        refine F.ft w ?_
        have ec : k2cm b n f (ta h2) = k2app (f (ska b n (ta h2) + 1)) [cpo r] := by
          unfold k2cm
          rw [if_pos (by rw [← L.2.2]; exact k.2.1), ← L.2.2]
        rw [ec]
        exact G.b (Cdm.f0 (L.1.2.1.tr F6) (by decide +kernel))
      · exact absurd k.1 r0
    · rcases k with k | k
      · rw [r0] at k
        exact absurd k.1 (by decide)
      · obtain ⟨E, e1, _⟩ := F.1 w
        have ec : k2cm b n f (ta h2) = (false, ska b n (ta h2), []) := by
          unfold k2cm
          rw [if_neg (by rw [← L.2.2, k.2]; decide)]
        rw [e1, ec]
        exact Or.inr ⟨b4.2.2.1, rfl, by rw [b4.2.2.2, L.2.1]; rfl⟩
/-! the reference: atoms, conditions, units, with what they put down -/
theorem c_closesg (d : Nat) {b : Nat → Int32} {n : Nat} {h : Hp_} (I : Iv h) (t : Tp b n h) (x : Int32) (l : (h_i h 1 34 = -1 → pa h ≤ pz h) ∧ pa h ≤ 179) (hx : ¬ x = -1) (dl : 1 ≤ (h_i h 1 35).toInt) {T : Bool × Nat × List Tk2} {hb : Hp_} (F : Sfe b n T (k2ex b n x) hb h) : Cv (m_X12_closes (d + 1) 0 0) [.ref 1, .int x] h (fun h' => (Iv h' ∧ Fr [1033, 1034, 1035] h h' ∧ (h_i h' 1 35).toInt = (h_i h 1 35).toInt - 1 ∧ pa h + 1 ≤ pa h' ∧ (¬ h_i h 1 34 = -1 → h_i h' 1 34 = h_i h 1 34 ∧ pa h' = pa h + 1) ∧ (h_i h 1 34 = -1 → pa h' ≤ pz h + 1 ∧ (h_i h' 1 34 = -1 → pa h' ≤ pz h))) ∧ Fte b n T hb h') := by
  have t1 : (1 : Int32).toInt = 1 := rfl
  have p0 : 0 ≤ (h_i h 1 33).toInt := (pa_in I).1
  have z1 : (h_i h 1 32).toInt ≤ 160 := (pz_in I).2
  have d7 : (h_i h 1 35).toInt ≤ 7 := (dp_in7 I).2
  have st : ∀ h2, Iv h2 → Fr [1033, 1034, 1035] h h2 → h_i h2 1 35 = h_i h 1 35 → 0 ≤ pa h2 → pa h2 ≤ 179 → Iv (h_im (h_im h2 1 33 ((h_i h2 1 33) + 1)) 1 35 ((h_i h2 1 35) - 1)) ∧ Fr [1033, 1034, 1035] h (h_im (h_im h2 1 33 ((h_i h2 1 33) + 1)) 1 35 ((h_i h2 1 35) - 1)) ∧ (h_i (h_im (h_im h2 1 33 ((h_i h2 1 33) + 1)) 1 35 ((h_i h2 1 35) - 1)) 1 35).toInt = (h_i h 1 35).toInt - 1 ∧ pa (h_im (h_im h2 1 33 ((h_i h2 1 33) + 1)) 1 35 ((h_i h2 1 35) - 1)) = pa h2 + 1 ∧ h_i (h_im (h_im h2 1 33 ((h_i h2 1 33) + 1)) 1 35 ((h_i h2 1 35) - 1)) 1 34 = h_i h2 1 34 := by
    intro h2 I2 F2 e5 a0 a1
    have a0' : 0 ≤ (h_i h2 1 33).toInt := a0
    have a1' : (h_i h2 1 33).toInt ≤ 179 := a1
    have e33 : (h_i h2 1 33 + 1).toInt = (h_i h2 1 33).toInt + 1 := tx_add (by rw [t1]; omega) (by rw [t1]; omega)
    have e35 : (h_i h2 1 35 - 1).toInt = (h_i h 1 35).toInt - 1 := by rw [e5, tx_sub (by rw [t1]; omega) (by rw [t1]; omega), t1]
    refine ⟨i35 (i33 I2 ⟨by show (0 : Int) ≤ _; omega, by show _ ≤ (180 : Int); omega⟩) ⟨by show (0 : Int) ≤ _; omega, by show _ ≤ (7 : Int); omega⟩, (F2.im (by decide +kernel)).im (by decide +kernel), by rw [im_at]; exact e35, ?_, by rw [f_ne (by decide), f_ne (by decide)]⟩
    show (h_i (h_im (h_im h2 1 33 _) 1 35 _) 1 33).toInt = _
    rw [f_ne (by decide), im_at]; exact e33
  refine t_X12_closes d h I.1 x _ ⟨fun nw => ?_, fun w => ?_⟩
  · obtain ⟨s1, s2, s3, s4, s5⟩ := st h I (Fr.rf _ _) rfl p0 l.2
    exact ⟨⟨s1, s2, s3, by omega, fun _ => ⟨s5, s4⟩, fun y => absurd y nw⟩, (F.2 nw).wr nw s5⟩
  · have lw : (h_i h 1 33).toInt ≤ (h_i h 1 32).toInt := l.1 w
    refine Ci.mono (c_lookf d I t) (fun r h2 LL => ?_)
    have L := LL.1
    obtain ⟨I2, F2, l1, l2, lr⟩ := L
    have F2' : Fr [1033, 1034, 1035] h h2 := F2.more (by decide +kernel)
    have e5 : h_i h2 1 35 = h_i h 1 35 := (F2.2 1 35 (by decide +kernel)).1
    have e4 : h_i h2 1 34 = h_i h 1 34 := (F2.2 1 34 (by decide +kernel)).1
    have l1' : (h_i h 1 33).toInt ≤ (h_i h2 1 33).toInt := l1
    have l2' : (h_i h2 1 33).toInt ≤ (h_i h 1 32).toInt := by
      rcases l2 with u | u
      · have u' : (h_i h2 1 33).toInt ≤ (h_i h 1 33).toInt := u
        omega
      · exact u
    refine ⟨I2.1, fun er => ?_, fun nr => ?_⟩
    · have at2 : (h_i h2 1 33).toInt < (h_i h 1 32).toInt := by
        rcases lr with u | u
        · exact absurd (er.symm.trans u.1) hx
        · exact u.1
      obtain ⟨s1, s2, s3, s4, s5⟩ := st h2 I2 F2' e5 (by show 0 ≤ (h_i h2 1 33).toInt; omega) (by show (h_i h2 1 33).toInt ≤ 179; omega)
      refine ⟨⟨s1, s2, s3, ?_, fun y => absurd w y, fun _ => ⟨?_, fun _ => ?_⟩⟩, ?_⟩
      · rw [s4]; show (h_i h 1 33).toInt + 1 ≤ (h_i h2 1 33).toInt + 1; omega
      · rw [s4]; show (h_i h2 1 33).toInt + 1 ≤ (h_i h 1 32).toInt + 1; omega
      · rw [s4]; show (h_i h2 1 33).toInt + 1 ≤ (h_i h 1 32).toInt; omega
      · refine F.ft w ?_
        have ec : k2ex b n x (ta h) = (true, ska b n (ska b n (ta h) + 1), []) := by
          unfold k2ex
          rw [if_pos (by rw [← LL.2.2]; exact er)]
        rw [ec]
        exact Or.inl ⟨by rw [s5, e4]; exact w, rfl, by rw [nxa LL s1 s4], Cdm.f0 s2 (by decide +kernel)⟩
    · have w2 : h_i h2 1 34 = -1 := by rw [e4]; exact w
      refine Cv.mono (c_badf d I2 w2) (fun h3 k => ?_)
      have f3 : h_i h3 1 33 = h_i h2 1 33 := (k.2.1.2 1 33 (by decide +kernel)).1
      have f5 : h_i h3 1 35 = h_i h 1 35 := (k.2.1.2 1 35 (by decide +kernel)).1.trans e5
      obtain ⟨s1, s2, s3, s4, s5⟩ := st h3 k.1 (F2'.tr (k.2.1.more (by decide +kernel))) f5 (by show 0 ≤ (h_i h3 1 33).toInt; rw [f3]; omega) (by show (h_i h3 1 33).toInt ≤ 179; rw [f3]; omega)
      refine ⟨k.1.1, ⟨s1, s2, s3, ?_, fun y => absurd w y, fun _ => ⟨?_, fun y => absurd (s5.symm.trans y) k.2.2.1⟩⟩, ?_⟩
      · rw [s4]; show (h_i h 1 33).toInt + 1 ≤ (h_i h3 1 33).toInt + 1; rw [f3]; omega
      · rw [s4]; show (h_i h3 1 33).toInt + 1 ≤ (h_i h 1 32).toInt + 1; rw [f3]; omega
      · refine F.ft w ?_
        have ec : k2ex b n x (ta h) = (false, ska b n (ta h), []) := by
          unfold k2ex
          rw [if_neg (by rw [← LL.2.2]; exact nr)]
        rw [ec]
        exact Or.inr ⟨by rw [s5]; exact k.2.2.1, rfl, by rw [s5, k.2.2.2, LL.2.1]⟩
theorem c_atomg {b : Nat → Int32} {n : Nat} (s e : Nat) (D : Int) (hs : s = 1 ∨ s = 2) (z : Bool) (f : Rce) (hz : z = true ↔ ¬ D ≤ 5) (B : D ≤ 5 → Rdg b n s (D + 1) f (fun d h K => Cv (m_X12_sum (d + e + 53) 0 0) [.ref 1] h K)) : Rdg b n s D (k2at b n (ltb s) z f) (fun d h K => Cv (m_X12_atom (d + e + 61) 0 0) [.ref 1] h K) := by
  intro d h I q eD es t
  have z1 : pz h ≤ 160 := (pz_in I).2
  have q1 := q.1
  have q2 := q.2.1
  have q3 := q.2.2.1
  have q5 := q.said I
  refine t_X12_atom (d + e) h I.1 _ (Ci.mono (c_lookf (d + e) I t) (fun r h1 LL => ⟨LL.1.1.1, fun n91 => ?_, fun er => ?_⟩))
  · have L := LL.1
    have s1 : h_i h1 1 37 = Int32.ofNat s := by rw [(L.2.1.2 1 37 (by decide +kernel)).1]; exact es
    rw [s1]
    refine Ci.mono (c_isLetterf (d + e) h1 r hs) (fun r2 h2 k => ?_)
    obtain ⟨e2, k⟩ := k
    subst e2
    have w1 : h_i h2 1 34 = -1 := by rw [(L.2.1.2 1 34 (by decide +kernel)).1]; exact q1
    have z2 := zf L.2.1 (by decide +kernel)
    have a1 : pa h2 ≤ pz h := by
      rcases L.2.2.2.1 with u | u
      · omega
      · exact u
    have l3 := L.2.2.1
    have p1 : ps h2 = ps h := by show (h_i h2 1 36).toInt = _; rw [(L.2.1.2 1 36 (by decide +kernel)).1]
    refine ⟨L.1.1, fun r0 => ?_, fun r0 => ?_⟩
    · have nl : ltb s r = false := by
        rcases k with k | k
        · exact k.2
        · exact absurd r0 k.1
      have ea : ∀ v : Int32, ((nm0 b n (ta h)).1 = true → v = k2nv b n (ta h)) → ∃ t : Tk2, ((nm0 b n (ta h)).1 = true → tkm t = [0, v]) ∧ ((nm0 b n (ta h)).1 = true → k2at b n (ltb s) z f (ta h) = k2app ((nm0 b n (ta h)).1, (nm0 b n (ta h)).2, []) [t]) ∧ (k2at b n (ltb s) z f (ta h)).1 = (nm0 b n (ta h)).1 ∧ (k2at b n (ltb s) z f (ta h)).2.1 = (nm0 b n (ta h)).2 := fun v ev => by
        refine ⟨(0, k2nv b n (ta h)), fun y => by rw [ev y]; rfl, ?_⟩
        unfold k2at
        by_cases c : dgb (skv b n (ta h)) = true
        · rw [if_pos c]
          exact ⟨fun _ => rfl, rfl, rfl⟩
        · rw [if_neg c, if_neg (by rw [← LL.2.2]; exact n91)]
          unfold k2on nm0
          rw [if_neg c, if_neg (show ¬ ltb s (skv b n (ta h)) = true by rw [← LL.2.2, nl]; decide)]
          exact ⟨fun y => absurd y (by simp), rfl, rfl⟩
      refine Ci.mono (c_numberf (d + e) L.1 (LL.t t) w1 (by omega)) (fun v h3 NN => ⟨NN.1.1.1, ?_⟩)
      obtain ⟨N, NF, NV⟩ := NN
      obtain ⟨n1, n2, n3, n4, n5⟩ := N
      rw [LL.2.1, nm0_c] at NF
      have p3 : ps h3 = ps h2 := by show (h_i h3 1 36).toInt = _; rw [(n2.2 1 36 (by decide +kernel)).1]
      refine Cv.mono (c_say (d + e) n1 0 (by show ps h3 ≤ 558; omega)) (fun h4 S => ⟨S.1.1, Cv.mono (c_say (d + e) S.1 v ?_) (fun h5 S' => ⟨S'.1.1, ?_, ?_⟩)⟩)
      · have := S.2.2.1
        show ps h4 ≤ 558
        have e4 : ps h4 = ps h3 + 1 := this
        omega
      · exact Pe.two I q ((L.2.1.more (by decide +kernel)).tr n2) (by omega) (by omega) (fun w => by have := n5 w; omega) S S' (Or.inl rfl)
      · have w3 : (nm0 b n (ta h)).1 = true → h_i h3 1 34 = -1 := fun y => by
          rcases NF with NF | NF
          · exact NF.1
          · exact absurd (NF.2.1.symm.trans y) (by decide)
        obtain ⟨tk, k1, k2, k3, k4⟩ := ea v (fun y => by
          have z := (NV (w3 y)).2
          unfold k2nv
          rw [LL.2.1, ska_i] at z
          rw [z])
        have f03 : Fr [1033, 1034] h h3 := (L.2.1.more (by decide +kernel)).tr n2
        have cd3 : Cdm h h3 [] := Cdm.f0 f03 (by decide +kernel)
        rcases NF with NF | NF
        · have G : Fte b n ((nm0 b n (ta h)).1, (nm0 b n (ta h)).2, []) h h3 := Or.inl ⟨NF.1, NF.2.1, NF.2.2, cd3⟩
          have G' := G.sz n1 S S' tk k1
          rw [← k2 NF.2.1] at G'
          exact G'
        · have f := S.2.1.tr S'.2.1
          have e4 : h_i h5 1 34 = h_i h3 1 34 := (f.2 1 34 (by decide +kernel)).1
          exact Or.inr ⟨by rw [e4]; exact NF.1, k3.trans NF.2.1, by rw [e4, k4]; exact NF.2.2⟩
    · have k : ltb s r = true ∧ ¬ r = -1 ∧ okl s r = true := by
        rcases k with k | k
        · exact absurd k.1 r0
        · exact k.2
      have l5 : pa h2 < pz h := by
        rcases L.fwd rfl with u | u
        · exact absurd u k.2.1
        · exact u
      have nd := lt_dg hs k.1
      have ea : k2at b n (ltb s) z f (ta h) = k2app (true, ska b n (ska b n (ta h) + 1), []) [(1, r)] := by
        unfold k2at
        rw [if_neg (by rw [← LL.2.2]; exact nd.1), if_neg (by rw [← LL.2.2]; exact nd.2)]
        unfold k2on
        rw [if_pos (by rw [← LL.2.2]; exact k.1), ← LL.2.2]
        rfl
      have a0 : 0 ≤ pa h2 := (pa_in L.1).1
      have o1 : (1 : Int32).toInt = 1 := rfl
      have e33 : (h_i h2 1 33 + 1).toInt = pa h2 + 1 := by
        show (h_i h2 1 33 + 1).toInt = (h_i h2 1 33).toInt + 1
        have a0' : 0 ≤ (h_i h2 1 33).toInt := a0
        have l' : (h_i h2 1 33).toInt < pz h := l5
        rw [tx_add (by rw [o1]; omega) (by rw [o1]; omega), o1]
      have I3 : Iv (h_im h2 1 33 ((h_i h2 1 33) + 1)) := i33 L.1 ⟨by rw [e33]; show (0 : Int) ≤ _; omega, by rw [e33]; show _ ≤ (180 : Int); omega⟩
      have F3 : Fr [1033] h2 (h_im h2 1 33 ((h_i h2 1 33) + 1)) := (Fr.rf _ _).im (by decide +kernel)
      have ea3 : pa (h_im h2 1 33 ((h_i h2 1 33) + 1)) = pa h2 + 1 := by
        show (h_i (h_im h2 1 33 _) 1 33).toInt = _
        rw [im_at]; exact e33
      have es' : ps (h_im h2 1 33 ((h_i h2 1 33) + 1)) = ps h2 := by
        show (h_i (h_im h2 1 33 _) 1 36).toInt = _
        rw [f_ne (by decide)]
      have F0 : Fte b n (true, ska b n (ska b n (ta h) + 1), []) h (h_im h2 1 33 ((h_i h2 1 33) + 1)) := Or.inl ⟨by rw [f_ne (by decide)]; exact w1, rfl, by rw [nxa LL I3 ea3], Cdm.f0 (L.2.1.tr F3) (by decide +kernel)⟩
      refine Cv.mono (c_say (d + e) I3 1 (by show ps (h_im h2 1 33 _) ≤ 558; omega)) (fun h4 S => ⟨S.1.1, Cv.mono (c_say (d + e) S.1 r ?_) (fun h5 S' => ⟨S'.1.1, ?_, by rw [ea]; exact F0.sz I3 S S' (1, r) (fun _ => rfl)⟩)⟩)
      · have e4 : ps h4 = ps (h_im h2 1 33 ((h_i h2 1 33) + 1)) + 1 := S.2.2.1
        show ps h4 ≤ 558
        omega
      · exact Pe.two I q ((L.2.1.tr F3).more (by decide +kernel)) (by omega) (by omega) (fun w => by omega) S S' (Or.inr ⟨rfl, k.2.2⟩)
  · have L := LL.1
    have l5 : pa h1 < pz h := by
      rcases L.fwd rfl with u | u
      · rw [er] at u; exact absurd u (by decide)
      · exact u
    have z2 := zf L.2.1 (by decide +kernel)
    have e35 : pd h1 = pd h := by show (h_i h1 1 35).toInt = _; rw [(L.2.1.2 1 35 (by decide +kernel)).1]
    have w1 : h_i h1 1 34 = -1 := by rw [(L.2.1.2 1 34 (by decide +kernel)).1]; exact q1
    have e91 : skv b n (ta h) = 91 := by rw [← LL.2.2]; exact er
    have ea : k2at b n (ltb s) z f (ta h) = if z = true then (false, ska b n (ta h), []) else k2sq f (k2ex b n 93) (ska b n (ta h) + 1) := by
      unfold k2at
      rw [if_neg (by rw [e91]; decide), if_pos e91]
    refine Ci.mono (c_opensf (b := b) (n := n) (d + e) L.1 w1 (by omega) (by show pd h1 ≤ 6; omega)) (fun r2 h2 k => ?_)
    obtain ⟨I2, F2, k⟩ := k
    refine ⟨I2.1, fun r0 => ?_, fun r0 => ?_⟩
    · rcases k with k | k
      · rw [k.1] at r0; exact absurd r0 (by decide)
      · refine ⟨Pe.no I q L I2 F2 k.2.1 k.2.2.1 k.2.2.2.1, ?_⟩
        have d6 : pd h1 = 6 := k.2.2.2.2.2
        rw [ea, if_pos (hz.mpr (by omega))]
        exact Or.inr ⟨k.2.1, rfl, by rw [k.2.2.2.2.1, LL.2.1]⟩
    · rcases k with k | k
      · obtain ⟨k1, k2, k3, k4, k5⟩ := k
        obtain ⟨Q2, G2, b2, d2, d5, s2⟩ := op_q I q L l5 I2 F2 k2 k3 k4 k5
        rw [ea, if_neg (fun y => absurd (by omega) (hz.mp y))]
        refine Cv.mono (B (by omega) d h2 I2 Q2 (by omega) (by rw [s2]; exact es) (t.fr G2 (by decide +kernel))) (fun h3 PP => ?_)
        obtain ⟨P, PF⟩ := PP
        rw [nxa LL I2 k3] at PF
        refine ⟨P.1.1, Cv.mono (c_closesg (d + e) P.1 (P.tp (t.fr G2 (by decide +kernel))) 93 ?_ (by decide) ?_ (hb := h) (sqg (f := f) Cne.ex (PF.b (Cdm.f0 G2 (by decide +kernel))))) (fun h4 C => ⟨C.1.1.1, Pe.br I q G2 b2 d2 d5 P C.1, C.2⟩)⟩
        · have z3 := zf P.2.1 (by decide +kernel)
          have z4 := zf G2 (by decide +kernel)
          refine ⟨fun w => ?_, ?_⟩
          · have := (P.2.2.2.2.2.2.1 w).1
            omega
          · have d0 : 0 ≤ pd h2 := (dp_in7 I2).1
            by_cases w : h_i h3 1 34 = -1
            · have := (P.2.2.2.2.2.2.1 w).1
              omega
            · have := (P.2.2.2.2.2.2.2 w).1
              omega
        · have p3 := P.2.2.1
          have d0 : 0 ≤ pd h := (dp_in7 I).1
          show 1 ≤ pd h3
          omega
      · exact absurd k.1 r0
theorem part_lpg {b : Nat → Int32} {n : Nat} (s e : Nat) (D : Int) (u : Rce) (A : Rdg b n s D u (fun d h K => Cv (m_X12_unit (d + e + 55) 0 0) [.ref 1] h K)) (d : Nat) {h : Hp_} (I : Iv h) (q : Pq h) (eD : pd h = D) (es : h_i h 1 37 = Int32.ofNat s) (t : Tp b n h) {hb : Hp_} (T : Bool × Nat × List Tk2) :
    ∀ (k : Nat) (h2 : Hp_), Pe s h h2 → Sfe b n T (k2lp b n (isq 38) (fun _ => [(11, 0)]) u k) hb h2 → pz h - pa h2 ≤ k → AW (m_X12_part (d + e + 56) 0 0) 0 0 15 [(0, .ref 1)] [] h2 (kV (fun h' => Pe s h h' ∧ Fte b n T hb h')) := by
  intro k
  induction k with
  | zero =>
    intro h2 P F m
    refine t_X12_part_15 (d + e) h2 P.1.1 _ ⟨fun w => ⟨P, F.2 w⟩, fun w => Ci.mono (c_lookf (d + e) P.1 (P.tp t)) (fun r h5 L => ⟨L.1.1.1, fun _ => ⟨P.lk I L.1, lp0e F w L⟩, fun er => ?_⟩)⟩
    have l3 := L.1.2.2.1
    rcases L.1.fwd (zf P.2.1 (by decide +kernel)) with v | v
    · rw [er] at v; exact absurd v (by decide)
    · omega
  | succ k ih =>
    intro h2 P F m
    refine t_X12_part_15 (d + e) h2 P.1.1 _ ⟨fun w => ⟨P, F.2 w⟩, fun w => Ci.mono (c_lookf (d + e) P.1 (P.tp t)) (fun r h5 L => ⟨L.1.1.1, fun nr => ⟨P.lk I L.1, lpxe F w L (decide_eq_false nr)⟩, fun er => ?_⟩)⟩
    have P5 := P.lk I L.1
    have w5 : h_i h5 1 34 = -1 := by rw [(L.1.2.1.2 1 34 (by decide +kernel)).1]; exact w
    have l3 := L.1.2.2.1
    have l5 : pa h5 < pz h := by
      rcases L.1.fwd (zf P.2.1 (by decide +kernel)) with v | v
      · rw [er] at v; exact absurd v (by decide)
      · exact v
    obtain ⟨I6, F6, a6, q6, d6, s6⟩ := P5.nx I q w5 l5
    refine Cv.mono (A d _ I6 q6 (by omega) (by rw [s6]; exact es) ((P5.tp t).fr F6 (by decide +kernel))) (fun h9 Q => ⟨Q.1.1.1, Cv.mono (c_say (d + e) Q.1.1 38 (Q.1.room I6 q6)) (fun h12 S => ?_)⟩)
    have P12 := P5.op w5 I I6 F6 (by omega) Q.1 S (by decide)
    have e33 : pa h12 = pa h9 := by show (h_i h12 1 33).toInt = _; rw [(S.2.1.2 1 33 (by decide +kernel)).1]
    have q4 := Q.1.2.2.2.1
    have G := Q.2.sy Q.1.1 S (11, 0) rfl
    rw [nxa L I6 a6] at G
    exact ⟨S.1.1, ih h12 P12 (lpse F w L.2.2 (decide_eq_true er) (Cdm.f0 (L.1.2.1.tr F6) (by decide +kernel)) G) (by omega)⟩
theorem condition_lpg {b : Nat → Int32} {n : Nat} (s e : Nat) (D : Int) (u : Rce) (A : Rdg b n s D u (fun d h K => Cv (m_X12_part (d + e + 56) 0 0) [.ref 1, .int 0] h K)) (d : Nat) {h : Hp_} (I : Iv h) (q : Pq h) (eD : pd h = D) (es : h_i h 1 37 = Int32.ofNat s) (t : Tp b n h) {hb : Hp_} (T : Bool × Nat × List Tk2) :
    ∀ (k : Nat) (h2 : Hp_), Pe s h h2 → Sfe b n T (k2lp b n (isq 124) (fun _ => [(12, 0)]) u k) hb h2 → pz h - pa h2 ≤ k → AW (m_X12_condition (d + e + 57) 0 0) 0 0 5 [(0, .ref 1)] [] h2 (kV (fun h' => Pe s h h' ∧ Fte b n T hb h')) := by
  intro k
  induction k with
  | zero =>
    intro h2 P F m
    refine t_X12_condition_5 (d + e) h2 P.1.1 _ ⟨fun w => ⟨P, F.2 w⟩, fun w => Ci.mono (c_lookf (d + e) P.1 (P.tp t)) (fun r h5 L => ⟨L.1.1.1, fun _ => ⟨P.lk I L.1, lp0e F w L⟩, fun er => ?_⟩)⟩
    have l3 := L.1.2.2.1
    rcases L.1.fwd (zf P.2.1 (by decide +kernel)) with v | v
    · rw [er] at v; exact absurd v (by decide)
    · omega
  | succ k ih =>
    intro h2 P F m
    refine t_X12_condition_5 (d + e) h2 P.1.1 _ ⟨fun w => ⟨P, F.2 w⟩, fun w => Ci.mono (c_lookf (d + e) P.1 (P.tp t)) (fun r h5 L => ⟨L.1.1.1, fun nr => ⟨P.lk I L.1, lpxe F w L (decide_eq_false nr)⟩, fun er => ?_⟩)⟩
    have P5 := P.lk I L.1
    have w5 : h_i h5 1 34 = -1 := by rw [(L.1.2.1.2 1 34 (by decide +kernel)).1]; exact w
    have l3 := L.1.2.2.1
    have l5 : pa h5 < pz h := by
      rcases L.1.fwd (zf P.2.1 (by decide +kernel)) with v | v
      · rw [er] at v; exact absurd v (by decide)
      · exact v
    obtain ⟨I6, F6, a6, q6, d6, s6⟩ := P5.nx I q w5 l5
    refine Cv.mono (A d _ I6 q6 (by omega) (by rw [s6]; exact es) ((P5.tp t).fr F6 (by decide +kernel))) (fun h9 Q => ⟨Q.1.1.1, Cv.mono (c_say (d + e) Q.1.1 124 (Q.1.room I6 q6)) (fun h12 S => ?_)⟩)
    have P12 := P5.op w5 I I6 F6 (by omega) Q.1 S (by decide)
    have e33 : pa h12 = pa h9 := by show (h_i h12 1 33).toInt = _; rw [(S.2.1.2 1 33 (by decide +kernel)).1]
    have q4 := Q.1.2.2.2.1
    have G := Q.2.sy Q.1.1 S (12, 0) rfl
    rw [nxa L I6 a6] at G
    exact ⟨S.1.1, ih h12 P12 (lpse F w L.2.2 (decide_eq_true er) (Cdm.f0 (L.1.2.1.tr F6) (by decide +kernel)) G) (by omega)⟩
theorem c_part0g {b : Nat → Int32} {n : Nat} (s e : Nat) (D : Int) (u : Rce) (A : Rdg b n s D u (fun d h K => Cv (m_X12_unit (d + e + 55) 0 0) [.ref 1] h K)) : Rdg b n s D (k2pt b n u) (fun d h K => Cv (m_X12_part (d + e + 56) 0 0) [.ref 1, .int 0] h K) := by
  intro d h I q eD es t
  exact t_X12_part (d + e) h I.1 0 _ ⟨fun _ => Cv.mono (A d h I q eD es t) (fun h2 P => ⟨P.1.1.1, part_lpg s e D u A d I q eD es t _ 160 h2 P.1 (sqg (f := u) (Cne.lp 160) P.2) (P.1.m I)⟩), fun n => absurd rfl n⟩
theorem c_cond0g {b : Nat → Int32} {n : Nat} (s e : Nat) (D : Int) (u : Rce) (A : Rdg b n s D u (fun d h K => Cv (m_X12_unit (d + e + 55) 0 0) [.ref 1] h K)) : Rdg b n s D (k2cd b n u) (fun d h K => Cv (m_X12_condition (d + e + 57) 0 0) [.ref 1, .int 0] h K) := by
  intro d h I q eD es t
  rw [k2pt_a]
  exact t_X12_condition (d + e) h I.1 0 _ (Cv.mono (c_part0g s e D u A d h I q eD es t) (fun h2 P => ⟨P.1.1.1, condition_lpg s e D _ (c_part0g s e D u A) d I q eD es t _ 160 h2 P.1 (sqg (f := k2pt b n u) (Cne.lp 160) P.2) (P.1.m I)⟩))
/-- a condition whose first sum stands -/
theorem c_cond1g {b : Nat → Int32} {n : Nat} (s e : Nat) (D : Int) (u f : Rce) (A : Rdg b n s D u (fun d h K => Cv (m_X12_unit (d + e + 55) 0 0) [.ref 1] h K)) (B : Rdg b n s D f (fun d h K => Cv (m_X12_sum (d + e + 53) 0 0) [.ref 1] h K)) (d : Nat) {h h2 : Hp_} (I : Iv h) (q : Pq h) (eD : pd h = D) (es : h_i h 1 37 = Int32.ofNat s) (t : Tp b n h) (P : Pe s h h2) (w : h_i h2 1 34 = -1) :
    Cv (m_X12_condition (d + e + 57) 0 0) [.ref 1, .int 1] h2 (fun h' => Pe s h h' ∧ Fte b n (k2sq (k2cm b n f) (k2mp b n u) (ta h2)) h2 h') := by
  have e1 : k2sq (k2cm b n f) (k2mp b n u) = k2sq (k2sq (k2cm b n f) (k2mu b n u)) (k2lp b n (isq 124) (fun _ => [(12, 0)]) (k2pt b n u) 160) := by
    unfold k2mp
    rw [k2sq_a]
  rw [e1]
  refine t_X12_condition (d + e) h2 P.1.1 1 _ (Cv.mono (K := fun h3 => Pe s h h3 ∧ Fte b n (k2sq (k2cm b n f) (k2mu b n u) (ta h2)) h2 h3) ?_ (fun h3 P3 => ⟨P3.1.1.1, condition_lpg s e D _ (c_part0g s e D u A) d I q eD es t _ 160 h3 P3.1 (sqg (f := k2sq (k2cm b n f) (k2mu b n u)) (Cne.lp 160) P3.2) (P3.1.m I)⟩))
  exact t_X12_part (d + e) h2 P.1.1 1 _ ⟨fun n => absurd n (by decide), fun _ => Cv.mono (c_compareg s e D f B d I q eD es t P (T := k2cm b n f (ta h2)) (hb := h2) ⟨fun _ => ⟨[], rfl, Cdm.rf h2⟩, fun y => absurd w y⟩) (fun h3 P3 => ⟨P3.1.1.1, part_lpg s e D u A d I q eD es t _ 160 h3 P3.1 (sqg (f := k2cm b n f) (Cne.lp 160) P3.2) (P3.1.m I)⟩)⟩
theorem c_unitg {b : Nat → Int32} {n : Nat} (s e r0 : Nat) (D : Int) (hD : D = 6 - (r0 : Int)) (lt : Int32 → Bool) (B : Rdg b n s D (k2ss b n lt r0) (fun d h K => Cv (m_X12_sum (d + e + 53) 0 0) [.ref 1] h K)) (U : ∀ r, r0 = r + 1 → Rdg b n s (D + 1) (k2un b n lt r) (fun d h K => Cv (m_X12_unit (d + e + 55) 0 0) [.ref 1] h K)) : Rdg b n s D (k2un b n lt r0) (fun d h K => Cv (m_X12_unit (d + e + 65) 0 0) [.ref 1] h K) := by
  intro d h I q eD es t
  have z1 : pz h ≤ 160 := (pz_in I).2
  have q1 := q.1
  have q2 := q.2.1
  have q3 := q.2.2.1
  have q5 := q.said I
  have d0 : 0 ≤ pd h := (dp_in7 I).1
  refine t_X12_unit (d + e) h I.1 _ (Ci.mono (c_lookf (d + e) I t) (fun r h1 LL => ?_))
  have L := LL.1
  have z2 := zf L.2.1 (by decide +kernel)
  have e35 : pd h1 = pd h := by show (h_i h1 1 35).toInt = _; rw [(L.2.1.2 1 35 (by decide +kernel)).1]
  have e36 : h_i h1 1 36 = h_i h 1 36 := (L.2.1.2 1 36 (by decide +kernel)).1
  have f226 : h_i h1 226 = h_i h 226 := funext (fun k => fr_i L.2.1 (by decide +kernel) k)
  have ps1 : ps h1 = ps h := by show (h_i h1 1 36).toInt = _; rw [e36]
  have sn1 : sN h1 = sN h := by show (h_i h1 1 36).toNatClampNeg = _; rw [e36]
  have l3 := L.2.2.1
  have w1 : h_i h1 1 34 = -1 := by rw [(L.2.1.2 1 34 (by decide +kernel)).1]; exact q1
  have a1 : pa h1 ≤ pz h := by
    rcases L.2.2.2.1 with u | u
    · omega
    · exact u
  have op : pa h1 < pz h → Ci (m_X12_opens (d + e + 1) 0 0) [.ref 1] h1 (fun r2 h2 => Iv h2 ∧ (r2 = 0 → Pe s h h2 ∧ r0 = 0 ∧ ¬ h_i h2 1 34 = -1 ∧ h_i h2 1 34 = Int32.ofNat (ska b n (ta h))) ∧ (¬ r2 = 0 → Pq h2 ∧ Fr [1033, 1034, 1035] h h2 ∧ pa h + 1 ≤ pa h2 ∧ pd h2 = pd h + 1 ∧ pd h ≤ 5 ∧ h_i h2 1 37 = h_i h 1 37 ∧ ta h2 = ska b n (ta h) + 1)) := by
    intro l5
    refine Ci.mono (c_opensf (b := b) (n := n) (d + e) L.1 w1 (by omega) (by show pd h1 ≤ 6; omega)) (fun r2 h2 k => ?_)
    obtain ⟨I2, F2, k⟩ := k
    refine ⟨I2, fun r0 => ?_, fun r0 => ?_⟩
    · rcases k with k | k
      · rw [k.1] at r0; exact absurd r0 (by decide)
      · have d6 : pd h1 = 6 := k.2.2.2.2.2
        exact ⟨Pe.no I q L I2 F2 k.2.1 k.2.2.1 k.2.2.2.1, by omega, k.2.1, by rw [k.2.2.2.2.1, LL.2.1]⟩
    · rcases k with k | k
      · obtain ⟨k1, k2, k3, k4, k5⟩ := k
        obtain ⟨v1, v2, v3, v4, v5, v6⟩ := op_q I q L l5 I2 F2 k2 k3 k4 k5
        exact ⟨v1, v2, v3, v4, v5, v6, nxa LL I2 k3⟩
      · exact absurd k.1 r0
  refine ⟨L.1.1, fun n1 => ⟨fun n2 => ?_, fun er => ?_⟩, fun er => ?_⟩
  · have qh1 : Pq h1 := ⟨w1, by omega, by omega, by have := q.2.2.2; omega⟩
    have Pl : ∀ h6, Pe s h1 h6 → Pe s h h6 := fun h6 P => by
      obtain ⟨p1, p2, p3, p4, p5, p6, p7, p8⟩ := P
      refine ⟨p1, (L.2.1.more (by decide +kernel)).tr p2, by omega, by omega, fun k hk => by rw [p5 k (by omega), f226], by omega, fun w => ?_, fun w => ?_⟩
      · obtain ⟨t1, t2, t3, K, t4, t5⟩ := p7 w
        exact ⟨by omega, by omega, by omega, K, by omega, by rw [← sn1]; exact t5⟩
      · obtain ⟨t1, t2⟩ := p8 w
        exact ⟨by omega, by omega⟩
    have eu : k2un b n lt r0 (ta h) = k2sq (k2ss b n lt r0) (k2cm b n (k2ss b n lt r0)) (ta h1) := by
      rw [LL.2.1, Cne.sq (Cne.ss r0) (ta h)]
      have x1 : ¬ skv b n (ta h) = 33 := by rw [← LL.2.2]; exact n1
      have x2 : ¬ skv b n (ta h) = 40 := by rw [← LL.2.2]; exact n2
      cases r0 with
      | zero =>
        unfold k2un
        exact if_neg (fun y => y.elim x1 x2)
      | succ r0 =>
        unfold k2un
        rw [if_neg x1, if_neg x2]
    rw [eu]
    refine Cv.mono (B d h1 L.1 qh1 (by omega) (by rw [(L.2.1.2 1 37 (by decide +kernel)).1]; exact es) (LL.t t)) (fun h6 P => ⟨P.1.1.1, Cv.mono (c_compareg s e D _ B d I q eD es t (Pl h6 P.1) (hb := h) (sqg (f := k2ss b n lt r0) Cne.cm (P.2.b (Cdm.f0 L.2.1 (by decide +kernel))))) (fun h9 P9 => ⟨P9.1.1.1, P9⟩)⟩)
  · have l5 : pa h1 < pz h := by
      rcases L.fwd rfl with u | u
      · rw [er] at u; exact absurd u (by decide)
      · exact u
    have e40 : skv b n (ta h) = 40 := by rw [← LL.2.2]; exact er
    refine Ci.mono (op l5) (fun r2 h2 k => ⟨k.1.1, fun y => ?_, fun r0n => ?_⟩)
    · obtain ⟨k1, k2, k3, k4⟩ := k.2.1 y
      refine ⟨k1, ?_⟩
      rw [k2]
      have eu : k2un b n lt 0 (ta h) = (false, ska b n (ta h), []) := by
        unfold k2un
        exact if_pos (Or.inr e40)
      rw [eu]
      exact Or.inr ⟨k3, rfl, k4⟩
    · obtain ⟨Q2, G2, b2, d2, d5, s2, a2⟩ := k.2.2 r0n
      have t2 : Tp b n h2 := t.fr G2 (by decide +kernel)
      cases r0 with
      | zero => exact absurd d5 (by omega)
      | succ r0 =>
        have eu : k2un b n lt (r0 + 1) (ta h) = k2sq (k2cd b n (k2un b n lt r0)) (k2ex b n 41) (ta h2) := by
          show (if skv b n (ta h) = 33 then k2app (k2un b n lt r0 (ska b n (ta h) + 1)) [(2, 0)] else if skv b n (ta h) = 40 then k2sq (k2cd b n (k2un b n lt r0)) (k2ex b n 41) (ska b n (ta h) + 1) else k2sq (k2ss b n lt (r0 + 1)) (k2cm b n (k2ss b n lt (r0 + 1))) (ta h)) = _
          rw [if_neg (by rw [e40]; decide), if_pos e40, a2]
        rw [eu]
        refine Cv.mono (c_cond0g s e (D + 1) _ (U r0 rfl) d h2 k.1 Q2 (by omega) (by rw [s2]; exact es) t2) (fun h3 PP => ?_)
        obtain ⟨P, PF⟩ := PP
        refine ⟨P.1.1, Cv.mono (c_closesg (d + e) P.1 (P.tp t2) 41 ?_ (by decide) ?_ (hb := h) (sqg (f := k2cd b n (k2un b n lt r0)) Cne.ex (PF.b (Cdm.f0 G2 (by decide +kernel))))) (fun h4 C => ⟨C.1.1.1, Pe.br I q G2 b2 d2 d5 P C.1, C.2⟩)⟩
        · have z3 := zf P.2.1 (by decide +kernel)
          have z4 := zf G2 (by decide +kernel)
          refine ⟨fun w => ?_, ?_⟩
          · have := (P.2.2.2.2.2.2.1 w).1
            omega
          · by_cases w : h_i h3 1 34 = -1
            · have := (P.2.2.2.2.2.2.1 w).1
              omega
            · have := (P.2.2.2.2.2.2.2 w).1
              omega
        · have p3 := P.2.2.1
          show 1 ≤ pd h3
          omega
  · have l5 : pa h1 < pz h := by
      rcases L.fwd rfl with u | u
      · rw [er] at u; exact absurd u (by decide)
      · exact u
    have e33 : skv b n (ta h) = 33 := by rw [← LL.2.2]; exact er
    refine Ci.mono (op l5) (fun r2 h2 k => ⟨k.1.1, fun y => ?_, fun r0n => ?_⟩)
    · obtain ⟨k1, k2, k3, k4⟩ := k.2.1 y
      refine ⟨k1, ?_⟩
      rw [k2]
      have eu : k2un b n lt 0 (ta h) = (false, ska b n (ta h), []) := by
        unfold k2un
        exact if_pos (Or.inl e33)
      rw [eu]
      exact Or.inr ⟨k3, rfl, k4⟩
    · obtain ⟨Q2, G2, b2, d2, d5, s2, a2⟩ := k.2.2 r0n
      have t2 : Tp b n h2 := t.fr G2 (by decide +kernel)
      cases r0 with
      | zero => exact absurd d5 (by omega)
      | succ r0 =>
        have eu : k2un b n lt (r0 + 1) (ta h) = k2app (k2un b n lt r0 (ta h2)) [(2, 0)] := by
          rw [a2]
          show (if skv b n (ta h) = 33 then k2app (k2un b n lt r0 (ska b n (ta h) + 1)) [(2, 0)] else _) = _
          rw [if_pos e33]
        rw [eu]
        refine Cv.mono (U r0 rfl d h2 k.1 Q2 (by omega) (by rw [s2]; exact es) t2) (fun h3 PP => ?_)
        obtain ⟨P, PF⟩ := PP
        refine ⟨P.1.1, ?_⟩
        have p3 := P.2.2.1
        have o1 : (1 : Int32).toInt = 1 := rfl
        have d1 : 1 ≤ (h_i h3 1 35).toInt := by show 1 ≤ pd h3; omega
        have d7 : (h_i h3 1 35).toInt ≤ 7 := (dp_in7 P.1).2
        have e3 : (h_i h3 1 35 - 1).toInt = (h_i h3 1 35).toInt - 1 := by rw [tx_sub (by rw [o1]; omega) (by rw [o1]; omega), o1]
        have I35 : Iv (h_im h3 1 35 (h_i h3 1 35 - 1)) := i35 P.1 ⟨by rw [e3]; show (0 : Int) ≤ _; omega, by rw [e3]; show _ ≤ (7 : Int); omega⟩
        have F35 : Fr [1035] h3 (h_im h3 1 35 (h_i h3 1 35 - 1)) := (Fr.rf _ _).im (by decide +kernel)
        have PF' := (PF.b (Cdm.f0 G2 (by decide +kernel))).fr F35 (by decide +kernel) (by decide +kernel)
        refine Cv.mono (c_say (d + e) I35 33 ?_) (fun h5 S => ⟨S.1.1, Pe.nt I q G2 b2 d2 d5 P S, PF'.sy I35 S (2, 0) rfl⟩)
        rw [f_ne (by decide)]
        exact P.room k.1 Q2
theorem c_sumsg {b : Nat → Int32} {n : Nat} (s : Nat) (hs : s = 1 ∨ s = 2) : ∀ (g : Nat), g ≤ 6 → Rdg b n s (6 - (g : Int)) (k2ss b n (ltb s) g) (fun d h K => Cv (m_X12_sum (d + (10 * g + 10) + 53) 0 0) [.ref 1] h K) := by
  intro g
  induction g with
  | zero =>
    intro _
    refine c_sumg s _ _ _ (c_termg s _ _ _ ?_)
    exact c_atomg s 0 _ hs true _ ⟨fun _ => by decide, fun _ => rfl⟩ (fun n => absurd n (by decide))
  | succ g ih =>
    intro hg
    refine c_sumg s _ _ _ (c_termg s _ _ _ ?_)
    have := c_atomg (b := b) (n := n) s (10 * g + 10) (6 - ((g + 1 : Nat) : Int)) hs false (k2ss b n (ltb s) g) ⟨fun y => absurd y (by decide), fun y => absurd (by omega) y⟩ (fun _ => by rw [show (6 - ((g + 1 : Nat) : Int)) + 1 = 6 - (g : Int) by omega]; exact ih (by omega))
    intro d h I q a b' t
    have k := this d h I q a b' t
    dsimp only at k
    rw [show d + (10 * g + 10) + 61 = d + (10 * (g + 1) + 10) + 51 by omega] at k
    exact k
theorem c_unitsg {b : Nat → Int32} {n : Nat} (s : Nat) (hs : s = 1 ∨ s = 2) : ∀ (g : Nat), g ≤ 6 → Rdg b n s (6 - (g : Int)) (k2un b n (ltb s) g) (fun d h K => Cv (m_X12_unit (d + (10 * g + 10) + 65) 0 0) [.ref 1] h K) := by
  intro g
  induction g with
  | zero =>
    intro _
    exact c_unitg s _ 0 _ rfl _ (c_sumsg s hs 0 (by decide)) (fun r y => absurd y (by omega))
  | succ g ih =>
    intro hg
    refine c_unitg s _ (g + 1) _ rfl _ (c_sumsg s hs (g + 1) hg) (fun r y => ?_)
    have er : r = g := by omega
    subst er
    rw [show (6 - ((r + 1 : Nat) : Int)) + 1 = 6 - (r : Int) by omega]
    intro d h I q a b' t
    have k := ih (by omega) d h I q a b' t
    dsimp only at k
    rw [show d + (10 * r + 10) + 65 = d + (10 * (r + 1) + 10) + 55 by omega] at k
    exact k
theorem r_sumg {b : Nat → Int32} {n : Nat} (s : Nat) (hs : s = 1 ∨ s = 2) : Rdg b n s 0 (k2ss b n (ltb s) 6) (fun d h K => Cv (m_X12_sum (d + 80 + 53) 0 0) [.ref 1] h K) := by
  intro d h I q a b' t
  have k := c_sumsg (b := b) (n := n) s hs 6 (by decide) (d + 10) h I q (by omega) b' t
  dsimp only at k
  rw [show d + 10 + (10 * 6 + 10) + 53 = d + 80 + 53 by omega] at k
  exact k
theorem r_unitg {b : Nat → Int32} {n : Nat} (s : Nat) (hs : s = 1 ∨ s = 2) : Rdg b n s 0 (k2un b n (ltb s) 6) (fun d h K => Cv (m_X12_unit (d + 80 + 55) 0 0) [.ref 1] h K) := by
  intro d h I q a b' t
  exact c_unitsg (b := b) (n := n) s hs 6 (by decide) d h I q (by omega) b' t
end
section
/-! the reference: clauses, with what they put down -/
def clM (c : Cl2) : List Int32 := (if c.1.length = 0 then [0, 1] else c.1.flatMap tkm) ++ 2 :: (c.2.flatMap tkm ++ [3])
/-- what was found, and what was put down -/
def Fq (b : Nat → Int32) (n : Nat) (R : Bool × Nat) (E : List Int32) (h0 h : Hp_) : Prop := (h_i h 1 34 = -1 ∧ R.1 = true ∧ ska b n (ta h) = R.2 ∧ Cdm h0 h E) ∨ (¬ h_i h 1 34 = -1 ∧ R.1 = false ∧ h_i h 1 34 = Int32.ofNat R.2)
theorem Fq.ok {b : Nat → Int32} {n : Nat} {R : Bool × Nat} {E : List Int32} {h0 h : Hp_} (F : Fq b n R E h0 h) (w : h_i h 1 34 = -1) : R.1 = true ∧ ska b n (ta h) = R.2 ∧ Cdm h0 h E := by
  rcases F with F | F
  · exact F.2
  · exact absurd w F.1
theorem Fq.no {b : Nat → Int32} {n : Nat} {R : Bool × Nat} {E : List Int32} {h0 h : Hp_} (F : Fq b n R E h0 h) (w : ¬ h_i h 1 34 = -1) : R.1 = false ∧ h_i h 1 34 = Int32.ofNat R.2 := by
  rcases F with F | F
  · exact absurd F.1 w
  · exact F.2
theorem Fq.b {b : Nat → Int32} {n : Nat} {R : Bool × Nat} {E : List Int32} {h0 h1 h : Hp_} (F : Fq b n R E h0 h) (c : Cdm h1 h0 []) : Fq b n R E h1 h := by
  rcases F with F | F
  · exact Or.inl ⟨F.1, F.2.1, F.2.2.1, c.tr F.2.2.2⟩
  · exact Or.inr F
/-- behind a fault nothing more is found -/
def Nof (h7 h : Hp_) : Prop := ¬ h_i h 1 34 = -1 ∧ h_i h 1 34 = h_i h7 1 34
theorem c_askg (s d : Nat) {b : Nat → Int32} {n : Nat} {h h7 : Hp_} (I : Iv h) (q : Pq h) (t : Tp b n h) (P : Pe s h h7) : Cv (m_X12_ask (d + 1) 0 0) [.ref 1] h7 (fun h' => Ak s h h' ∧ (h_i h7 1 34 = -1 → Fq b n (exr b n 63 (ta h7)) [2] h7 h') ∧ (¬ h_i h7 1 34 = -1 → Nof h7 h')) := by
  have ro := P.room I q
  have z1 : pz h ≤ 160 := (pz_in I).2
  have d0 : 0 ≤ pd h := (dp_in7 I).1
  have a0 : 0 ≤ pa h := (pa_in I).1
  have n0 := sN_i I
  have PP := P
  obtain ⟨p1, p2, p3, p4, p5, p6, p7, p8⟩ := PP
  obtain ⟨q1, q2, q3, q4⟩ := q
  have z7 := zf p2 (by decide +kernel)
  have no : ∀ h5 : Hp_, Iv h5 → Fr [1033, 1034] h7 h5 → pa h5 ≤ 179 → ¬ h_i h5 1 34 = -1 → (h_i h7 1 34 = -1 → (exr b n 63 (ta h7)).1 = false ∧ h_i h5 1 34 = Int32.ofNat (exr b n 63 (ta h7)).2) → (¬ h_i h7 1 34 = -1 → h_i h5 1 34 = h_i h7 1 34) → Cv (m_X12_say (d + 0) 0 0) [.ref 1, .int 2] (h_im h5 1 33 ((h_i h5 1 33) + 1)) (fun h9 => Wf h9 ∧ Ak s h h9 ∧ (h_i h7 1 34 = -1 → Fq b n (exr b n 63 (ta h7)) [2] h7 h9) ∧ (¬ h_i h7 1 34 = -1 → Nof h7 h9)) := by
    intro h5 i5 f5 a5 w5 F5 N5
    obtain ⟨k1, k2, k3⟩ := at1 i5 a5
    generalize h_im h5 1 33 ((h_i h5 1 33) + 1) = h6 at k1 k2 k3 ⊢
    have g5 := f36 f5 (by decide +kernel)
    have g6 := f36 k2 (by decide +kernel)
    have e5 := f35 f5 (by decide +kernel)
    have e6 := f35 k2 (by decide +kernel)
    refine Cv.mono (c_say d k1 2 (by show ps h6 ≤ 558; omega)) (fun h9 S => ⟨S.1.1, ?_⟩)
    obtain ⟨s1, s2, s3, s4, s5⟩ := Sa.q (h := h6) (x := 2) (h' := h9) S
    have n6 := sN_i k1
    have e9 : h_i h9 1 34 = h_i h5 1 34 := s2.trans (f34 k2 (by decide +kernel))
    refine ⟨⟨S.1, (p2.tr (f5.more (by decide +kernel))).tr ((k2.more (by decide +kernel)).tr (S.2.1.more (by decide +kernel))), by omega, fun k hk => ?_, by omega, fun w => ?_⟩, fun w => Or.inr ⟨by rw [e9]; exact w5, (F5 w).1, by rw [e9]; exact (F5 w).2⟩, fun w => ⟨by rw [e9]; exact w5, e9.trans (N5 w)⟩⟩
    · rw [S.2.2.2.2 k (by show k ≠ sN h6; omega), fr_i k2 (a := 226) (by decide +kernel), fr_i f5 (a := 226) (by decide +kernel)]
      exact p5 k hk
    · rw [s2, f34 k2 (by decide +kernel)] at w
      exact absurd w w5
  refine t_X12_ask d h7 p1.1 _ ⟨fun w => ?_, fun w => ?_⟩
  · have t' := (p8 w).1
    exact no h7 p1 (Fr.rf _ _) (by omega) w (fun y => absurd y w) (fun _ => rfl)
  · obtain ⟨t1, t2, t3, _⟩ := p7 w
    refine Ci.mono (c_lookf d p1 (P.tp t)) (fun r h5 LL => ⟨LL.1.1.1, fun er => ?_, fun nr => ?_⟩)
    · have L := LL.1
      have l5 : pa h5 < pz h := by
        rcases L.fwd z7 with u | u
        · rw [er] at u; exact absurd u (by decide)
        · exact u
      have P5 := P.lk I L
      have w5 : h_i h5 1 34 = -1 := by rw [f34 L.2.1 (by decide +kernel)]; exact w
      obtain ⟨c1, c2, c3, c4, c5, c6, c7, _⟩ := P5
      obtain ⟨b1, b2, b3, K, b4, b5⟩ := c7 w5
      obtain ⟨k1, k2, k3⟩ := at1 c1 (by omega)
      have a6 := nxa LL k1 k3
      generalize h_im h5 1 33 ((h_i h5 1 33) + 1) = h6 at k1 k2 k3 a6 ⊢
      have g6 := f36 k2 (by decide +kernel)
      have e6 := f35 k2 (by decide +kernel)
      refine Cv.mono (c_say d k1 2 (by show ps h6 ≤ 558; omega)) (fun h9 S => ⟨S.1.1, ?_⟩)
      obtain ⟨s1, s2, s3, s4, s5⟩ := Sa.q (h := h6) (x := 2) (h' := h9) S
      have n5 := sN_i c1
      have n6 := sN_i k1
      have n9 := sN_i S.1
      have m6 : sN h6 = sN h5 := by omega
      have cc : ∀ k, k < sN h5 → h_i h9 226 k = h_i h5 226 k := fun k hk => by rw [S.2.2.2.2 k (by show k ≠ sN h6; omega), fr_i k2 (a := 226) (by decide +kernel)]
      have w9 : h_i h9 1 34 = -1 := by rw [s2, f34 k2 (by decide +kernel)]; exact w5
      have a9 : ta h9 = ska b n (ta h7) + 1 := by
        show (h_i h9 1 33).toNatClampNeg = _
        rw [(S.2.1.2 1 33 (by decide +kernel)).1]
        exact a6
      have ee : exr b n 63 (ta h7) = (true, ska b n (ska b n (ta h7) + 1)) := by
        unfold exr
        exact if_pos (by rw [← LL.2.2]; exact er)
      have cd : Cdm h7 h9 [2] := (Cdm.f0 (L.2.1.tr k2) (by decide +kernel)).tr (Cdm.say k1 S)
      have G : Fq b n (exr b n 63 (ta h7)) [2] h7 h9 := by
        rw [ee]
        exact Or.inl ⟨w9, rfl, by rw [a9], cd⟩
      refine ⟨⟨S.1, (c2.tr (k2.more (by decide +kernel))).tr (S.2.1.more (by decide +kernel)), by omega, fun k hk => ?_, by omega, fun _ => ⟨by omega, by omega, by omega, sN h5, K, by omega, PR.same (fun k _ b => cc k b) b5, ?_, by omega⟩⟩, fun _ => G, fun y => absurd w y⟩
      · rw [cc k (by omega)]; exact c5 k hk
      · rw [← m6]; exact S.2.2.2.1
    · have L := LL.1
      have w5 : h_i h5 1 34 = -1 := by rw [f34 L.2.1 (by decide +kernel)]; exact w
      refine Cv.mono (c_badf d L.1 w5) (fun h6 k => ⟨k.1.1, ?_⟩)
      obtain ⟨k1, k2, k3, k4⟩ := k
      have e6 := f33 k2 (by decide +kernel)
      have l4 := L.2.2.2.1
      have ee : exr b n 63 (ta h7) = (false, ska b n (ta h7)) := by
        unfold exr
        exact if_neg (by rw [← LL.2.2]; exact nr)
      exact no h6 k1 ((L.2.1.more (by decide +kernel)).tr (k2.more (by decide +kernel))) (by omega) k3 (fun _ => by rw [ee]; exact ⟨rfl, by rw [k4, LL.2.1]⟩) (fun y => absurd w y)
/-- a pair's condition failed -/
theorem fq_c {b : Nat → Int32} {n : Nat} {f g : Rce} {a : Nat} {E : List Int32} {h0 h1 h7 h : Hp_} (F : Fte b n (f a) h0 h7) (w : ¬ h_i h7 1 34 = -1) (k : Nof h7 h) : Fq b n ((k2pr f g a).1, (k2pr f g a).2.1) E h1 h := by
  have q := F.no w
  have e1 : k2pr f g a = (false, (f a).2.1, ([], [])) := by
    unfold k2pr
    exact if_neg (by rw [q.1]; decide)
  rw [e1]
  exact Or.inr ⟨k.1, rfl, by rw [k.2]; exact q.2⟩
/-- a pair whose condition stands -/
theorem k2pr_ok {b : Nat → Int32} {n : Nat} {f g : Rce} {a : Nat} {h0 h7 : Hp_} (c : Cne b n g) (F : Fte b n (f a) h0 h7) (w : h_i h7 1 34 = -1) : k2pr f g a = ((g (ta h7)).1, (g (ta h7)).2.1, ((f a).2.2, (g (ta h7)).2.2)) := by
  have q := F.ok w
  unfold k2pr
  rw [if_pos q.1, ← q.2.1, c]
/-- behind '?' the answer follows, or not -/
theorem k2q_n {b : Nat → Int32} {n : Nat} {g : Rce} {a : Nat} (q : (exr b n 63 a).1 = false) : (k2sq (k2ex b n 63) g a).1 = false ∧ (k2sq (k2ex b n 63) g a).2.1 = (exr b n 63 a).2 := by
  have e1 : k2sq (k2ex b n 63) g a = k2ex b n 63 a := by
    unfold k2sq
    exact if_neg (by rw [(Pje.ex a).1, q]; decide)
  rw [e1, (Pje.ex a).1, (Pje.ex a).2]
  exact ⟨q, rfl⟩
theorem k2q_y {b : Nat → Int32} {n : Nat} {g : Rce} (c : Cne b n g) {a p : Nat} (q : (exr b n 63 a).1 = true) (e : ska b n p = (exr b n 63 a).2) : k2sq (k2ex b n 63) g a = g p := by
  have e2 : (k2ex b n 63 a).2.2 = [] := by
    unfold k2ex
    split <;> rfl
  unfold k2sq
  rw [if_pos ((Pje.ex a).1.trans q), e2, (Pje.ex a).2, ← e, c]
  rfl
theorem cl_restg (s : Nat) (hs : s = 1 ∨ s = 2) (d : Nat) {b : Nat → Int32} {n : Nat} {h h7 : Hp_} (I : Iv h) (q : Pq h) (q0 : ps h ≤ 3 * pa h) (e0 : pd h = 0) (es : h_i h 1 37 = Int32.ofNat s) (t : Tp b n h) (P : Pe s h h7) {fc : Rce} {a : Nat} (F : Fte b n (fc a) h h7) (nz : (fc a).1 = true → ¬ (fc a).2.2.length = 0) {K : Hp_ → Prop} (up : ∀ h', Pc s h h' → Fq b n ((k2pr fc (k2sq (k2ex b n 63) (k2ss b n (ltb s) 6)) a).1, (k2pr fc (k2sq (k2ex b n 63) (k2ss b n (ltb s) 6)) a).2.1) (clM (k2pr fc (k2sq (k2ex b n 63) (k2ss b n (ltb s) 6)) a).2.2) h h' → K h') :
    Cv (m_X12_ask (d + 80 + 1) 0 0) [.ref 1] h7 (fun h10 => Wf h10 ∧ ((¬ (h_i h10 1 34) = (-1) → K h10) ∧ ((h_i h10 1 34) = (-1) → Cv (m_X12_sum (d + 80 + 53) 0 0) [.ref 1] h10 (fun h14 => Wf h14 ∧ (Cv (m_X12_say (d + 80 + 0) 0 0) [.ref 1, .int 3] h14 (fun h17 => Wf h17 ∧ (K h17))))))) := by
  have z1 : pz h ≤ 160 := (pz_in I).2
  have n0 := sN_i I
  have a0 : 0 ≤ pa h := (pa_in I).1
  refine Cv.mono (c_askg s (d + 80) I q t P) (fun h10 AA => ?_)
  obtain ⟨A, F10, N10⟩ := AA
  have cg : Cne b n (k2sq (k2ex b n 63) (k2ss b n (ltb s) 6)) := Cne.sq Cne.ex
  obtain ⟨a1, a2, a3, a4, a6, a5⟩ := A
  refine ⟨a1.1, fun w => up _ ⟨a1, a2, a3, a4, fun y => absurd y w⟩ (by
    by_cases w7 : h_i h7 1 34 = -1
    · have q := (F10 w7).no w
      have z := k2q_n (g := k2ss b n (ltb s) 6) q.1
      rw [k2pr_ok cg F w7]
      exact Or.inr ⟨w, z.1, by rw [q.2]; show _ = Int32.ofNat ((k2sq (k2ex b n 63) (k2ss b n (ltb s) 6)) (ta h7)).2.1; rw [z.2]⟩
    · exact fq_c F w7 (N10 w7)), fun w => ?_⟩
  have w7 : h_i h7 1 34 = -1 := Decidable.byContradiction (fun y => (N10 y).1 w)
  have f10 := (F10 w7).ok w
  have e10 : (k2sq (k2ex b n 63) (k2ss b n (ltb s) 6)) (ta h7) = k2ss b n (ltb s) 6 (ta h10) := k2q_y (Cne.ss 6) f10.1 f10.2.1
  obtain ⟨b1, b2, b3, m, K1, b4, b5, b6, b7⟩ := a5 w
  have z10 := zf a2 (by decide +kernel)
  have s10 : h_i h10 1 37 = Int32.ofNat s := by rw [(a2.2 1 37 (by decide +kernel)).1]; exact es
  have q10 : Pq h10 := ⟨w, by omega, by omega, by omega⟩
  refine Cv.mono (r_sumg s hs d h10 a1 q10 (by omega) s10 (t.fr a2 (by decide +kernel))) (fun h14 QQ => ⟨QQ.1.1.1, ?_⟩)
  obtain ⟨Q, QF⟩ := QQ
  refine Cv.mono (c_say (d + 80) Q.1 3 (Q.room a1 q10)) (fun h17 S => ⟨S.1.1, up _ ?_ (by
    have e4 : h_i h17 1 34 = h_i h14 1 34 := (S.2.1.2 1 34 (by decide +kernel)).1
    have e3 : ta h17 = ta h14 := by
      show (h_i h17 1 33).toNatClampNeg = _
      rw [(S.2.1.2 1 33 (by decide +kernel)).1]
    rw [k2pr_ok cg F w7, e10]
    by_cases w14 : h_i h14 1 34 = -1
    · have q := F.ok w7
      have qq := QF.ok w14
      refine Or.inl ⟨by rw [e4]; exact w14, qq.1, by rw [e3]; exact qq.2.1, ?_⟩
      show Cdm h h17 (clM ((fc a).2.2, (k2ss b n (ltb s) 6 (ta h10)).2.2))
      unfold clM
      rw [if_neg (nz q.1)]
      have z := ((q.2.2.tr f10.2.2).tr qq.2.2).tr (Cdm.say Q.1 S)
      rw [List.append_assoc, List.append_assoc] at z
      exact z
    · have k := QF.no w14
      exact Or.inr ⟨by rw [e4]; exact w14, k.1, by rw [e4]; exact k.2⟩)⟩)
  obtain ⟨u1, u2, u3, u4, u5⟩ := Sa.q (h := h14) (x := 3) (h' := h17) S
  obtain ⟨c1, c2, c3, c4, c5, c6, c7, c8⟩ := Q
  have n10 := sN_i a1
  have n14 := sN_i c1
  have n17 := sN_i S.1
  have m17 : sN h17 = sN h14 + 1 := by omega
  have cc : ∀ k, k < sN h14 → h_i h17 226 k = h_i h14 226 k := fun k hk => S.2.2.2.2 k (by show k ≠ sN h14; omega)
  refine ⟨S.1, (a2.tr c2).tr (S.2.1.more (by decide +kernel)), by omega, fun k hk => ?_, fun w17 => ?_⟩
  · rw [cc k (by omega), c5 k (by omega)]; exact a4 k hk
  · rw [u2] at w17
    obtain ⟨t1, t2, t3, K2, t4, t5⟩ := c7 w17
    refine ⟨by omega, by omega, by omega, by omega, m, sN h14, ?_, ?_, ?_, ?_, m17⟩
    · exact PR.ex (PR.same (fun k _ b => by rw [cc k (by omega), c5 k (by omega)]) b5) (by omega)
    · rw [cc m (by omega), c5 m (by omega)]; exact b6
    · rw [← b7]; exact PR.ex (PR.same (fun k _ b => cc k b) t5) (by omega)
    · exact S.2.2.2.1
theorem cl_ansg (s d : Nat) {b : Nat → Int32} {n : Nat} {h h3 h7 : Hp_} {r : Int32} (I : Iv h) (q0 : ps h ≤ 3 * pa h) (A : Ak s h h3) (w : h_i h3 1 34 = -1) (LL : Lkf b n h3 r h7) (l : pa h7 < pz h) (vr : vdb r = true) {K : Hp_ → Prop} (up : ∀ h', Pc s h h' → h_i h' 1 34 = -1 → ska b n (ta h') = ska b n (ska b n (ta h3) + 1) → Cdm h3 h' [0, vdv r, 3] → K h') :
    Cv (m_X12_say (d + 0) 0 0) [.ref 1, .int 0] (h_im h7 1 33 ((h_i h7 1 33) + 1)) (fun h71 => Wf h71 ∧ ∀ c : Int32, c = vdv r → Cv (m_X12_say (d + 0) 0 0) [.ref 1, .int c] h71 (fun h77 => Wf h77 ∧ (Cv (m_X12_say (d + 0) 0 0) [.ref 1, .int 3] h77 (fun h80 => Wf h80 ∧ (K h80))))) := by
  have z1 : pz h ≤ 160 := (pz_in I).2
  have n0 := sN_i I
  have a0 : 0 ≤ pa h := (pa_in I).1
  have L := LL.1
  obtain ⟨a1, a2, a3, a4, a6, a5⟩ := A
  obtain ⟨b1, b2, b3, m, K1, b4, b5, b6, b7⟩ := a5 w
  have z3 := zf a2 (by decide +kernel)
  obtain ⟨k1, k2, k3⟩ := nx1 a1 L (by omega)
  have l3 := L.2.2.1
  have aa := nxa LL k1 k3
  have w7 : h_i (h_im h7 1 33 ((h_i h7 1 33) + 1)) 1 34 = -1 := by rw [f_ne (by decide), f34 L.2.1 (by decide +kernel)]; exact w
  generalize h_im h7 1 33 ((h_i h7 1 33) + 1) = h2 at k1 k2 k3 aa w7 ⊢
  have g2 := f36 k2 (by decide +kernel)
  have e2 := f35 k2 (by decide +kernel)
  have Y0 : Sy h3 [] h2 := (Sy.rf a1).mv k1 (k2.more (by decide +kernel))
  refine Cv.mono (c_say d k1 0 (by show ps h2 ≤ 558; omega)) (fun h71 S => ⟨S.1.1, fun c ec => ?_⟩)
  obtain ⟨s1, s2, s3, s4, s5⟩ := Sa.q (h := h2) (x := 0) (h' := h71) S
  refine Cv.mono (c_say d S.1 c (by show ps h71 ≤ 558; omega)) (fun h77 T => ⟨T.1.1, ?_⟩)
  obtain ⟨t1, t2, t3, t4, t5⟩ := Sa.q (h := h71) (x := c) (h' := h77) T
  refine Cv.mono (c_say d T.1 3 (by show ps h77 ≤ 558; omega)) (fun h80 U => ⟨U.1.1, up _ ?_ ?_ ?_ ?_⟩)
  case refine_2 =>
    have f := (S.2.1.tr T.2.1).tr U.2.1
    rw [(f.2 1 34 (by decide +kernel)).1]
    exact w7
  case refine_3 =>
    have f := (S.2.1.tr T.2.1).tr U.2.1
    show ska b n (h_i h80 1 33).toNatClampNeg = _
    rw [(f.2 1 33 (by decide +kernel)).1]
    show ska b n (ta h2) = _
    rw [aa]
  case refine_4 =>
    rw [← ec]
    exact (((Cdm.f0 k2 (by decide +kernel)).tr (Cdm.say k1 S)).tr (Cdm.say S.1 T)).tr (Cdm.say T.1 U)
  obtain ⟨u1, u2, u3, u4, u5⟩ := Sa.q (h := h77) (x := 3) (h' := h80) U
  have Y : Sy h3 [0, c, 3] h80 := ((Y0.say a1 S).say a1 T).say a1 U
  obtain ⟨y1, y2, y3, y4, y5⟩ := Y
  have y4' : ps h80 = ps h3 + 3 := y4
  have n3 := sN_i a1
  have n80 := sN_i y1
  have x0 := y5 0 0 rfl
  have x2 := y5 2 3 rfl
  refine ⟨y1, a2.tr y2, by omega, fun k hk => ?_, fun _ => ⟨by omega, by omega, by omega, by omega, m, sN h3 + 2, ?_, ?_, ?_, x2, by omega⟩⟩
  · rw [y3 k (by omega)]; exact a4 k hk
  · exact PR.ex (PR.same (fun k _ b => y3 k (by omega)) b5) (by omega)
  · rw [y3 m (by omega)]; exact b6
  · rw [← b7]; exact PR.ex (PR.num x0) (by decide)
/-- a plain sum: put behind 0 1 2, place and fault as they were -/
theorem cl_shiftg (s d : Nat) {h h0 : Hp_} (I : Iv h) (q0 : ps h ≤ 3 * pa h) (P : Pe s h h0) (w : h_i h0 1 34 = -1) (x3 : Int32) (e3 : x3 = h_i h 1 36) {E : List Int32} (cE : Cdm h h0 E) {K : Hp_ → Prop} (up : ∀ h', Pc s h h' → h_i h' 1 34 = h_i h0 1 34 → h_i h' 1 33 = h_i h0 1 33 → Cdm h h' ([0, 1] ++ 2 :: (E ++ [3])) → K h') :
    ∀ (n : Nat) (h2 : Hp_) (x4 : Int32), x4.toInt = (sN h : Int) + n - 1 → Iv h2 → Fr [226999] h0 h2 → sN h + n ≤ sN h0 → (∀ j, j < sN h + n → h_i h2 226 j = h_i h0 226 j) → (∀ j, sN h + n ≤ j → j < sN h0 → h_i h2 226 (j + 3) = h_i h0 226 j) →
    AW (m_X12_clause (d + 58) 0 0) 0 0 179 [(0, .ref 1), (3, .int x3), (4, .int x4)] [] h2 (kV K) := by
  have z1 : pz h ≤ 160 := (pz_in I).2
  have n0 := sN_i I
  have a0 : 0 ≤ pa h := (pa_in I).1
  obtain ⟨p1, p2, p3, p4, p5, p6, p7, p8⟩ := P
  obtain ⟨t1, t2, t3, K1, t4, t5⟩ := p7 w
  have nh0 := sN_i p1
  have i3 : x3.toInt = (sN h : Int) := by rw [e3]; exact n0.symm
  have j3 : x3.toNatClampNeg = sN h := by rw [e3]
  have o1 : (1 : Int32).toInt = 1 := rfl
  have o2 : (2 : Int32).toInt = 2 := rfl
  have o3 : (3 : Int32).toInt = 3 := rfl
  have om : (-1 : Int32).toInt = -1 := rfl
  intro n
  induction n with
  | zero =>
    intro h2 x4 e4 I2 F2 l2 c1 c2
    have e1' : (x3 + 1).toInt = x3.toInt + 1 := by rw [tx_add (by rw [o1]; omega) (by rw [o1]; omega), o1]
    have e2' : (x3 + 2).toInt = x3.toInt + 2 := by rw [tx_add (by rw [o2]; omega) (by rw [o2]; omega), o2]
    have k1 : (x3 + 1).toNatClampNeg = sN h + 1 := by have := n_nat (x := x3 + 1) (by omega); omega
    have k2 : (x3 + 2).toNatClampNeg = sN h + 2 := by have := n_nat (x := x3 + 2) (by omega); omega
    refine t_X12_clause_179 d h2 I2.1 x3 x4 _ ⟨fun _ => ⟨dp_in (lo := 0) (hi := 559) ⟨by show (0 : Int) ≤ _; omega, by show _ ≤ (559 : Int); omega⟩ (by decide) (by decide), dp_in (lo := 0) (hi := 559) ⟨by show (0 : Int) ≤ _; omega, by show _ ≤ (559 : Int); omega⟩ (by decide) (by decide), dp_in (lo := 0) (hi := 559) ⟨by show (0 : Int) ≤ _; omega, by show _ ≤ (559 : Int); omega⟩ (by decide) (by decide), ?_⟩, fun z => absurd (q_lt.mpr (by omega)) z⟩
    rw [j3, k1, k2]
    have g2 : ps h2 = ps h0 := f36 F2 (by decide +kernel)
    have es : (h_i h2 1 36 + 3).toInt = ps h2 + 3 := by
      have g : (h_i h2 1 36).toInt = ps h0 := g2
      show _ = (h_i h2 1 36).toInt + 3
      rw [tx_add (by rw [o3]; omega) (by rw [o3]; omega), o3]
    have I3 : Iv (h_im (h_im (h_im (h_im h2 226 (sN h) 0) 226 (sN h + 1) 1) 226 (sN h + 2) 2) 1 36 ((h_i h2 1 36) + 3)) := i36 (i226 (i226 (i226 I2 _ _) _ _) _ _) ⟨by rw [es]; show (0 : Int) ≤ _; omega, by rw [es]; show _ ≤ (559 : Int); omega⟩
    have F3 : Fr wzp h0 (h_im (h_im (h_im (h_im h2 226 (sN h) 0) 226 (sN h + 1) 1) 226 (sN h + 2) 2) 1 36 ((h_i h2 1 36) + 3)) := ((((F2.more (by decide +kernel)).im (inw_row (by decide +kernel) _)).im (inw_row (by decide +kernel) _)).im (inw_row (by decide +kernel) _)).im (by decide +kernel)
    have s3 : ps (h_im (h_im (h_im (h_im h2 226 (sN h) 0) 226 (sN h + 1) 1) 226 (sN h + 2) 2) 1 36 ((h_i h2 1 36) + 3)) = ps h2 + 3 := by
      show (h_i (h_im _ 1 36 _) 1 36).toInt = _
      rw [im_at]; exact es
    have c3 : ∀ k, h_i (h_im (h_im (h_im (h_im h2 226 (sN h) 0) 226 (sN h + 1) 1) 226 (sN h + 2) 2) 1 36 ((h_i h2 1 36) + 3)) 226 k = if k = sN h + 2 then 2 else if k = sN h + 1 then 1 else if k = sN h then 0 else h_i h2 226 k := by
      intro k
      rw [im_ne (by decide), h_i_im, h_i_im, h_i_im]
      by_cases y2 : k = sN h + 2
      · rw [if_pos ⟨rfl, y2⟩, if_pos y2]
      · rw [if_neg (fun z => y2 z.2), if_neg y2]
        by_cases y1 : k = sN h + 1
        · rw [if_pos ⟨rfl, y1⟩, if_pos y1]
        · rw [if_neg (fun z => y1 z.2), if_neg y1]
          by_cases y0 : k = sN h
          · rw [if_pos ⟨rfl, y0⟩, if_pos y0]
          · rw [if_neg (fun z => y0 z.2), if_neg y0]
    have a3 : pa (h_im (h_im (h_im (h_im h2 226 (sN h) 0) 226 (sN h + 1) 1) 226 (sN h + 2) 2) 1 36 ((h_i h2 1 36) + 3)) = pa h0 := by
      show (h_i (h_im _ 1 36 _) 1 33).toInt = _
      rw [f_ne (by decide), im_ne (by decide), im_ne (by decide), im_ne (by decide)]
      exact f33 F2 (by decide +kernel)
    have d3 : pd (h_im (h_im (h_im (h_im h2 226 (sN h) 0) 226 (sN h + 1) 1) 226 (sN h + 2) 2) 1 36 ((h_i h2 1 36) + 3)) = pd h0 := by
      show (h_i (h_im _ 1 36 _) 1 35).toInt = _
      rw [f_ne (by decide), im_ne (by decide), im_ne (by decide), im_ne (by decide)]
      exact f35 F2 (by decide +kernel)
    have G4 : h_i (h_im (h_im (h_im (h_im h2 226 (sN h) 0) 226 (sN h + 1) 1) 226 (sN h + 2) 2) 1 36 ((h_i h2 1 36) + 3)) 1 34 = h_i h0 1 34 := by
      rw [f_ne (by decide), im_ne (by decide), im_ne (by decide), im_ne (by decide)]
      exact (F2.2 1 34 (by decide +kernel)).1
    have G3 : h_i (h_im (h_im (h_im (h_im h2 226 (sN h) 0) 226 (sN h + 1) 1) 226 (sN h + 2) 2) 1 36 ((h_i h2 1 36) + 3)) 1 33 = h_i h0 1 33 := by
      rw [f_ne (by decide), im_ne (by decide), im_ne (by decide), im_ne (by decide)]
      exact (F2.2 1 33 (by decide +kernel)).1
    generalize h_im (h_im (h_im (h_im h2 226 (sN h) 0) 226 (sN h + 1) 1) 226 (sN h + 2) 2) 1 36 ((h_i h2 1 36) + 3) = h3 at I3 F3 s3 c3 a3 d3 G3 G4 ⊢
    refine Cv.mono (c_say d I3 3 (by show ps h3 ≤ 558; omega)) (fun h9 S => ⟨S.1.1, ?_⟩)
    obtain ⟨u1, u2, u3, u4, u5⟩ := Sa.q (h := h3) (x := 3) (h' := h9) S
    have nh3 := sN_i I3
    have nh9 := sN_i S.1
    have m3 : sN h3 = sN h0 + 3 := by omega
    have cc : ∀ k, k < sN h0 + 3 → h_i h9 226 k = if k = sN h + 2 then 2 else if k = sN h + 1 then 1 else if k = sN h then 0 else h_i h2 226 k := fun k hk => by rw [S.2.2.2.2 k (by show k ≠ sN h3; omega)]; exact c3 k
    have eN : sN h9 = sN h0 + 4 := by
      have u : ps h9 = ps h3 + 1 := S.2.2.1
      omega
    have lE := cE.1
    refine up _ ?_ ((S.2.1.2 1 34 (by decide +kernel)).1.trans G4) ((S.2.1.2 1 33 (by decide +kernel)).1.trans G3) ?_
    · refine ⟨S.1, (p2.tr F3).tr (S.2.1.more (by decide +kernel)), by omega, fun k hk => ?_, fun _ => ⟨by omega, by omega, by omega, by omega, sN h + 2, sN h0 + 3, ?_, ?_, ?_, ?_, by omega⟩⟩
      · rw [cc k (by omega), if_neg (by omega), if_neg (by omega), if_neg (by omega), c1 k (by omega)]
        exact p5 k hk
      · exact PR.ex (PR.num (by rw [cc _ (by omega), if_neg (by omega), if_neg (by omega), if_pos rfl])) (by decide)
      · rw [cc _ (by omega), if_pos rfl]
      · refine PR.ex (k := K1) ?_ (by omega)
        rw [show sN h + 2 + 1 = sN h + 3 by omega]
        refine PR.sh (t := 3) (fun x a b => ?_) t5
        rw [cc _ (by omega), if_neg (by omega), if_neg (by omega), if_neg (by omega)]
        exact c2 x (by omega) b
      · rw [← m3]; exact S.2.2.2.1
    · refine ⟨?_, fun k hk => ?_, fun i v ev => ?_⟩
      · show sN h9 = sN h + ((E ++ [(3 : Int32)]).length + 1 + 1 + 1)
        rw [List.length_append]
        show sN h9 = sN h + (E.length + 1 + 1 + 1 + 1)
        omega
      · rw [cc k (by omega), if_neg (by omega), if_neg (by omega), if_neg (by omega), c1 k (by omega)]
        exact p5 k hk
      · match i, ev with
        | 0, ev =>
          have ev : some (0 : Int32) = some v := ev
          rw [Nat.add_zero, cc _ (by omega), if_neg (by omega), if_neg (by omega), if_pos rfl]
          exact Option.some.inj ev
        | 1, ev =>
          have ev : some (1 : Int32) = some v := ev
          rw [cc _ (by omega), if_neg (by omega), if_pos rfl]
          exact Option.some.inj ev
        | 2, ev =>
          have ev : some (2 : Int32) = some v := ev
          rw [cc _ (by omega), if_pos rfl]
          exact Option.some.inj ev
        | j + 3, ev =>
          have ev : (E ++ [(3 : Int32)])[j]? = some v := ev
          by_cases lj : j < E.length
          · rw [List.getElem?_append_left lj] at ev
            rw [cc _ (by omega), if_neg (by omega), if_neg (by omega), if_neg (by omega), show sN h + (j + 3) = sN h + j + 3 by omega, c2 (sN h + j) (by omega) (by omega)]
            exact cE.2.2 j v ev
          · rw [List.getElem?_append_right (by omega)] at ev
            have lt : j - E.length < 1 := (List.getElem?_eq_some_iff.mp ev).1
            have e0 : j - E.length = 0 := by omega
            rw [e0] at ev
            have ev : some (3 : Int32) = some v := ev
            rw [show sN h + (j + 3) = sN h3 by omega, ← Option.some.inj ev]
            exact S.2.2.2.1
  | succ n ih =>
    intro h2 x4 e4 I2 F2 l2 c1 c2
    have j4 : x4.toNatClampNeg = sN h + n := by have := n_nat (x := x4) (by omega); omega
    have e3' : (x4 + 3).toInt = x4.toInt + 3 := by rw [tx_add (by rw [o3]; omega) (by rw [o3]; omega), o3]
    have k3 : (x4 + 3).toNatClampNeg = sN h + n + 3 := by have := n_nat (x := x4 + 3) (by omega); omega
    refine t_X12_clause_179 d h2 I2.1 x3 x4 _ ⟨fun z => absurd (q_lt.mp z) (by omega), fun _ => ⟨dp_in (lo := 0) (hi := 559) ⟨by show (0 : Int) ≤ _; omega, by show _ ≤ (559 : Int); omega⟩ (by decide) (by decide), dp_in (lo := 0) (hi := 559) ⟨by show (0 : Int) ≤ _; omega, by show _ ≤ (559 : Int); omega⟩ (by decide) (by decide), ?_⟩⟩
    rw [j4, k3]
    have em : (x4 + (-1)).toInt = x4.toInt - 1 := by rw [tx_add (by rw [om]; omega) (by rw [om]; omega), om]; omega
    generalize x4 + (-1) = y at em ⊢
    refine ih _ y (by omega) (i226 I2 _ _) (F2.im (inw_row (by decide +kernel) _)) (by omega) (fun j hj => ?_) (fun j a b => ?_)
    · rw [h_i_im, if_neg (fun u => by have := u.2; omega)]; exact c1 j (by omega)
    · rw [h_i_im]
      by_cases y0 : j = sN h + n
      · rw [if_pos ⟨rfl, by omega⟩, y0]; exact c1 _ (by omega)
      · rw [if_neg (fun u => by have := u.2; omega)]; exact c2 j (by omega) b
theorem k2c_1 {b : Nat → Int32} {n : Nat} : k2c b n 1 = k2ac b n := rfl
theorem k2c_2 {b : Nat → Int32} {n : Nat} : k2c b n 2 = k2pc b n := rfl
theorem c_clauseg (s : Nat) (hs : s = 1 ∨ s = 2) (d : Nat) {b : Nat → Int32} {n : Nat} {h : Hp_} (I : Iv h) (q : Pq h) (q0 : ps h ≤ 3 * pa h) (e0 : pd h = 0) (es : h_i h 1 37 = Int32.ofNat s) (t : Tp b n h) : Cv (m_X12_clause (d + 80 + 58) 0 0) [.ref 1] h (fun h' => Pc s h h' ∧ Fq b n ((k2c b n s (ta h)).1, (k2c b n s (ta h)).2.1) (clM (k2c b n s (ta h)).2.2) h h') := by
  have z1 : pz h ≤ 160 := (pz_in I).2
  refine t_X12_clause (d + 80) h I.1 _ (Ci.mono (c_lookf (d + 80) I t) (fun r h1 LL => ?_))
  have L := LL.1
  have l3 := L.2.2.1
  have l4 := L.2.2.2.1
  have zz := zf L.2.1 (by decide +kernel)
  have g1 := f36 L.2.1 (by decide +kernel)
  have d1 := f35 L.2.1 (by decide +kernel)
  have n0 := sN_i I
  have n1 := sN_i L.1
  have m1 : sN h1 = sN h := by omega
  have s1 : h_i h1 1 37 = Int32.ofNat s := by rw [(L.2.1.2 1 37 (by decide +kernel)).1]; exact es
  have q1 : Pq h1 := ⟨by rw [f34 L.2.1 (by decide +kernel)]; exact q.1, by have := q.2.1; omega, by omega, by omega⟩
  have q01 : ps h1 ≤ 3 * pa h1 := by omega
  have t1 : Tp b n h1 := LL.t t
  have ta1 : k2c b n s (ta h) = k2c b n s (ta h1) := by rw [LL.2.1, k2c_c]
  have cd1 : Cdm h h1 [] := Cdm.f0 L.2.1 (by decide +kernel)
  have er1 : r = skv b n (ta h1) := by rw [LL.2.1, skv_i]; exact LL.2.2
  have up : ∀ h', Pc s h1 h' → Fq b n ((k2c b n s (ta h1)).1, (k2c b n s (ta h1)).2.1) (clM (k2c b n s (ta h1)).2.2) h1 h' → Pc s h h' ∧ Fq b n ((k2c b n s (ta h)).1, (k2c b n s (ta h)).2.1) (clM (k2c b n s (ta h)).2.2) h h' := by
    intro h' P G
    obtain ⟨p1, p2, p3, p4, p5⟩ := P
    refine ⟨⟨p1, (L.2.1.more (by decide +kernel)).tr p2, by omega, fun k hk => ?_, fun w => ?_⟩, by rw [ta1]; exact G.b cd1⟩
    · rw [p4 k (by omega)]; exact fr_i L.2.1 (by decide +kernel) k
    · obtain ⟨t1, t2, t3, t4, t5⟩ := p5 w
      exact ⟨by omega, by omega, by omega, by omega, by rw [← m1]; exact t5⟩
  have cond : Cv (m_X12_condition (d + 80 + 57) 0 0) [.ref 1, .int 0] h1 (fun h7 => Pe s h1 h7 ∧ Fte b n (k2cd b n (k2un b n (ltb s) 6) (ta h1)) h1 h7) := c_cond0g s 80 0 _ (r_unitg s hs) d h1 L.1 q1 (by omega) s1 t1
  have s2 : ¬ h_i h1 1 37 = 1 → s = 2 := fun y => by
    rcases hs with u | u
    · subst u
      exact absurd s1 y
    · exact u
  have pay : ¬ h_i h1 1 37 = 1 → (r = 33 ∨ r = 40) → Cv (m_X12_condition (d + 80 + 57) 0 0) [.ref 1, .int 0] h1 (fun h7 => Wf h7 ∧ (Cv (m_X12_ask (d + 80 + 1) 0 0) [.ref 1] h7 (fun h10 => Wf h10 ∧ ((¬ (h_i h10 1 34) = (-1) → Pc s h h10 ∧ Fq b n ((k2c b n s (ta h)).1, (k2c b n s (ta h)).2.1) (clM (k2c b n s (ta h)).2.2) h h10) ∧ ((h_i h10 1 34) = (-1) → Cv (m_X12_sum (d + 80 + 53) 0 0) [.ref 1] h10 (fun h14 => Wf h14 ∧ (Cv (m_X12_say (d + 80 + 0) 0 0) [.ref 1, .int 3] h14 (fun h17 => Wf h17 ∧ (Pc s h h17 ∧ Fq b n ((k2c b n s (ta h)).1, (k2c b n s (ta h)).2.1) (clM (k2c b n s (ta h)).2.2) h h17))))))))) := fun ns c => by
    have e2 := s2 ns
    subst e2
    have ec : k2c b n 2 (ta h1) = k2pr (k2cd b n (k2un b n ltp 6)) (k2pa b n) (ta h1) := by
      show k2pc b n (ta h1) = _
      unfold k2pc
      exact if_pos (by rw [← er1]; exact c)
    rw [ec] at up
    exact Cv.mono cond (fun h7 P => ⟨P.1.1.1, cl_restg 2 hs d L.1 q1 q01 (by omega) s1 t1 P.1 (fc := k2cd b n (k2un b n ltp 6)) (a := ta h1) P.2 (fun y => (Wty.cd (Wty.un 6) (ta h1) y).nz) up⟩)
  refine ⟨L.1.1, fun ns => ⟨fun e33 => pay ns (Or.inl e33), fun n33 => ⟨fun e40 => pay ns (Or.inr e40), fun n40 => ?_⟩⟩, fun ys => ?_⟩
  · have e2 := s2 ns
    subst e2
    have eb : k2c b n 2 (ta h1) = if (k2ss b n ltp 6 (ta h1)).1 = true then (if sgb (skv b n (k2ss b n ltp 6 (ta h1)).2.1) = true then k2pr (k2p1 b n) (k2pa b n) (ta h1) else (true, (k2ss b n ltp 6 (ta h1)).2.1, ([], (k2ss b n ltp 6 (ta h1)).2.2))) else (false, (k2ss b n ltp 6 (ta h1)).2.1, ([], [])) := by
      show k2pc b n (ta h1) = _
      unfold k2pc
      rw [if_neg (by rw [← er1]; exact fun y => y.elim n33 n40)]
    refine Cv.mono (r_sumg 2 hs d h1 L.1 q1 (by omega) s1 t1) (fun h6 PP => ⟨PP.1.1.1, fun w => ?_, fun w => ?_⟩)
    · obtain ⟨P, PF⟩ := PP
      have k6 := PF.ok w
      have k1 : (k2ss b n ltp 6 (ta h1)).1 = true := k6.1
      have k2' : ska b n (ta h6) = (k2ss b n ltp 6 (ta h1)).2.1 := k6.2.1
      rw [eb, if_pos k1, ← k2', skv_i] at up
      refine Ci.mono (c_lookf (d + 80) P.1 (P.tp t1)) (fun r2 h4 LL4 => ⟨LL4.1.1.1, ?_⟩)
      have L4 := LL4.1
      have P4 := P.lk L.1 L4
      have w4 : h_i h4 1 34 = -1 := by rw [f34 L4.2.1 (by decide +kernel)]; exact w
      refine Ci.mono (c_isSignf (d + 80) h4 r2) (fun r5 h5 k => ?_)
      obtain ⟨e5, k⟩ := k
      subst e5
      refine ⟨L4.1.1, fun n5 => ?_, fun y5 => ?_⟩
      · have sg : sgb (skv b n (ta h6)) = true := by
          rcases k with k | k
          · rw [← LL4.2.2]
            exact k.2.1
          · exact absurd k.1 n5
        rw [if_pos sg] at up
        refine Cv.mono (c_cond1g 2 80 0 _ _ (r_unitg 2 hs) (r_sumg 2 hs) d L.1 q1 (by omega) s1 t1 P4 w4) (fun h7 P7 => ⟨P7.1.1.1, cl_restg 2 hs d L.1 q1 q01 (by omega) s1 t1 P7.1 (fc := k2p1 b n) (a := ta h1) ?_ (fun y => ((Wty.ss 6).cp ((Wcp.cm (Wty.ss 6)).sw (Wsw.mp (Wty.un 6))) (ta h1) y).nz) up⟩)
        have G7 := P7.2
        rw [LL4.2.1, Cne.sq Cne.cm] at G7
        have S6 := sqg (f := k2ss b n ltp 6) (g := k2sq (k2cm b n (k2ss b n ltp 6)) (k2mp b n (k2un b n ltp 6))) (Cne.sq Cne.cm) PF
        exact S6.ft w (G7.b (Cdm.f0 L4.2.1 (by decide +kernel)))
      · have sg : ¬ sgb (skv b n (ta h6)) = true := by
          rcases k with k | k
          · rw [y5] at k
            exact absurd k.1 (by decide)
          · rw [← LL4.2.2, k.2]
            decide
        rw [if_neg sg] at up
        have cE : Cdm h1 h5 ((k2ss b n ltp 6 (ta h1)).2.2.flatMap tkm) := k6.2.2.fr L4.2.1 (by decide +kernel)
        have up' : ∀ h', Pc 2 h1 h' → h_i h' 1 34 = h_i h5 1 34 → h_i h' 1 33 = h_i h5 1 33 → Cdm h1 h' ([0, 1] ++ 2 :: ((k2ss b n ltp 6 (ta h1)).2.2.flatMap tkm ++ [3])) → Pc 2 h h' ∧ Fq b n ((k2c b n 2 (ta h)).1, (k2c b n 2 (ta h)).2.1) (clM (k2c b n 2 (ta h)).2.2) h h' := fun h' p e4 e3 c => up h' p (Or.inl ⟨by rw [e4]; exact w4, rfl, by
          show ska b n (h_i h' 1 33).toNatClampNeg = ska b n (ta h6)
          rw [e3]
          show ska b n (ta h5) = _
          rw [LL4.i, LL4.2.1], c⟩)
        have n5 := sN_i P4.1
        have o1 : (1 : Int32).toInt = 1 := rfl
        have a0 : 0 ≤ pa h1 := (pa_in L.1).1
        obtain ⟨t1', t2, t3, _⟩ := P4.2.2.2.2.2.2.1 w4
        have p6 := P4.2.2.2.2.2.1
        have t3' : (h_i h5 1 36).toInt ≤ ps h1 + 2 * (pa h5 - pa h1) := t3
        have p6' : ps h1 ≤ (h_i h5 1 36).toInt := p6
        have n1' : 0 ≤ ps h1 := (ps_in L.1).1
        have ex : (h_i h5 1 36 - 1).toInt = (h_i h5 1 36).toInt - 1 := by rw [tx_sub (by rw [o1]; omega) (by rw [o1]; omega), o1]
        have ex' : (h_i h5 1 36 - 1).toInt = ps h5 - 1 := ex
        refine cl_shiftg 2 (d + 80) L.1 q01 P4 w4 _ rfl cE up' (sN h5 - sN h1) h5 _ (by omega) P4.1 (Fr.rf _ _) (by omega) (fun _ _ => rfl) (fun j a b => absurd a (by omega))
    · refine up _ (PP.1.wr w) ?_
      have k := PP.2.no w
      have k1 : (k2ss b n ltp 6 (ta h1)).1 = false := k.1
      rw [eb, if_neg (by rw [k1]; decide)]
      exact Or.inr ⟨w, rfl, k.2⟩
  · have e1 : s = 1 := by
      rcases hs with u | u
      · exact u
      · subst u
        rw [s1] at ys
        exact absurd ys (by decide)
    subst e1
    refine Cv.mono cond (fun h7 P => ⟨P.1.1.1, ?_⟩)
    have e7 : k2c b n 1 (ta h1) = k2pr (k2cd b n (k2un b n lta 6)) (k2av b n) (ta h1) := rfl
    have cg : Cne b n (k2av b n) := Cne.sq Cne.ex
    have F7 : Fte b n (k2cd b n (k2un b n lta 6) (ta h1)) h1 h7 := P.2
    rw [e7] at up
    refine Cv.mono (c_askg 1 (d + 80) L.1 q1 t1 P.1) (fun h3 AA => ?_)
    obtain ⟨A, F10, N10⟩ := AA
    refine ⟨A.1.1, fun w => ?_, fun w => up _ ⟨A.1, A.2.1, A.2.2.1, A.2.2.2.1, fun y => absurd y w⟩ (by
      by_cases w7 : h_i h7 1 34 = -1
      · have q := (F10 w7).no w
        have z := k2q_n (g := k2vd b n) q.1
        rw [k2pr_ok cg F7 w7]
        exact Or.inr ⟨w, z.1, by rw [q.2]; show _ = Int32.ofNat (k2sq (k2ex b n 63) (k2vd b n) (ta h7)).2.1; rw [z.2]⟩
      · exact fq_c F7 w7 (N10 w7))⟩
    have w7 : h_i h7 1 34 = -1 := Decidable.byContradiction (fun y => (N10 y).1 w)
    have f10 := (F10 w7).ok w
    have e10 : k2av b n (ta h7) = k2vd b n (ta h3) := k2q_y Cne.vd f10.1 f10.2.1
    have nz : ¬ (k2cd b n (k2un b n lta 6) (ta h1)).2.2.length = 0 := (Wty.cd (Wty.un 6) (ta h1) (F7.ok w7).1).nz
    rw [k2pr_ok cg F7 w7, e10] at up
    refine Ci.mono (c_lookf (d + 80) A.1 (t1.fr A.2.1 (by decide +kernel))) (fun r2 h4 LL4 => ?_)
    have L4 := LL4.1
    have z3 := zf A.2.1 (by decide +kernel)
    have fw : ∀ c : Int32, r2 = c → ¬ c = -1 → pa h4 < pz h1 := fun c ec nc => by
      rcases L4.fwd z3 with u | u
      · exact absurd (ec.symm.trans u) nc
      · exact u
    have four : pa h4 < pz h1 → vdb r2 = true → Cv (m_X12_say (d + 80 + 0) 0 0) [.ref 1, .int 0] (h_im h4 1 33 ((h_i h4 1 33) + 1)) (fun h71 => Wf h71 ∧ ((¬ r2 = 120 → (¬ r2 = 110 → (¬ r2 = 114 → Cv (m_X12_say (d + 80 + 0) 0 0) [.ref 1, .int 3] h71 (fun h77 => Wf h77 ∧ (Cv (m_X12_say (d + 80 + 0) 0 0) [.ref 1, .int 3] h77 (fun h80 => Wf h80 ∧ (Pc 1 h h80 ∧ Fq b n ((k2c b n 1 (ta h)).1, (k2c b n 1 (ta h)).2.1) (clM (k2c b n 1 (ta h)).2.2) h h80))))) ∧ (r2 = 114 → Cv (m_X12_say (d + 80 + 0) 0 0) [.ref 1, .int 2] h71 (fun h77 => Wf h77 ∧ (Cv (m_X12_say (d + 80 + 0) 0 0) [.ref 1, .int 3] h77 (fun h80 => Wf h80 ∧ (Pc 1 h h80 ∧ Fq b n ((k2c b n 1 (ta h)).1, (k2c b n 1 (ta h)).2.1) (clM (k2c b n 1 (ta h)).2.2) h h80)))))) ∧ (r2 = 110 → Cv (m_X12_say (d + 80 + 0) 0 0) [.ref 1, .int 1] h71 (fun h77 => Wf h77 ∧ (Cv (m_X12_say (d + 80 + 0) 0 0) [.ref 1, .int 3] h77 (fun h80 => Wf h80 ∧ (Pc 1 h h80 ∧ Fq b n ((k2c b n 1 (ta h)).1, (k2c b n 1 (ta h)).2.1) (clM (k2c b n 1 (ta h)).2.2) h h80)))))) ∧ (r2 = 120 → Cv (m_X12_say (d + 80 + 0) 0 0) [.ref 1, .int 0] h71 (fun h77 => Wf h77 ∧ (Cv (m_X12_say (d + 80 + 0) 0 0) [.ref 1, .int 3] h77 (fun h80 => Wf h80 ∧ (Pc 1 h h80 ∧ Fq b n ((k2c b n 1 (ta h)).1, (k2c b n 1 (ta h)).2.1) (clM (k2c b n 1 (ta h)).2.2) h h80))))))) := fun l v => by
      have ev : k2vd b n (ta h3) = (true, ska b n (ska b n (ta h3) + 1), [(0, vdv r2)]) := by
        unfold k2vd
        rw [← LL4.2.2, if_pos v]
      rw [ev] at up
      have up2 : ∀ h', Pc 1 h1 h' → h_i h' 1 34 = -1 → ska b n (ta h') = ska b n (ska b n (ta h3) + 1) → Cdm h3 h' [0, vdv r2, 3] → _ := fun h' p w' e' c => up h' p (Or.inl ⟨w', rfl, e', by
        show Cdm h1 h' (clM ((k2cd b n (k2un b n lta 6) (ta h1)).2.2, [(0, vdv r2)]))
        unfold clM
        rw [if_neg nz]
        have z := ((F7.ok w7).2.2.tr f10.2.2).tr c
        rw [List.append_assoc] at z
        exact z⟩)
      exact Cv.mono (cl_ansg 1 (d + 80) L.1 q01 A w LL4 l v up2) (fun h71 k => ⟨k.1, fun n1 => ⟨fun n2 => ⟨fun n3 => k.2 3 (by unfold vdv; rw [if_neg n1, if_neg n2, if_neg n3]), fun e3 => k.2 2 (by unfold vdv; rw [if_neg n1, if_neg n2, if_pos e3])⟩, fun e2 => k.2 1 (by unfold vdv; rw [if_neg n1, if_pos e2])⟩, fun e1 => k.2 0 (by unfold vdv; rw [if_pos e1])⟩)
    have w4 : h_i h4 1 34 = -1 := by rw [f34 L4.2.1 (by decide +kernel)]; exact w
    refine ⟨L4.1.1, fun e => four (fw _ e (by decide)) (by rw [e]; decide), fun n1 => ⟨fun e => four (fw _ e (by decide)) (by rw [e]; decide), fun n2 => ⟨fun e => four (fw _ e (by decide)) (by rw [e]; decide), fun n3 => ⟨fun e => four (fw _ e (by decide)) (by rw [e]; decide), fun n4 => Cv.mono (c_badf (d + 80) L4.1 w4) (fun h9 b9 => ⟨b9.1.1, up _ ⟨b9.1, (A.2.1.tr (L4.2.1.more (by decide +kernel))).tr (b9.2.1.more (by decide +kernel)), ?_, ?_, fun y => absurd y b9.2.2.1⟩ ?_⟩)⟩⟩⟩⟩
    · have b5 := f35 b9.2.1 (by decide +kernel)
      have l5 := f35 L4.2.1 (by decide +kernel)
      have a5 := A.2.2.1
      omega
    · intro k hk
      rw [fr_i b9.2.1 (a := 226) (by decide +kernel), fr_i L4.2.1 (a := 226) (by decide +kernel)]
      exact A.2.2.2.1 k hk
    · have ev : k2vd b n (ta h3) = (false, ska b n (ta h3), []) := by
        unfold k2vd
        exact if_neg (by rw [← LL4.2.2]; exact fun y => (of_decide_eq_true y).elim n1 (fun y => y.elim n2 (fun y => y.elim n3 n4)))
      rw [ev]
      exact Or.inr ⟨b9.2.2.1, rfl, by rw [b9.2.2.2, LL4.2.1]⟩
/-! the reference: a whole text, with what is put down -/
def rlM (C : List Cl2) : List Int32 := C.flatMap clM
def Sge (b : Nat → Int32) (n : Nat) (T : Bool × Nat × List Cl2) (g : Rcf Cl2) (h0 h : Hp_) : Prop := (h_i h 1 34 = -1 → ∃ C : List Cl2, T = k2pre C (g (ta h)) ∧ Cdm h0 h (rlM C)) ∧ (¬ h_i h 1 34 = -1 → T.1 = false ∧ h_i h 1 34 = Int32.ofNat T.2.1)
theorem rlM_a (C D : List Cl2) : rlM (C ++ D) = rlM C ++ rlM D := List.flatMap_append
theorem rlM_1 (c : Cl2) : rlM [c] = clM c := by
  unfold rlM
  simp
theorem sge_1 {b : Nat → Int32} {n s : Nat} {g : Rcf Cl2} {a : Nat} {h0 h : Hp_} (c : Cne b n g) (F : Fq b n ((k2c b n s a).1, (k2c b n s a).2.1) (clM (k2c b n s a).2.2) h0 h) : Sge b n (k2sq (k21 (k2c b n s)) g a) g h0 h := by
  refine ⟨fun w => ?_, fun w => ?_⟩
  · have k := F.ok w
    have y : (k21 (k2c b n s) a).1 = true := k.1
    have p : ska b n (ta h) = (k21 (k2c b n s) a).2.1 := k.2.1
    refine ⟨[(k2c b n s a).2.2], ?_, by rw [rlM_1]; exact k.2.2⟩
    unfold k2sq
    rw [if_pos y, ← p, c]
    rfl
  · have k := F.no w
    have e : k2sq (k21 (k2c b n s)) g a = k21 (k2c b n s) a := by
      unfold k2sq
      exact if_neg (by rw [show (k21 (k2c b n s) a).1 = false from k.1]; decide)
    rw [e]
    exact k
/-- all clauses were found -/
def Fge (b : Nat → Int32) (n : Nat) (T : Bool × Nat × List Cl2) (h0 h : Hp_) : Prop := T.1 = true ∧ ska b n (ta h) = T.2.1 ∧ Cdm h0 h (rlM T.2.2)
theorem lge_x {b : Nat → Int32} {n s k : Nat} {T : Bool × Nat × List Cl2} {h0 h h5 : Hp_} {r : Int32} (F : Sge b n T (k2lp b n (isq 59) (fun _ => []) (k21 (k2c b n s)) k) h0 h) (w : h_i h 1 34 = -1) (L : Lkf b n h r h5) (ns : k = 0 ∨ isq 59 r = false) : Fge b n T h0 h5 := by
  obtain ⟨C, e, c⟩ := F.1 w
  have e2 : k2lp b n (isq 59) (fun _ => []) (k21 (k2c b n s)) k (ta h) = (true, ska b n (ta h), []) := by
    cases k with
    | zero => rfl
    | succ k =>
      rcases ns with u | u
      · cases u
      · unfold k2lp
        exact if_neg (by rw [← L.2.2, u]; decide)
  rw [e2] at e
  rw [e]
  refine ⟨rfl, by rw [L.i, L.2.1]; rfl, ?_⟩
  show Cdm h0 h5 (rlM (C ++ []))
  rw [List.append_nil]
  exact c.fr L.1.2.1 (by decide +kernel)
theorem lge_s {b : Nat → Int32} {n s k : Nat} {T : Bool × Nat × List Cl2} {h0 h h6 h9 : Hp_} {r : Int32} (F : Sge b n T (k2lp b n (isq 59) (fun _ => []) (k21 (k2c b n s)) (k + 1)) h0 h) (w : h_i h 1 34 = -1) (er : r = skv b n (ta h)) (ys : isq 59 r = true) (c6 : Cdm h h6 []) (G : Fq b n ((k2c b n s (ska b n (ta h) + 1)).1, (k2c b n s (ska b n (ta h) + 1)).2.1) (clM (k2c b n s (ska b n (ta h) + 1)).2.2) h6 h9) : Sge b n T (k2lp b n (isq 59) (fun _ => []) (k21 (k2c b n s)) k) h0 h9 := by
  obtain ⟨C, e, c⟩ := F.1 w
  have e2 : k2lp b n (isq 59) (fun _ => []) (k21 (k2c b n s)) (k + 1) (ta h) = if (k21 (k2c b n s) (ska b n (ta h) + 1)).1 = true then k2pre ((k21 (k2c b n s) (ska b n (ta h) + 1)).2.2 ++ []) (k2lp b n (isq 59) (fun _ => []) (k21 (k2c b n s)) k (k21 (k2c b n s) (ska b n (ta h) + 1)).2.1) else k21 (k2c b n s) (ska b n (ta h) + 1) := by
    show (if isq 59 (skv b n (ta h)) = true then _ else _) = _
    rw [if_pos (by rw [← er]; exact ys)]
  rw [e2, List.append_nil] at e
  refine ⟨fun w9 => ?_, fun w9 => ?_⟩
  · have g := G.ok w9
    have g2 : (k21 (k2c b n s) (ska b n (ta h) + 1)).1 = true := g.1
    have g3 : ska b n (ta h9) = (k21 (k2c b n s) (ska b n (ta h) + 1)).2.1 := g.2.1
    rw [if_pos g2, ← g3, Cne.lp k, k2pre_a] at e
    refine ⟨_, e, ?_⟩
    show Cdm h0 h9 (rlM (C ++ [(k2c b n s (ska b n (ta h) + 1)).2.2]))
    rw [rlM_a, rlM_1]
    exact c.tr (c6.tr g.2.2)
  · have g := G.no w9
    have g2 : (k21 (k2c b n s) (ska b n (ta h) + 1)).1 = false := g.1
    rw [if_neg (by rw [g2]; decide)] at e
    rw [e]
    exact g
/-- the codes of a whole text stand in the reference -/
def Crm (C : List Cl2) (h : Hp_) : Prop := sN h = (rlM C).length ∧ ∀ i v, (rlM C)[i]? = some v → h_i h 226 i = v
theorem fl_loopg (s : Nat) (hs : s = 1 ∨ s = 2) (d : Nat) {b : Nat → Int32} {nn : Nat} (bb : ∀ k, k < nn → ¬ b k = -1) {h h0 : Hp_} (x1 : Int32) (e1 : x1 = Int32.ofNat s) (I0 : Iv h0) (F0 : Fr wzf h h0) (es : h_i h0 1 37 = Int32.ofNat s) (t0 : Tp b nn h0) (z0 : sN h0 = 0) :
    ∀ (n : Nat) (h2 : Hp_), Fl s h0 h2 → Sge b nn (k2ru b nn s 0) (k2lp b nn (isq 59) (fun _ => []) (k21 (k2c b nn s)) n) h0 h2 → pz h0 - pa h2 ≤ n → AW (m_X12_fault (d + 80 + 59) 0 0) 0 0 52 [(0, .ref 1)] [] h2 (kI (fun r h' => Fa x1 h r h' ∧ r = enq b nn (ruq b nn (clq b nn s)) ∧ (r = -1 → (k2ru b nn s 0).1 = true ∧ Crm (k2ru b nn s 0).2.2 h'))) := by
  have z1 : pz h0 ≤ 160 := (pz_in I0).2
  have dn : ∀ h', Fl s h0 h' → Fa x1 h (h_i h' 1 34) h' := by
    intro h' G
    refine ⟨G.1, F0.tr (G.2.1.more (by decide +kernel)), fun w => ⟨fun e => ?_, fun t ht et => ?_⟩⟩
    · rw [e1] at e
      rcases hs with u | u <;> subst u <;> exact absurd e (by decide)
    · have tt : t = s := by
        rw [e1] at et
        rcases hs with u | u <;> subst u <;> rcases ht with v | v <;> subst v <;> first | rfl | exact absurd et (by decide)
      subst tt
      exact (G.2.2.2 w).2.2
  have pj := pj_ru (b := b) (n := nn) hs 0
  have bad : ∀ h' : Hp_, ¬ h_i h' 1 34 = -1 → (k2ru b nn s 0).1 = false → h_i h' 1 34 = Int32.ofNat (k2ru b nn s 0).2.1 → h_i h' 1 34 = enq b nn (ruq b nn (clq b nn s)) ∧ (h_i h' 1 34 = -1 → (k2ru b nn s 0).1 = true ∧ Crm (k2ru b nn s 0).2.2 h') := fun h' w e1 e2 => by
    refine ⟨?_, fun y => absurd y w⟩
    unfold enq
    rw [if_neg (by rw [← pj.1, e1]; decide), ← pj.2]
    exact e2
  have ends : ∀ h1, Fl s h0 h1 → h_i h1 1 34 = -1 → Fge b nn (k2ru b nn s 0) h0 h1 → Ci (m_X12_look (d + 80 + 0) 0 0) [.ref 1] h1 (fun r h5 => Wf h5 ∧ ((r = (-1) → Fa x1 h (h_i h5 1 34) h5 ∧ h_i h5 1 34 = enq b nn (ruq b nn (clq b nn s)) ∧ (h_i h5 1 34 = -1 → (k2ru b nn s 0).1 = true ∧ Crm (k2ru b nn s 0).2.2 h5)) ∧ (¬ r = (-1) → Cv (m_X12_bad (d + 80 + 0) 0 0) [.ref 1] h5 (fun h9 => Wf h9 ∧ (Fa x1 h (h_i h9 1 34) h9 ∧ h_i h9 1 34 = enq b nn (ruq b nn (clq b nn s)) ∧ (h_i h9 1 34 = -1 → (k2ru b nn s 0).1 = true ∧ Crm (k2ru b nn s 0).2.2 h9)))))) := by
    intro h1 G w FT
    refine Ci.mono (c_lookf (d + 80) G.1 (t0.fr G.2.1 (by decide +kernel))) (fun r h5 LL => ?_)
    have FT' : Ft b nn (ruq b nn (clq b nn s) 0) h1 := Or.inl ⟨w, by rw [← pj.1]; exact FT.1, by rw [← pj.2]; exact FT.2.1⟩
    have E := enq_y bb FT' w LL
    have cr : Crm (k2ru b nn s 0).2.2 h5 := by
      have z := FT.2.2.fr LL.1.2.1 (by decide +kernel)
      have z1 := z.1
      rw [z0, Nat.zero_add] at z1
      refine ⟨z1, fun i v e => ?_⟩
      have q := z.2.2 i v e
      rw [z0, Nat.zero_add] at q
      exact q
    have L := LL.1
    have G5 := G.lk L
    refine ⟨L.1.1, fun er => ⟨dn _ G5, E.1 er, fun _ => ⟨FT.1, cr⟩⟩, fun nr => ?_⟩
    exact Cv.mono (c_badf (d + 80) L.1 (by rw [f34 L.2.1 (by decide +kernel)]; exact w)) (fun h9 k => ⟨k.1.1, ⟨k.1, F0.tr ((G5.2.1.tr (k.2.1.more (by decide +kernel))).more (by decide +kernel)), fun y => absurd y k.2.2.1⟩, by rw [k.2.2.2]; exact E.2 nr, fun y => absurd y k.2.2.1⟩)
  intro n
  induction n with
  | zero =>
    intro h2 G F m
    have zz := zf G.2.1 (by decide +kernel)
    have t2 : Tp b nn h2 := t0.fr G.2.1 (by decide +kernel)
    refine t_X12_fault_52 (d + 80) h2 G.1.1 _ ⟨fun w => ⟨fun _ => ⟨dn _ G, bad h2 w (F.2 w).1 (F.2 w).2⟩, fun y => absurd y w⟩, fun w => Ci.mono (c_lookf (d + 80) G.1 t2) (fun r h5 LL => ⟨LL.1.1.1, fun _ => ⟨fun y => absurd (by rw [f34 LL.1.2.1 (by decide +kernel)]; exact w) y, fun w5 => ends _ (G.lk LL.1) w5 (lge_x F w LL (Or.inl rfl))⟩, fun er => ?_⟩)⟩
    have l3 := LL.1.2.2.1
    rcases LL.1.fwd zz with u | u
    · rw [er] at u; exact absurd u (by decide)
    · omega
  | succ n ih =>
    intro h2 G F m
    have zz := zf G.2.1 (by decide +kernel)
    have t2 : Tp b nn h2 := t0.fr G.2.1 (by decide +kernel)
    refine t_X12_fault_52 (d + 80) h2 G.1.1 _ ⟨fun w => ⟨fun _ => ⟨dn _ G, bad h2 w (F.2 w).1 (F.2 w).2⟩, fun y => absurd y w⟩, fun w => Ci.mono (c_lookf (d + 80) G.1 t2) (fun r h5 LL => ⟨LL.1.1.1, fun nr => ⟨fun y => absurd (by rw [f34 LL.1.2.1 (by decide +kernel)]; exact w) y, fun w5 => ends _ (G.lk LL.1) w5 (lge_x F w LL (Or.inr (decide_eq_false nr)))⟩, fun er => ?_⟩)⟩
    have L := LL.1
    have G5 := G.lk L
    have w5 : h_i h5 1 34 = -1 := by rw [f34 L.2.1 (by decide +kernel)]; exact w
    have l3 := L.2.2.1
    have l5 : pa h5 < pz h0 := by
      rcases L.fwd zz with u | u
      · rw [er] at u; exact absurd u (by decide)
      · exact u
    obtain ⟨t1, t2', f, t3⟩ := G5.2.2.2 w5
    obtain ⟨k1, k2, k3⟩ := at1 L.1 (by omega)
    have na := nxa LL k1 k3
    generalize h_im h5 1 33 ((h_i h5 1 33) + 1) = h6 at k1 k2 k3 na ⊢
    have e5 := f35 k2 (by decide +kernel)
    have e6 := f36 k2 (by decide +kernel)
    have z6 := zf k2 (by decide +kernel)
    have z5 := zf G5.2.1 (by decide +kernel)
    have g3 := G5.2.2.1
    have n5 := sN_i G5.1
    have n6 := sN_i k1
    have m6 : sN h6 = sN h5 := by omega
    have F6 : Fr wzp h0 h6 := G5.2.1.tr (k2.more (by decide +kernel))
    refine Cv.mono (c_clauseg s hs d k1 ⟨by rw [f34 k2 (by decide +kernel)]; exact w5, by omega, by omega, by omega⟩ (by omega) (by omega) (by rw [(F6.2 1 37 (by decide +kernel)).1]; exact es) (t0.fr F6 (by decide +kernel))) (fun h9 PP => ?_)
    obtain ⟨P, PF⟩ := PP
    obtain ⟨p1, p2, p3, p4, p5⟩ := P
    rw [na] at PF
    have S9 := lge_s F w LL.2.2 (decide_eq_true er) (Cdm.f0 (L.2.1.tr k2) (by decide +kernel)) PF
    have c9 : ∀ k, k < sN h5 → h_i h9 226 k = h_i h5 226 k := fun k hk => by rw [p4 k (by omega)]; exact fr_i k2 (by decide +kernel) k
    refine ⟨p1.1, ?_⟩
    by_cases w9 : h_i h9 1 34 = -1
    · obtain ⟨u1, u2, u3, u4, u5⟩ := p5 w9
      refine ih h9 ⟨p1, F6.tr p2, by omega, fun _ => ⟨by omega, by omega, f + 1, ?_⟩⟩ S9 (by omega)
      refine pcl_snoc (pcl_same (fun x _ b => c9 x b) t3) ?_
      rw [← m6]; exact u5
    · refine t_X12_fault_52 (d + 80) h9 p1.1 _ ⟨fun w => ⟨fun _ => ?_, fun y => absurd y w⟩, fun w => absurd w w9⟩
      exact ⟨dn _ ⟨p1, F6.tr p2, by omega, fun y => absurd y w9⟩, bad h9 w9 (S9.2 w9).1 (S9.2 w9).2⟩
theorem c_faultg (d : Nat) {b : Nat → Int32} {n : Nat} (bb : ∀ k, k < n → ¬ b k = -1) {h : Hp_} (I : Iv h) (t : Tp b n h) (s : Nat) (hs : s = 1 ∨ s = 2) : Ci (m_X12_fault (d + 80 + 59) 0 0) [.ref 1, .int (Int32.ofNat s)] h (fun r h' => Fa (Int32.ofNat s) h r h' ∧ r = enq b n (ruq b n (clq b n s)) ∧ (r = -1 → (k2ru b n s 0).1 = true ∧ Crm (k2ru b n s 0).2.2 h')) := by
  have z0 : 0 ≤ pz h := (pz_in I).1
  have z1 : pz h ≤ 160 := (pz_in I).2
  have b0 : rin (0 : Int32).toInt (0, 180) := ⟨by decide, by decide⟩
  have I0 : Iv (h_im (h_im (h_im (h_im (h_im h 1 37 (Int32.ofNat s)) 1 33 0) 1 34 (-1)) 1 35 0) 1 36 0) := i36 (i35 (i34 (i33 (I.im (by rw [show tf 1 37 = rtop by decide +kernel]; exact rtop_in _) (by decide)) b0) _) ⟨by decide, by decide⟩) ⟨by decide, by decide⟩
  have F0 : Fr wzf h (h_im (h_im (h_im (h_im (h_im h 1 37 (Int32.ofNat s)) 1 33 0) 1 34 (-1)) 1 35 0) 1 36 0) := (((((Fr.rf _ _).im (by decide +kernel)).im (by decide +kernel)).im (by decide +kernel)).im (by decide +kernel)).im (by decide +kernel)
  have e36 : h_i (h_im (h_im (h_im (h_im (h_im h 1 37 (Int32.ofNat s)) 1 33 0) 1 34 (-1)) 1 35 0) 1 36 0) 1 36 = 0 := im_at
  have e35 : h_i (h_im (h_im (h_im (h_im (h_im h 1 37 (Int32.ofNat s)) 1 33 0) 1 34 (-1)) 1 35 0) 1 36 0) 1 35 = 0 := by rw [f_ne (by decide), im_at]
  have e34 : h_i (h_im (h_im (h_im (h_im (h_im h 1 37 (Int32.ofNat s)) 1 33 0) 1 34 (-1)) 1 35 0) 1 36 0) 1 34 = -1 := by rw [f_ne (by decide), f_ne (by decide), im_at]
  have e33 : h_i (h_im (h_im (h_im (h_im (h_im h 1 37 (Int32.ofNat s)) 1 33 0) 1 34 (-1)) 1 35 0) 1 36 0) 1 33 = 0 := by rw [f_ne (by decide), f_ne (by decide), f_ne (by decide), im_at]
  have e37 : h_i (h_im (h_im (h_im (h_im (h_im h 1 37 (Int32.ofNat s)) 1 33 0) 1 34 (-1)) 1 35 0) 1 36 0) 1 37 = Int32.ofNat s := by rw [f_ne (by decide), f_ne (by decide), f_ne (by decide), f_ne (by decide), im_at]
  have bs : 0 ≤ Int32.ofNat s ∧ Int32.ofNat s ≤ 2 := by rcases hs with u | u <;> subst u <;> decide
  have ns : ¬ Int32.ofNat s = 0 := by rcases hs with u | u <;> subst u <;> decide
  refine t_X12_fault (d + 80) h I.1 (Int32.ofNat s) _ ⟨fun _ => ?_, fun y => absurd bs y⟩
  generalize h_im (h_im (h_im (h_im (h_im h 1 37 (Int32.ofNat s)) 1 33 0) 1 34 (-1)) 1 35 0) 1 36 0 = h0 at I0 F0 e36 e35 e34 e33 e37 ⊢
  have zz := zf F0 (by decide +kernel)
  have a0 : pa h0 = 0 := by show (h_i h0 1 33).toInt = 0; rw [e33]; rfl
  have ta0 : ta h0 = 0 := by have := ta_i I0; omega
  have d0 : pd h0 = 0 := by show (h_i h0 1 35).toInt = 0; rw [e35]; rfl
  have s0 : ps h0 = 0 := by show (h_i h0 1 36).toInt = 0; rw [e36]; rfl
  have n0 := sN_i I0
  have nz : sN h0 = 0 := by omega
  have t0 : Tp b n h0 := t.fr F0 (by decide +kernel)
  refine ⟨fun _ => ?_, fun y => absurd y ns⟩
  refine Cv.mono (c_clauseg s hs d I0 ⟨e34, by omega, by omega, by omega⟩ (by omega) d0 e37 t0) (fun h5 PP => ?_)
  obtain ⟨P, PF⟩ := PP
  obtain ⟨p1, p2, p3, p4, p5⟩ := P
  have a5 : 0 ≤ pa h5 := (pa_in p1).1
  rw [ta0] at PF
  refine ⟨p1.1, fl_loopg s hs d bb (Int32.ofNat s) rfl I0 F0 e37 t0 nz 160 h5 ⟨p1, p2, by omega, fun w => ?_⟩ (sge_1 (Cne.lp 160) PF) (by omega)⟩
  obtain ⟨u1, u2, u3, u4, u5⟩ := p5 w
  refine ⟨by omega, by omega, 1, ?_⟩
  rw [nz] at u5
  exact pcl_snoc (f := 0) (e := 0) rfl u5
/-! texts at work: what they tell -/
theorem lg_le (x y : Int64) : lg_cmp x y ≤ 0 ↔ ¬ y < x := by
  unfold lg_cmp
  by_cases c : x > y
  · rw [if_pos c]
    exact ⟨fun h => absurd h (by decide), fun h => absurd c h⟩
  · rw [if_neg c]
    by_cases e : x = y
    · rw [if_pos e]
      exact ⟨fun _ => c, fun _ => by decide⟩
    · rw [if_neg e]
      exact ⟨fun _ => c, fun _ => by decide⟩
theorem lg_ge (x y : Int64) : 0 ≤ lg_cmp x y ↔ ¬ x < y := by
  unfold lg_cmp
  by_cases c : x > y
  · rw [if_pos c]
    refine ⟨fun _ z => ?_, fun _ => by decide⟩
    have a := Int64.lt_iff_toInt_lt.mp c
    have b := Int64.lt_iff_toInt_lt.mp z
    omega
  · rw [if_neg c]
    by_cases e : x = y
    · rw [if_pos e, e]
      refine ⟨fun _ z => ?_, fun _ => by decide⟩
      have b := Int64.lt_iff_toInt_lt.mp z
      omega
    · rw [if_neg e]
      refine ⟨fun h => absurd h (by decide), fun h => ?_⟩
      have a : ¬ y.toInt < x.toInt := fun z => c (Int64.lt_iff_toInt_lt.mpr z)
      have b : ¬ x.toInt < y.toInt := fun z => h (Int64.lt_iff_toInt_lt.mpr z)
      exact absurd (Int64.toInt_inj.mp (by omega)) e
def kbd (x : Int64) : Int32 := if lg_cmp x (1000000 : Int64) ≤ 0 then (if 0 ≤ lg_cmp x (-1000000 : Int64) then x.toInt32 else -1000000) else 1000000
theorem kbd_b (x : Int64) : kbd x = bndv x := by
  have m1 : (1000000 : Int64).toInt = 1000000 := by decide
  have m2 : (-1000000 : Int64).toInt = -1000000 := by decide
  unfold kbd bndv
  by_cases a : (1000000 : Int64) < x
  · have a' := Int64.lt_iff_toInt_lt.mp a
    have n1 : ¬ x < (1000000 : Int64) := fun z => by
      have := Int64.lt_iff_toInt_lt.mp z
      omega
    rw [if_neg (fun z => (lg_le _ _).mp z a), if_neg n1, if_neg (by decide)]
    decide
  · rw [if_pos ((lg_le _ _).mpr a)]
    have a' : ¬ (1000000 : Int64).toInt < x.toInt := fun z => a (Int64.lt_iff_toInt_lt.mpr z)
    by_cases c : x < (-1000000 : Int64)
    · have c' := Int64.lt_iff_toInt_lt.mp c
      have y1 : x < (1000000 : Int64) := Int64.lt_iff_toInt_lt.mpr (by omega)
      rw [if_neg (fun z => (lg_ge _ _).mp z c), if_pos y1, if_pos c]
      decide
    · rw [if_pos ((lg_ge _ _).mpr c)]
      by_cases y1 : x < (1000000 : Int64)
      · rw [if_pos y1, if_neg c]
      · have y1' : ¬ x.toInt < (1000000 : Int64).toInt := fun z => y1 (Int64.lt_iff_toInt_lt.mpr z)
        have e : x = 1000000 := Int64.toInt_inj.mp (by omega)
        rw [if_neg y1, if_neg (by decide), e]
def cmb (o x y : Int32) : Int32 := if o = 5 then kbd (x.toInt64 + y.toInt64) else if o = 6 then kbd (x.toInt64 - y.toInt64) else if o = 7 then kbd (x.toInt64 * y.toInt64) else if o = 8 then (if x = y then 1 else 0) else if o = 9 then (if y ≤ x then 0 else 1) else if o = 10 then (if x ≤ y then 0 else 1) else if o = 11 then x &&& y else x ||| y
def skt (v : Int32 → Int32) (t : Tk2) (st : List Int32) : List Int32 := if t.1 = 0 then t.2 :: st else if t.1 = 1 then v t.2 :: st else if t.1 = 2 then (match st with | x :: st => (1 - x) :: st | [] => []) else (match st with | y :: x :: st => cmb t.1 x y :: st | _ => [])
def run2 (v : Int32 → Int32) : List Tk2 → List Int32 → List Int32
  | [], st => st
  | t :: E, st => run2 v E (skt v t st)
def top2 : List Int32 → Int32
  | [] => 0
  | x :: _ => x
/-- what a text of clauses tells -/
def evC (v : Int32 → Int32) : List Cl2 → Int32
  | [] => 0
  | c :: C => if c.1.length = 0 ∨ ¬ top2 (run2 v c.1 []) = 0 then top2 (run2 v c.2 []) else evC v C
/-- numbers on the pile: those that say yes or no are 1 or 0 -/
def Vty : List Bool → List Int32 → Prop
  | [], [] => True
  | y :: s, x :: st => (y = true → x = 0 ∨ x = 1) ∧ Vty s st
  | _, _ => False
theorem ty1_c {t : Tk2} {s s' : List Bool} (h : ty1 t s = some s') : ((t.1 = 0 ∨ t.1 = 1) ∧ s' = false :: s) ∨ (t.1 = 2 ∧ ∃ q, s = true :: q ∧ s' = true :: q) ∨ ((t.1 = 5 ∨ t.1 = 6 ∨ t.1 = 7) ∧ ∃ q, s = false :: false :: q ∧ s' = false :: q) ∨ ((t.1 = 8 ∨ t.1 = 9 ∨ t.1 = 10) ∧ ∃ q, s = false :: false :: q ∧ s' = true :: q) ∨ ((t.1 = 11 ∨ t.1 = 12) ∧ ∃ q, s = true :: true :: q ∧ s' = true :: q) := by
  unfold ty1 at h
  by_cases c0 : t.1 = 0 ∨ t.1 = 1
  · rw [if_pos c0] at h
    exact Or.inl ⟨c0, (Option.some.inj h).symm⟩
  · rw [if_neg c0] at h
    by_cases c2 : t.1 = 2
    · rw [if_pos c2] at h
      match s, h with
      | true :: q, h => exact Or.inr (Or.inl ⟨c2, q, rfl, (Option.some.inj h).symm⟩)
      | false :: q, h => cases h
      | [], h => cases h
    · rw [if_neg c2] at h
      by_cases c5 : t.1 = 5 ∨ t.1 = 6 ∨ t.1 = 7
      · rw [if_pos c5] at h
        match s, h with
        | false :: false :: q, h => exact Or.inr (Or.inr (Or.inl ⟨c5, q, rfl, (Option.some.inj h).symm⟩))
        | false :: true :: q, h => cases h
        | true :: q, h => cases h
        | [false], h => cases h
        | [], h => cases h
      · rw [if_neg c5] at h
        by_cases c8 : t.1 = 8 ∨ t.1 = 9 ∨ t.1 = 10
        · rw [if_pos c8] at h
          match s, h with
          | false :: false :: q, h => exact Or.inr (Or.inr (Or.inr (Or.inl ⟨c8, q, rfl, (Option.some.inj h).symm⟩)))
          | false :: true :: q, h => cases h
          | true :: q, h => cases h
          | [false], h => cases h
          | [], h => cases h
        · rw [if_neg c8] at h
          by_cases c11 : t.1 = 11 ∨ t.1 = 12
          · rw [if_pos c11] at h
            match s, h with
            | true :: true :: q, h => exact Or.inr (Or.inr (Or.inr (Or.inr ⟨c11, q, rfl, (Option.some.inj h).symm⟩)))
            | true :: false :: q, h => cases h
            | false :: q, h => cases h
            | [true], h => cases h
            | [], h => cases h
          · rw [if_neg c11] at h
            cases h
theorem skt_p {v : Int32 → Int32} {t : Tk2} {st : List Int32} (h : t.1 = 0 ∨ t.1 = 1) : skt v t st = (if t.1 = 0 then t.2 else v t.2) :: st := by
  unfold skt
  rcases h with e | e
  · rw [if_pos e, if_pos e]
  · have n : ¬ t.1 = 0 := by rw [e]; decide
    rw [if_neg n, if_pos e, if_neg n]
theorem skt_n {v : Int32 → Int32} {t : Tk2} {st : List Int32} {x : Int32} (h : t.1 = 2) : skt v t (x :: st) = (1 - x) :: st := by
  unfold skt
  rw [if_neg (by rw [h]; decide), if_neg (by rw [h]; decide), if_pos h]
theorem skt_b {v : Int32 → Int32} {t : Tk2} {st : List Int32} {x y : Int32} (h : ¬ t.1 = 0 ∧ ¬ t.1 = 1 ∧ ¬ t.1 = 2) : skt v t (y :: x :: st) = cmb t.1 x y :: st := by
  unfold skt
  rw [if_neg h.1, if_neg h.2.1, if_neg h.2.2]
theorem n02 {x : Int32} (h : x = 5 ∨ x = 6 ∨ x = 7 ∨ x = 8 ∨ x = 9 ∨ x = 10 ∨ x = 11 ∨ x = 12) : ¬ x = 0 ∧ ¬ x = 1 ∧ ¬ x = 2 := by
  rcases h with e | e | e | e | e | e | e | e <;> rw [e] <;> decide
theorem ite_01 (p : Prop) [Decidable p] : (if p then (1 : Int32) else 0) = 0 ∨ (if p then (1 : Int32) else 0) = 1 := by
  by_cases h : p
  · rw [if_pos h]
    exact Or.inr rfl
  · rw [if_neg h]
    exact Or.inl rfl
theorem ite_10 (p : Prop) [Decidable p] : (if p then (0 : Int32) else 1) = 0 ∨ (if p then (0 : Int32) else 1) = 1 := by
  by_cases h : p
  · rw [if_pos h]
    exact Or.inl rfl
  · rw [if_neg h]
    exact Or.inr rfl
theorem cmb_8 {o x y : Int32} (h : o = 8 ∨ o = 9 ∨ o = 10) : cmb o x y = 0 ∨ cmb o x y = 1 := by
  unfold cmb
  rcases h with e | e | e
  · rw [if_neg (by rw [e]; decide), if_neg (by rw [e]; decide), if_neg (by rw [e]; decide), if_pos e]
    exact ite_01 _
  · rw [if_neg (by rw [e]; decide), if_neg (by rw [e]; decide), if_neg (by rw [e]; decide), if_neg (by rw [e]; decide), if_pos e]
    exact ite_10 _
  · rw [if_neg (by rw [e]; decide), if_neg (by rw [e]; decide), if_neg (by rw [e]; decide), if_neg (by rw [e]; decide), if_neg (by rw [e]; decide), if_pos e]
    exact ite_10 _
theorem cmb_11 {o x y : Int32} (h : o = 11 ∨ o = 12) (hx : x = 0 ∨ x = 1) (hy : y = 0 ∨ y = 1) : cmb o x y = 0 ∨ cmb o x y = 1 := by
  rcases h with e | e <;> subst e <;> rcases hx with e | e <;> subst e <;> rcases hy with e | e <;> subst e <;> decide
/-- one token, both ways of reading: the kinds stay true -/
theorem skt_t {v : Int32 → Int32} {t : Tk2} {s s' : List Bool} {st : List Int32} (h : ty1 t s = some s') (V : Vty s st) : Vty s' (skt v t st) := by
  rcases ty1_c h with ⟨c, e⟩ | ⟨c, q, e, e'⟩ | ⟨c, q, e, e'⟩ | ⟨c, q, e, e'⟩ | ⟨c, q, e, e'⟩
  · rw [e, skt_p c]
    exact ⟨fun y => absurd y (by decide), V⟩
  · subst e e'
    match st, V with
    | x :: st, V =>
      rw [skt_n c]
      refine ⟨fun _ => ?_, V.2⟩
      rcases V.1 rfl with u | u <;> subst u <;> decide
  · subst e e'
    match st, V with
    | y :: x :: st, V =>
      rw [skt_b (n02 (by rcases c with u | u | u <;> rw [u] <;> decide))]
      exact ⟨fun y => absurd y (by decide), V.2.2⟩
    | [y], V => exact V.2.elim
  · subst e e'
    match st, V with
    | y :: x :: st, V =>
      rw [skt_b (n02 (by rcases c with u | u | u <;> rw [u] <;> decide))]
      exact ⟨fun _ => cmb_8 c, V.2.2⟩
    | [y], V => exact V.2.elim
  · subst e e'
    match st, V with
    | y :: x :: st, V =>
      rw [skt_b (n02 (by rcases c with u | u <;> rw [u] <;> decide))]
      exact ⟨fun _ => cmb_11 c (V.2.1 rfl) (V.1 rfl), V.2.2⟩
    | [y], V => exact V.2.elim
theorem Vty.l : ∀ {s : List Bool} {st : List Int32}, Vty s st → s.length = st.length
  | [], [], _ => rfl
  | _ :: s, _ :: st, V => by
    show s.length + 1 = st.length + 1
    rw [Vty.l V.2]
  | [], _ :: _, V => V.elim
  | _ :: _, [], V => V.elim
theorem run2_t {v : Int32 → Int32} : ∀ (E : List Tk2) {s s' : List Bool} {st : List Int32}, tyL E s = some s' → Vty s st → Vty s' (run2 v E st)
  | [], s, s', st, h, V => by
    have h : some s = some s' := h
    rw [← Option.some.inj h]
    exact V
  | t :: E, s, s', st, h, V => by
    have h : (match ty1 t s with | some s' => tyL E s' | none => none) = some s' := h
    cases e : ty1 t s with
    | none =>
      rw [e] at h
      cases h
    | some q =>
      rw [e] at h
      exact run2_t E h (skt_t e V)
theorem run2_a {v : Int32 → Int32} : ∀ (E F : List Tk2) (st : List Int32), run2 v (E ++ F) st = run2 v F (run2 v E st)
  | [], _, _ => rfl
  | t :: E, F, st => run2_a E F (skt v t st)
/-- a sum, or a condition, leaves one number -/
theorem run2_1 {v : Int32 → Int32} {y : Bool} {E : List Tk2} (p : Put1 y E) : ∃ x, run2 v E [] = [x] := by
  have V := run2_t (v := v) E (p []) (st := []) trivial
  have l := V.l
  match e : run2 v E [], l with
  | [x], _ => exact ⟨x, rfl⟩
/-- letters that are alike tell alike -/
theorem run2_v {v w : Int32 → Int32} : ∀ (E : List Tk2) (st : List Int32), (∀ t ∈ E, t.1 = 1 → v t.2 = w t.2) → run2 v E st = run2 w E st
  | [], _, _ => rfl
  | t :: E, st, h => by
    have e : skt v t st = skt w t st := by
      unfold skt
      by_cases c : t.1 = 1
      · rw [if_pos c, if_pos c, h t (List.mem_cons_self ..) c]
      · rw [if_neg c, if_neg c]
    show run2 v E (skt v t st) = run2 w E (skt w t st)
    rw [e]
    exact run2_v E _ (fun t ht => h t (List.mem_cons_of_mem _ ht))
theorem evC_v {s : Nat} {v w : Int32 → Int32} (h : ∀ c, ltb s c = true → v c = w c) : ∀ C : List Cl2, (∀ c ∈ C, clO s c) → evC v C = evC w C
  | [], _ => rfl
  | c :: C, hc => by
    have k := hc c (List.mem_cons_self ..)
    show (if c.1.length = 0 ∨ ¬ top2 (run2 v c.1 []) = 0 then top2 (run2 v c.2 []) else evC v C) = (if c.1.length = 0 ∨ ¬ top2 (run2 w c.1 []) = 0 then top2 (run2 w c.2 []) else evC w C)
    rw [run2_v c.1 [] (fun t ht e => h _ ((k.2.2.1 t ht).1 e)), run2_v c.2 [] (fun t ht e => h _ ((k.2.2.2 t ht).1 e)), evC_v h C (fun c hc' => hc c (List.mem_cons_of_mem _ hc'))]
/-- the pile, as a row holds it -/
def Pil (p : Nat → Int32) : List Int32 → Prop
  | [] => True
  | x :: st => p st.length = x ∧ Pil p st
theorem Pil.cg {p q : Nat → Int32} : ∀ {st : List Int32}, Pil p st → (∀ k, k < st.length → q k = p k) → Pil q st
  | [], _, _ => trivial
  | x :: st, P, e => ⟨(e _ (by show st.length < st.length + 1; omega)).trans P.1, Pil.cg P.2 (fun k hk => e k (by show k < st.length + 1; omega))⟩
theorem Pil.up {p : Nat → Int32} {st : List Int32} (P : Pil p st) (x : Int32) : Pil (upp p st.length x) (x :: st) := ⟨if_pos rfl, P.cg (fun k hk => if_neg (by omega))⟩
/-! what the reference's codes tell -/
def At_ (cd : Nat → Int32) (i : Nat) (L : List Int32) : Prop := ∀ k v, L[k]? = some v → cd (i + k) = v
theorem At_.l {cd : Nat → Int32} {i : Nat} {L M : List Int32} (a : At_ cd i (L ++ M)) : At_ cd i L := fun k v e => a k v (by
  have l : k < L.length := (List.getElem?_eq_some_iff.mp e).1
  rw [List.getElem?_append_left l]
  exact e)
theorem At_.r {cd : Nat → Int32} {i : Nat} {L M : List Int32} (a : At_ cd i (L ++ M)) : At_ cd (i + L.length) M := fun k v e => by
  have z := a (L.length + k) v (by
    rw [List.getElem?_append_right (by omega), show L.length + k - L.length = k by omega]
    exact e)
  rw [← Nat.add_assoc] at z
  exact z
theorem At_.h {cd : Nat → Int32} {i : Nat} {x : Int32} {L : List Int32} (a : At_ cd i (x :: L)) : cd i = x := a 0 x rfl
theorem bnd_and {x y : Int32} (hx : x = 0 ∨ x = 1) (hy : y = 0 ∨ y = 1) : bothv 38 x y = cmb 11 x y ∧ bothv 124 x y = cmb 12 x y := by
  rcases hx with e | e <;> subst e <;> rcases hy with e | e <;> subst e <;> decide
theorem both_cmb {o x y : Int32} (h : (o = 5 ∨ o = 6 ∨ o = 7) ∨ (o = 8 ∨ o = 9 ∨ o = 10) ∨ ((o = 11 ∨ o = 12) ∧ (x = 0 ∨ x = 1) ∧ (y = 0 ∨ y = 1))) : bothv (opm o) x y = cmb o x y := by
  rcases h with (e | e | e) | (e | e | e) | ⟨e, hx, hy⟩
  · subst e
    show bndv (x.toInt64 + y.toInt64) = kbd (x.toInt64 + y.toInt64)
    exact (kbd_b _).symm
  · subst e
    show bndv (x.toInt64 - y.toInt64) = kbd (x.toInt64 - y.toInt64)
    exact (kbd_b _).symm
  · subst e
    show bndv (x.toInt64 * y.toInt64) = kbd (x.toInt64 * y.toInt64)
    exact (kbd_b _).symm
  · subst e
    rfl
  · subst e
    rfl
  · subst e
    rfl
  · rcases e with e | e <;> subst e
    · exact (bnd_and hx hy).1
    · exact (bnd_and hx hy).2
theorem opm_n {o : Int32} (h : o = 5 ∨ o = 6 ∨ o = 7 ∨ o = 8 ∨ o = 9 ∨ o = 10 ∨ o = 11 ∨ o = 12) : ¬ opm o = 0 ∧ ¬ opm o = 1 ∧ ¬ opm o = 33 ∧ ¬ opm o = 2 ∧ ¬ opm o = 3 := by
  rcases h with e | e | e | e | e | e | e | e <;> subst e <;> decide
theorem tkm_b {t : Tk2} (h : ¬ t.1 = 0 ∧ ¬ t.1 = 1) : tkm t = [opm t.1] := by
  unfold tkm
  rw [if_neg h.1, if_neg h.2]
/-- one token of the reference at work -/
theorem rt_one {s : Nat} {cd lt : Nat → Int32} {j : Nat} (hj : cd j = 2 ∨ cd j = 3) {t : Tk2} {g i m : Nat} {p : Nat → Int32} {st : List Int32} {ts ts' : List Bool} (P : prun s cd g i st.length j m) (L : Pil p st) (ht : ty1 t ts = some ts') (V : Vty ts st) (a : At_ cd i (tkm t)) : ∃ g' p', prun s cd g' (i + (tkm t).length) (skt (fun c => lt c.toNatClampNeg) t st).length j m ∧ wev cd lt g i st.length p = wev cd lt g' (i + (tkm t).length) (skt (fun c => lt c.toNatClampNeg) t st).length p' ∧ Pil p' (skt (fun c => lt c.toNatClampNeg) t st) := by
  have fst : ¬ cd i = 2 ∧ ¬ cd i = 3 := by
    rcases ty1_c ht with ⟨c, _⟩ | ⟨c, _⟩ | ⟨c, _⟩ | ⟨c, _⟩ | ⟨c, _⟩
    · unfold tkm at a
      rcases c with c | c
      · rw [if_pos c] at a
        rw [a.h]
        decide
      · rw [if_neg (by rw [c]; decide), if_pos c] at a
        rw [a.h]
        decide
    · rw [tkm_b (by rw [c]; decide), c] at a
      rw [a.h]
      decide
    · rw [tkm_b (by rcases c with u | u | u <;> rw [u] <;> decide)] at a
      rw [a.h]
      exact (opm_n (by rcases c with u | u | u <;> rw [u] <;> decide)).2.2.2
    · rw [tkm_b (by rcases c with u | u | u <;> rw [u] <;> decide)] at a
      rw [a.h]
      exact (opm_n (by rcases c with u | u | u <;> rw [u] <;> decide)).2.2.2
    · rw [tkm_b (by rcases c with u | u <;> rw [u] <;> decide)] at a
      rw [a.h]
      exact (opm_n (by rcases c with u | u <;> rw [u] <;> decide)).2.2.2
  cases g with
  | zero =>
    have e : i = j := P.1
    rw [e] at fst
    exact (hj.elim fst.1 fst.2).elim
  | succ g =>
    obtain ⟨i', n', h1, h2⟩ := P
    rw [wev_s]
    have bin : ∀ (x y : Int32) (st0 : List Int32), st = y :: x :: st0 → (¬ t.1 = 0 ∧ ¬ t.1 = 1 ∧ ¬ t.1 = 2) → (¬ opm t.1 = 0 ∧ ¬ opm t.1 = 1 ∧ ¬ opm t.1 = 33 ∧ ¬ opm t.1 = 2 ∧ ¬ opm t.1 = 3) → bothv (opm t.1) x y = cmb t.1 x y → ∃ g' p', prun s cd g' (i + (tkm t).length) (skt (fun c => lt c.toNatClampNeg) t st).length j m ∧ (if cd i = 0 then wev cd lt g (i + 2) (st.length + 1) (upp p st.length (cd (i + 1))) else if cd i = 1 then wev cd lt g (i + 2) (st.length + 1) (upp p st.length (lt (cd (i + 1)).toNatClampNeg)) else if cd i = 33 then wev cd lt g (i + 1) st.length (upp p (st.length - 1) (if p (st.length - 1) = 0 then 1 else 0)) else wev cd lt g (i + 1) (st.length - 1) (upp p (st.length - 2) (bothv (cd i) (p (st.length - 2)) (p (st.length - 1))))) = wev cd lt g' (i + (tkm t).length) (skt (fun c => lt c.toNatClampNeg) t st).length p' ∧ Pil p' (skt (fun c => lt c.toNatClampNeg) t st) := fun x y st0 est nt no eb => by
      subst est
      rw [tkm_b ⟨nt.1, nt.2.1⟩] at a ⊢
      have ci := a.h
      rw [skt_b nt, if_neg (by rw [ci]; exact no.1), if_neg (by rw [ci]; exact no.2.1), if_neg (by rw [ci]; exact no.2.2.1)]
      have q : i' = i + 1 ∧ n' = (y :: x :: st0).length - 1 := by
        rcases pst_0 h1 with ⟨c, _⟩ | ⟨c, _⟩ | ⟨c, _⟩ | ⟨_, _, q2, q3⟩
        · exact absurd (ci.symm.trans c) no.1
        · exact absurd (ci.symm.trans c) no.2.1
        · exact absurd (ci.symm.trans c) no.2.2.1
        · exact ⟨q2, q3⟩
      have l1 : (y :: x :: st0).length - 1 = (cmb t.1 x y :: st0).length := rfl
      rw [q.1, q.2, l1] at h2
      refine ⟨g, upp p st0.length (cmb t.1 x y), h2, ?_, L.2.2.up _⟩
      have p1 : p ((y :: x :: st0).length - 1) = y := L.1
      have p2 : p ((y :: x :: st0).length - 2) = x := L.2.1
      rw [p1, p2, ci, eb]
      rfl
    rcases ty1_c ht with ⟨c, e⟩ | ⟨c, q, e, e'⟩ | ⟨c, q, e, e'⟩ | ⟨c, q, e, e'⟩ | ⟨c, q, e, e'⟩
    · rw [skt_p c]
      rcases c with c | c
      · have et : tkm t = [0, t.2] := by
          unfold tkm
          rw [if_pos c]
        rw [et] at a ⊢
        have ci := a.h
        have c1 : cd (i + 1) = t.2 := a 1 t.2 rfl
        rw [if_pos ci, if_pos c, c1]
        have q : i' = i + 2 ∧ n' = st.length + 1 := by
          rcases pst_0 h1 with ⟨_, _, q2, q3⟩ | ⟨c, _⟩ | ⟨c, _⟩ | ⟨c, _⟩
          · exact ⟨q2, q3⟩
          · rw [ci] at c
            exact absurd c (by decide)
          · rw [ci] at c
            exact absurd c (by decide)
          · exact absurd ci c.1
        rw [q.1, q.2] at h2
        exact ⟨g, _, h2, rfl, L.up _⟩
      · have n0 : ¬ t.1 = 0 := by rw [c]; decide
        have et : tkm t = [1, t.2] := by
          unfold tkm
          rw [if_neg n0, if_pos c]
        rw [et] at a ⊢
        have ci := a.h
        have c1 : cd (i + 1) = t.2 := a 1 t.2 rfl
        rw [if_neg n0, if_neg (show ¬ cd i = 0 by rw [ci]; decide), if_pos ci, c1]
        have q : i' = i + 2 ∧ n' = st.length + 1 := by
          rcases pst_0 h1 with ⟨c, _⟩ | ⟨_, _, _, q2, q3⟩ | ⟨c, _⟩ | ⟨c, _⟩
          · rw [ci] at c
            exact absurd c (by decide)
          · exact ⟨q2, q3⟩
          · rw [ci] at c
            exact absurd c (by decide)
          · exact absurd ci c.2.1
        rw [q.1, q.2] at h2
        exact ⟨g, _, h2, rfl, L.up _⟩
    · subst e
      match st, V, L, h1, h2, bin with
      | x :: st0, V, L, h1, h2, bin =>
        rw [skt_n c]
        have et : tkm t = [33] := by
          rw [tkm_b (by rw [c]; decide), c]
          rfl
        rw [et] at a ⊢
        have ci := a.h
        rw [if_neg (by rw [ci]; decide), if_neg (by rw [ci]; decide), if_pos ci]
        have q : i' = i + 1 ∧ n' = (x :: st0).length := by
          rcases pst_0 h1 with ⟨c, _⟩ | ⟨c, _⟩ | ⟨_, _, q2, q3⟩ | ⟨c, _⟩
          · rw [ci] at c
            exact absurd c (by decide)
          · rw [ci] at c
            exact absurd c (by decide)
          · exact ⟨q2, q3⟩
          · exact absurd ci c.2.2.1
        rw [q.1, q.2] at h2
        have p1 : p ((x :: st0).length - 1) = x := L.1
        have ex : (if x = 0 then (1 : Int32) else 0) = 1 - x := by
          rcases V.1 rfl with u | u <;> subst u <;> decide
        rw [p1, ex]
        exact ⟨g, _, h2, rfl, L.2.up _⟩
    · subst e
      match st, V with
      | y :: x :: st0, V => exact bin x y st0 rfl (n02 (by rcases c with u | u | u <;> rw [u] <;> decide)) (opm_n (by rcases c with u | u | u <;> rw [u] <;> decide)) (both_cmb (Or.inl c))
      | [y], V => exact V.2.elim
    · subst e
      match st, V with
      | y :: x :: st0, V => exact bin x y st0 rfl (n02 (by rcases c with u | u | u <;> rw [u] <;> decide)) (opm_n (by rcases c with u | u | u <;> rw [u] <;> decide)) (both_cmb (Or.inr (Or.inl c)))
      | [y], V => exact V.2.elim
    · subst e
      match st, V with
      | y :: x :: st0, V => exact bin x y st0 rfl (n02 (by rcases c with u | u <;> rw [u] <;> decide)) (opm_n (by rcases c with u | u <;> rw [u] <;> decide)) (both_cmb (Or.inr (Or.inr ⟨c, V.2.1 rfl, V.1 rfl⟩)))
      | [y], V => exact V.2.elim
theorem rt_tok {s : Nat} {cd lt : Nat → Int32} {j : Nat} (hj : cd j = 2 ∨ cd j = 3) : ∀ (E : List Tk2) {g i m : Nat} {p : Nat → Int32} {st : List Int32} {ts ts' : List Bool}, prun s cd g i st.length j m → Pil p st → tyL E ts = some ts' → Vty ts st → At_ cd i (E.flatMap tkm) → ∃ g' p', prun s cd g' (i + (E.flatMap tkm).length) (run2 (fun c => lt c.toNatClampNeg) E st).length j m ∧ wev cd lt g i st.length p = wev cd lt g' (i + (E.flatMap tkm).length) (run2 (fun c => lt c.toNatClampNeg) E st).length p' ∧ Pil p' (run2 (fun c => lt c.toNatClampNeg) E st)
  | [], g, i, m, p, st, ts, ts', P, L, _, _, _ => ⟨g, p, P, rfl, L⟩
  | t :: E, g, i, m, p, st, ts, ts', P, L, h, V, a => by
    have h : (match ty1 t ts with | some s' => tyL E s' | none => none) = some ts' := h
    have ef : (t :: E).flatMap tkm = tkm t ++ E.flatMap tkm := List.flatMap_cons
    rw [ef] at a ⊢
    cases e : ty1 t ts with
    | none =>
      rw [e] at h
      cases h
    | some q =>
      rw [e] at h
      obtain ⟨g1, p1, P1, e1, L1⟩ := rt_one (lt := lt) hj P L e V a.l
      obtain ⟨g2, p2, P2, e2, L2⟩ := rt_tok hj E P1 L1 h (skt_t e V) a.r
      refine ⟨g2, p2, ?_, ?_, L2⟩
      · rw [List.length_append, ← Nat.add_assoc]
        exact P2
      · rw [List.length_append, ← Nat.add_assoc, e1]
        exact e2
/-- a whole sum or condition -/
theorem rt_all {s : Nat} {cd lt : Nat → Int32} {j : Nat} (hj : cd j = 2 ∨ cd j = 3) {y : Bool} {E : List Tk2} (p : Put1 y E) {g i : Nat} (P : prun s cd g i 0 j 1) (a : At_ cd i (E.flatMap tkm)) (en : cd (i + (E.flatMap tkm).length) = 2 ∨ cd (i + (E.flatMap tkm).length) = 3) (q : Nat → Int32) : j = i + (E.flatMap tkm).length ∧ wev cd lt g i 0 q = top2 (run2 (fun c => lt c.toNatClampNeg) E []) := by
  obtain ⟨g', p', P', e', L'⟩ := rt_tok (lt := lt) hj E (st := []) (p := q) P trivial (p []) trivial a
  obtain ⟨x, ex⟩ := run2_1 (v := fun c => lt c.toNatClampNeg) p
  rw [ex] at P' e' L'
  cases g' with
  | zero =>
    refine ⟨P'.1.symm, ?_⟩
    rw [ex]
    refine e'.trans ?_
    show p' 0 = x
    exact L'.1
  | succ g' =>
    obtain ⟨i1, n1, h1, _⟩ := P'
    rcases pst_0 h1 with ⟨c, _⟩ | ⟨c, _⟩ | ⟨c, _⟩ | ⟨c, _⟩
    · rw [c] at en
      exact absurd en (by decide)
    · rw [c] at en
      exact absurd en (by decide)
    · rw [c] at en
      exact absurd en (by decide)
    · exact (en.elim c.2.2.2.1 c.2.2.2.2).elim
/-- the condition of a clause, also of one that has none -/
def cnE (c : Cl2) : List Tk2 := if c.1.length = 0 then [(0, 1)] else c.1
theorem clM_e (c : Cl2) : clM c = (cnE c).flatMap tkm ++ 2 :: (c.2.flatMap tkm ++ [3]) := by
  unfold clM cnE
  split
  · rfl
  · rfl
theorem cnE_p {s : Nat} {c : Cl2} (o : clO s c) : ∃ y, Put1 y (cnE c) := by
  unfold cnE
  split
  · exact ⟨false, fun _ => rfl⟩
  · rename_i n
    rcases o.1 with e | e
    · exact absurd e n
    · exact ⟨true, e⟩
theorem cnE_t {v : Int32 → Int32} (c : Cl2) : (c.1.length = 0 ∨ ¬ top2 (run2 v c.1 []) = 0) ↔ ¬ top2 (run2 v (cnE c) []) = 0 := by
  unfold cnE
  split
  · rename_i e
    exact ⟨fun _ => (show ¬ (1 : Int32) = 0 from by decide), fun _ => Or.inl e⟩
  · rename_i n
    exact ⟨fun h => h.elim (fun e => absurd e n) id, Or.inr⟩
theorem clM_2 (c : Cl2) : 2 ≤ (clM c).length := by
  rw [clM_e, List.length_append, List.length_cons, List.length_append]
  show 2 ≤ _ + (_ + 1 + 1)
  omega
theorem tel_ev {s : Nat} {cd lt : Nat → Int32} : ∀ (C : List Cl2) (f i e : Nat) (r : Int32), pcl s cd f i e → tel s cd lt f i e r → At_ cd i (rlM C) → e = i + (rlM C).length → (∀ c ∈ C, clO s c) → r = evC (fun c => lt c.toNatClampNeg) C
  | [], 0, i, e, r, _, t, _, _, _ => t
  | [], f + 1, i, e, r, p, _, _, ee, _ => by
    obtain ⟨j, k, ⟨g1, p1⟩, _, ⟨g2, p2⟩, _, h2⟩ := p
    have l1 := prun_le p1
    have l2 := prun_le p2
    have l3 := pcl_le h2
    have ee : e = i + 0 := ee
    omega
  | c :: C, 0, i, e, r, p, _, _, ee, _ => by
    have p : i = e := p
    have l := clM_2 c
    have q : (rlM (c :: C)).length = (clM c).length + (rlM C).length := by
      rw [show c :: C = [c] ++ C from rfl, rlM_a, rlM_1, List.length_append]
    omega
  | c :: C, f + 1, i, e, r, p, t, a, ee, o => by
    have oc := o c (List.mem_cons_self ..)
    have eq : rlM (c :: C) = clM c ++ rlM C := by rw [show c :: C = [c] ++ C from rfl, rlM_a, rlM_1]
    rw [eq] at a ee
    have ac := a.l
    have aC := a.r
    rw [clM_e] at ac
    have a1 := ac.l
    have a2 := ac.r
    have m2 : cd (i + ((cnE c).flatMap tkm).length) = 2 := a2.h
    have a3 : At_ cd (i + ((cnE c).flatMap tkm).length + 1) (c.2.flatMap tkm ++ [3]) := fun k v e => by
      have z := a2 (k + 1) v e
      rw [show i + ((cnE c).flatMap tkm).length + (k + 1) = i + ((cnE c).flatMap tkm).length + 1 + k by omega] at z
      exact z
    have m3 : cd (i + ((cnE c).flatMap tkm).length + 1 + (c.2.flatMap tkm).length) = 3 := a3.r.h
    have ln : (clM c).length = ((cnE c).flatMap tkm).length + 1 + (c.2.flatMap tkm).length + 1 := by
      rw [clM_e, List.length_append, List.length_cons, List.length_append]
      show _ + (_ + 1 + 1) = _
      omega
    obtain ⟨y, py⟩ := cnE_p oc
    obtain ⟨j', k', ⟨h1, p1⟩, u2, ⟨h2, p2⟩, u3, pC⟩ := p
    obtain ⟨j, k, g1, g2, q1, cj, q2, ck, w⟩ := t
    have r1 := rt_all (lt := lt) (Or.inl cj) py q1 a1 (Or.inl m2) (fun _ => 0)
    have r1' := rt_all (lt := lt) (Or.inl u2) py p1 a1 (Or.inl m2) (fun _ => 0)
    obtain ⟨ej, v1⟩ := r1
    obtain ⟨ej', _⟩ := r1'
    rw [ej] at q2
    rw [ej'] at p2
    have r2 := rt_all (lt := lt) (Or.inr ck) oc.2.1 q2 a3.l (Or.inr m3) (fun _ => 0)
    have r2' := rt_all (lt := lt) (Or.inr u3) oc.2.1 p2 a3.l (Or.inr m3) (fun _ => 0)
    obtain ⟨ek, v2⟩ := r2
    obtain ⟨ek', _⟩ := r2'
    have nx : i + ((cnE c).flatMap tkm).length + 1 + (c.2.flatMap tkm).length + 1 = i + (clM c).length := by omega
    rw [ek', nx] at pC
    rw [v1, ej, v2, ek, nx] at w
    show r = if c.1.length = 0 ∨ ¬ top2 (run2 (fun c => lt c.toNatClampNeg) c.1 []) = 0 then top2 (run2 (fun c => lt c.toNatClampNeg) c.2 []) else evC (fun c => lt c.toNatClampNeg) C
    rcases w with ⟨w1, w2⟩ | ⟨w1, w2⟩
    · rw [if_pos ((cnE_t c).mpr w1)]
      exact w2
    · rw [if_neg (fun z => (cnE_t c).mp z w1)]
      exact tel_ev C f _ e r pC w2 aC (by rw [List.length_append] at ee; omega) (fun c hc => o c (List.mem_cons_of_mem _ hc))
end
section
/-! the class's texts at work -/
theorem nv_p4 {o x : Int32} (ho : 0 ≤ o.toInt ∧ o.toInt ≤ 15) (hx : 0 ≤ x.toInt ∧ x.toInt ≤ 100000) : nv (pk4 o x) = 16 * nv x + nv o ∧ (nv o : Int) = o.toInt ∧ (nv x : Int) = x.toInt := by
  have o1 := (nv_of ho.1).1
  have x1 := (nv_of hx.1).1
  refine ⟨?_, o1.symm, x1.symm⟩
  unfold pk4
  rw [nv_or, nv_shl (by decide) (by decide), show nv 4 = 4 from rfl, Nat.mod_eq_of_lt (show nv x * 2 ^ 4 < 4294967296 by omega), or_add (show nv o < 2 ^ 4 by omega)]
  omega
theorem pk4_15 {o x : Int32} (ho : 0 ≤ o.toInt ∧ o.toInt ≤ 15) (hx : 0 ≤ x.toInt ∧ x.toInt ≤ 100000) : pk4 o x &&& 15 = o := by
  have q := nv_p4 ho hx
  refine nv_i ?_
  rw [nv_and, q.1, show nv 15 = 2 ^ 4 - 1 from rfl, Nat.and_two_pow_sub_one_eq_mod]
  omega
theorem pk4_sh {o x : Int32} (ho : 0 ≤ o.toInt ∧ o.toInt ≤ 15) (hx : 0 ≤ x.toInt ∧ x.toInt ≤ 100000) : pk4 o x >>> ((4 : Int32) &&& 31) = x := by
  have q := nv_p4 ho hx
  have p : 0 ≤ (pk4 o x).toInt := by
    rw [nv_pos (by omega)]
    omega
  refine nv_i ?_
  rw [nv_shr p (by decide) (by decide), q.1, show nv 4 = 4 from rfl]
  omega
theorem c_kbd (d : Nat) (h : Hp_) (x : Int64) : Ci (m_X10_bounded (d + 0) 0 0) [.long x] h (fun r h' => r = kbd x ∧ h' = h) := by
  refine t_X10_bounded d h x _ ⟨fun a => ⟨fun c => ⟨?_, rfl⟩, fun c => ⟨?_, rfl⟩⟩, fun a => ⟨?_, rfl⟩⟩
  · unfold kbd
    rw [if_pos a, if_pos c]
  · unfold kbd
    rw [if_pos a, if_neg c]
  · unfold kbd
    rw [if_neg a]
theorem c_cmb (d : Nat) (h : Hp_) (w : Wf h) (o x y : Int32) : Ci (m_X10_combine (d + 1) 0 0) [.int o, .int x, .int y] h (fun r h' => r = cmb o x y ∧ h' = h) := by
  have bd : ∀ v, Ci (m_X10_bounded (d + 0) 0 0) [.long v] h (fun r h' => Wf h' ∧ r = kbd v ∧ h' = h) := fun v => Ci.mono (c_kbd d h v) (fun r h' e => ⟨by rw [e.2]; exact w, e⟩)
  refine t_X10_combine d h o x y _ ⟨fun e => ?_, fun e => ?_, fun e => ?_, fun e => ⟨fun z => ⟨?_, rfl⟩, fun z => ⟨?_, rfl⟩⟩, fun e => ⟨fun z => ⟨?_, rfl⟩, fun z => ⟨?_, rfl⟩⟩, fun e => ⟨fun z => ⟨?_, rfl⟩, fun z => ⟨?_, rfl⟩⟩, fun e => ⟨?_, rfl⟩, fun e => ⟨?_, rfl⟩⟩
  · subst e
    exact bd _
  · subst e
    exact bd _
  · subst e
    exact bd _
  · subst e
    show (0 : Int32) = if x = y then 1 else 0
    rw [if_neg z]
  · subst e
    show (1 : Int32) = if x = y then 1 else 0
    rw [if_pos z]
  · subst e
    show (0 : Int32) = if y ≤ x then 0 else 1
    rw [if_pos z]
  · subst e
    show (1 : Int32) = if y ≤ x then 0 else 1
    rw [if_neg z]
  · subst e
    show (0 : Int32) = if x ≤ y then 0 else 1
    rw [if_pos z]
  · subst e
    show (1 : Int32) = if x ≤ y then 0 else 1
    rw [if_neg z]
  · subst e
    rfl
  · unfold cmb
    rw [if_neg e.1, if_neg e.2.1, if_neg e.2.2.1, if_neg e.2.2.2.1, if_neg e.2.2.2.2.1, if_neg e.2.2.2.2.2.1, if_neg e.2.2.2.2.2.2]
theorem lt_all : (List.range 256).all (fun j => decide ((ltb 1 (Int32.ofNat j) = true → 0 ≤ (ixq 1 (xch (Int32.ofNat j))).toInt ∧ (ixq 1 (xch (Int32.ofNat j))).toInt ≤ 8) ∧ (ltb 2 (Int32.ofNat j) = true → 0 ≤ (ixq 2 (xch (Int32.ofNat j))).toInt ∧ (ixq 2 (xch (Int32.ofNat j))).toInt ≤ 5))) = true := by decide +kernel
theorem ltb_in {s : Nat} (hs : s = 1 ∨ s = 2) {c : Int32} (h : ltb s c = true) : 0 ≤ c.toInt ∧ c.toInt ≤ 255 := by
  have key : ∀ y : Int32, (y = 107 ∨ y = 119 ∨ y = 112 ∨ y = 104 ∨ y = 100 ∨ y = 99 ∨ y = 110 ∨ y = 101 ∨ y = 116 ∨ y = 121 ∨ y = 109 ∨ y = 120 ∨ y = 97) → 0 ≤ y.toInt ∧ y.toInt ≤ 255 := by
    rintro y (u | u | u | u | u | u | u | u | u | u | u | u | u) <;> rw [u] <;> decide
  rcases hs with u | u <;> subst u
  · have h' := of_decide_eq_true (show decide (c = 107 ∨ c = 119 ∨ c = 112 ∨ c = 104 ∨ c = 100 ∨ c = 99 ∨ c = 110 ∨ c = 101 ∨ c = 116) = true from h)
    rcases h' with u | u | u | u | u | u | u | u | u <;> exact key c (by rw [u]; decide)
  · have h' := of_decide_eq_true (show decide (c = 99 ∨ c = 121 ∨ c = 109 ∨ c = 120 ∨ c = 116 ∨ c = 97) = true from h)
    rcases h' with u | u | u | u | u | u <;> exact key c (by rw [u]; decide)
theorem ix_in {s : Nat} (hs : s = 1 ∨ s = 2) {c : Int32} (h : ltb s c = true) : 0 ≤ (ixq s (xch c)).toInt ∧ (ixq s (xch c)).toInt ≤ (if s = 1 then 8 else 5) := by
  have b := ltb_in hs h
  have e := of_nat32 b.1
  have k := n_nat b.1
  rw [← e] at h ⊢
  have z := of_decide_eq_true (List.all_eq_true.mp lt_all _ (List.mem_range.mpr (show c.toNatClampNeg < 256 by omega)))
  rcases hs with u | u <;> subst u
  · exact z.1 h
  · exact z.2 h
/-- a token's number taken apart -/
theorem tkx_q {s : Nat} (hs : s = 1 ∨ s = 2) {t : Tk2} (h : tkO (ltb s) t) : tkx s t &&& 15 = t.1 ∧ tkx s t >>> ((4 : Int32) &&& 31) = if t.1 = 1 then ixq s (xch t.2) else t.2 := by
  have ho : 0 ≤ t.1.toInt ∧ t.1.toInt ≤ 15 := by
    rcases h.2.2.2 with u | u | u | u | u | u | u | u | u | u | u <;> rw [u] <;> decide
  have hx : 0 ≤ (if t.1 = 1 then ixq s (xch t.2) else t.2).toInt ∧ (if t.1 = 1 then ixq s (xch t.2) else t.2).toInt ≤ 100000 := by
    by_cases c : t.1 = 1
    · rw [if_pos c]
      have z := ix_in hs (h.1 c)
      have b8 : (if s = 1 then (8 : Int) else 5) ≤ 8 := by split <;> decide
      exact ⟨z.1, by omega⟩
    · rw [if_neg c]
      by_cases c0 : t.1 = 0
      · have z := h.2.1 c0
        exact ⟨z.1, by omega⟩
      · rw [h.2.2.1 c0 c]
        decide
  exact ⟨pk4_15 ho hx, pk4_sh ho hx⟩
theorem Vty.u {y : Bool} {s : List Bool} {st : List Int32} (V : Vty (y :: s) st) : ∃ x st0, st = x :: st0 ∧ (y = true → x = 0 ∨ x = 1) ∧ Vty s st0 := match st, V with
  | x :: st0, V => ⟨x, st0, rfl, V.1, V.2⟩
theorem up_41 {a : Nat} (h : Hp_) (k : Nat) (x : Int32) : h_i (h_im h a k x) a = upp (h_i h a) k x := funext (fun j => by
  rw [h_i_im]
  unfold upp
  by_cases e : j = k
  · rw [if_pos ⟨rfl, e⟩, if_pos e]
  · rw [if_neg (fun z => e z.2), if_neg e])
/-- the code of rule r, and what stands while it works -/
def Anc_13 (h0 : Hp_) (r : Nat) (L : List Int32) : Prop := r < 20 ∧ L.length ≤ 164 ∧ h_i h0 39 r = Int32.ofNat L.length ∧ ∀ i v, L[i]? = some v → h_i h0 40 (164 * r + i) = v
def Ans_13 (h0 h : Hp_) (st : List Int32) : Prop := Iv h ∧ Fr [41999] h0 h ∧ Pil (h_i h 41) st
theorem Ans_13.im {h0 h : Hp_} {st : List Int32} (A : Ans_13 h0 h st) (x : Int32) {k : Nat} {st' : List Int32} (ek : k = st'.length) (P : Pil (h_i h 41) st') : Ans_13 h0 (h_im h 41 k x) (x :: st') := ⟨tr_ 41 (by decide +kernel) A.1 _ _ (by decide) (by decide), A.2.1.im (inw_row (by decide +kernel) _), by rw [up_41, ek]; exact P.up x⟩
theorem an_ix_13 {h0 h : Hp_} {st : List Int32} {r i : Nat} {L : List Int32} {w : Int32} (N : Anc_13 h0 r L) (A : Ans_13 h0 h st) (e : L[i]? = some w) : vp_in (Int32.ofNat r) 20 ∧ ¬ h_i h 39 (Int32.ofNat r).toNatClampNeg ≤ Int32.ofNat i ∧ vp_in ((Int32.ofNat r * 164) + Int32.ofNat i) 3280 ∧ h_i h 40 (((Int32.ofNat r * 164) + Int32.ofNat i) : Int32).toNatClampNeg = w := by
  have li : i < L.length := (List.getElem?_eq_some_iff.mp e).1
  obtain ⟨n1, n2, n3, n4⟩ := N
  have t164 : (164 : Int32).toInt = 164 := rfl
  have m1 : (Int32.ofNat r * 164).toInt = (r : Int) * 164 := by rw [tx_mul (by rw [t164, on_j (by omega)]; omega) (by rw [t164, on_j (by omega)]; omega), t164, on_j (by omega)]
  have m2 : (Int32.ofNat r * 164 + Int32.ofNat i).toInt = (r : Int) * 164 + (i : Int) := by rw [tx_add (by rw [m1, on_j (by omega)]; omega) (by rw [m1, on_j (by omega)]; omega), m1, on_j (by omega)]
  have k := n_nat (x := Int32.ofNat r * 164 + Int32.ofNat i) (by omega)
  refine ⟨on_in n1 (by decide), fun z => ?_, dp_in (lo := 0) (hi := 3279) ⟨by show (0 : Int) ≤ _; omega, by show _ ≤ (3279 : Int); omega⟩ (by decide) (by decide), ?_⟩
  · have z := q_le.mp z
    rw [on_k (by omega), fr_i A.2.1 (by decide +kernel), n3, on_j (by omega), on_j (by omega)] at z
    omega
  · rw [fr_i A.2.1 (by decide +kernel), show (Int32.ofNat r * 164 + Int32.ofNat i).toNatClampNeg = 164 * r + i by omega]
    exact n4 i w e
abbrev av_13 (h : Hp_) (x3 : Int32) (c : Int32) : Int32 := h_i h 70 (x3 + ixq 1 (xch c)).toNatClampNeg
theorem an_bin_13 (d : Nat) {h0 : Hp_} {r : Nat} {L : List Int32} (N : Anc_13 h0 r L) (x3 : Int32) {K : Int32 → Hp_ → Prop} {t : Tk2} {i : Nat} {st0 : List Int32} {x y : Int32} {h : Hp_} (A : Ans_13 h0 h (y :: x :: st0)) (nt : ¬ t.1 = 0 ∧ ¬ t.1 = 1 ∧ ¬ t.1 = 2) (g5 : ¬ t.1 < 5) (o : tkO (ltb 1) t) (e : L[i]? = some (tkx 1 t)) (li : (y :: x :: st0).length ≤ i)
    (k : ∀ h', Ans_13 h0 h' (cmb t.1 x y :: st0) → AW (m_X10_answer (d + 2) 0 0) 0 0 22 [(0, .ref 13), (1, .int (Int32.ofNat r)), (2, .ref 70), (3, .int x3), (4, .int (Int32.ofNat (cmb t.1 x y :: st0).length)), (5, .int (Int32.ofNat (i + 1)))] [] h' (kI K)) :
    AW (m_X10_answer (d + 2) 0 0) 0 0 22 [(0, .ref 13), (1, .int (Int32.ofNat r)), (2, .ref 70), (3, .int x3), (4, .int (Int32.ofNat (y :: x :: st0).length)), (5, .int (Int32.ofNat i))] [] h (kI K) := by
  obtain ⟨v1, v2, v3, ew⟩ := an_ix_13 N A e
  have lL : i < L.length := (List.getElem?_eq_some_iff.mp e).1
  have l164 := N.2.1
  have q := tkx_q (s := 1) (by decide) o
  have ll : (y :: x :: st0).length = st0.length + 2 := rfl
  have ll1 : (cmb t.1 x y :: st0).length = st0.length + 1 := rfl
  rw [ll1] at k
  rw [ll] at li ⊢
  have i1 : Int32.ofNat i + 1 = Int32.ofNat (i + 1) := on_s (by omega)
  have t2 : (2 : Int32).toInt = 2 := rfl
  have m1 : Int32.ofNat (st0.length + 2) + (-1) = Int32.ofNat (st0.length + 1) := on_m (by omega)
  have m2 : Int32.ofNat (st0.length + 1) - 1 = Int32.ofNat st0.length := on_p (by omega)
  have ka : (Int32.ofNat (st0.length + 1)).toNatClampNeg = st0.length + 1 := on_k (by omega)
  have kb : (Int32.ofNat st0.length).toNatClampNeg = st0.length := on_k (by omega)
  have py : h_i h 41 (st0.length + 1) = y := A.2.2.1
  have px : h_i h 41 st0.length = x := A.2.2.2.1
  have g2 : (2 : Int32) ≤ Int32.ofNat (st0.length + 2) := q_le.mpr (by rw [on_j (by omega), t2]; omega)
  refine t_X10_answer_13_22 d h A.1.1 _ _ _ _ _ ?_
  rw [ew, q.1, q.2, i1, m1, m2, ka, kb, py, px]
  refine ⟨v1, fun z => absurd z v2, fun _ => ⟨v3, v3, fun e0 => absurd e0 nt.1, fun _ => ⟨fun _ => ⟨fun l5 => absurd l5 g5, fun _ => ⟨fun _ => ⟨on_in (by omega) (by decide), on_in (by omega) (by decide), Ci.mono (c_cmb d h A.1.1 t.1 x y) (fun r31 h29 z => ?_)⟩, fun z => absurd g2 z⟩⟩, fun e1 => absurd e1 nt.2.1⟩⟩⟩
  obtain ⟨er, eh⟩ := z
  subst er eh
  exact ⟨A.1.1, on_in (by omega) (by decide), k _ (A.im _ rfl A.2.2.2.2)⟩
theorem an_not_13 (d : Nat) {h0 : Hp_} {r : Nat} {L : List Int32} (N : Anc_13 h0 r L) (x3 : Int32) {K : Int32 → Hp_ → Prop} {t : Tk2} {i : Nat} {st0 : List Int32} {x : Int32} {h : Hp_} (A : Ans_13 h0 h (x :: st0)) (c : t.1 = 2) (o : tkO (ltb 1) t) (e : L[i]? = some (tkx 1 t)) (li : (x :: st0).length ≤ i)
    (k : ∀ h', Ans_13 h0 h' ((1 - x) :: st0) → AW (m_X10_answer (d + 2) 0 0) 0 0 22 [(0, .ref 13), (1, .int (Int32.ofNat r)), (2, .ref 70), (3, .int x3), (4, .int (Int32.ofNat ((1 - x) :: st0).length)), (5, .int (Int32.ofNat (i + 1)))] [] h' (kI K)) :
    AW (m_X10_answer (d + 2) 0 0) 0 0 22 [(0, .ref 13), (1, .int (Int32.ofNat r)), (2, .ref 70), (3, .int x3), (4, .int (Int32.ofNat (x :: st0).length)), (5, .int (Int32.ofNat i))] [] h (kI K) := by
  obtain ⟨v1, v2, v3, ew⟩ := an_ix_13 N A e
  have lL : i < L.length := (List.getElem?_eq_some_iff.mp e).1
  have l164 := N.2.1
  have q := tkx_q (s := 1) (by decide) o
  have ll : (x :: st0).length = st0.length + 1 := rfl
  have ll1 : ((1 - x) :: st0).length = st0.length + 1 := rfl
  rw [ll1] at k
  rw [ll] at li ⊢
  have i1 : Int32.ofNat i + 1 = Int32.ofNat (i + 1) := on_s (by omega)
  have t1 : (1 : Int32).toInt = 1 := rfl
  have m1 : Int32.ofNat (st0.length + 1) - 1 = Int32.ofNat st0.length := on_p (by omega)
  have kb : (Int32.ofNat st0.length).toNatClampNeg = st0.length := on_k (by omega)
  have px : h_i h 41 st0.length = x := A.2.2.1
  have n0 : ¬ t.1 = 0 := by rw [c]; decide
  have n1 : ¬ t.1 = 1 := by rw [c]; decide
  have l5 : t.1 < 5 := by rw [c]; decide
  have g1 : (1 : Int32) ≤ Int32.ofNat (st0.length + 1) := q_le.mpr (by rw [on_j (by omega), t1]; omega)
  refine t_X10_answer_13_22 d h A.1.1 _ _ _ _ _ ?_
  rw [ew, q.1, q.2, i1, m1, kb, px]
  exact ⟨v1, fun z => absurd z v2, fun _ => ⟨v3, v3, fun e0 => absurd e0 n0, fun _ => ⟨fun _ => ⟨fun _ => ⟨fun _ => ⟨fun n2 => absurd c n2, fun _ => ⟨on_in (by omega) (by decide), on_in (by omega) (by decide), k _ (A.im _ rfl A.2.2.2)⟩⟩, fun z => absurd g1 z⟩, fun g5 => absurd l5 g5⟩, fun e1 => absurd e1 n1⟩⟩⟩
theorem an_one_13 (d : Nat) {h0 : Hp_} {r : Nat} {L : List Int32} (N : Anc_13 h0 r L) (x3 : Int32) (b3 : ∀ c, ltb 1 c = true → 0 ≤ x3 + ixq 1 (xch c) ∧ x3 + ixq 1 (xch c) ≤ ((2700 : Int32) - 1)) (b3' : ∀ c, ltb 1 c = true → vp_in (x3 + ixq 1 (xch c)) 2700) {K : Int32 → Hp_ → Prop} {t : Tk2} {i : Nat} {st : List Int32} {ts ts' : List Bool} {h : Hp_} (A : Ans_13 h0 h st) (ht : ty1 t ts = some ts') (V : Vty ts st) (o : tkO (ltb 1) t) (e : L[i]? = some (tkx 1 t)) (li : st.length ≤ i)
    (k : ∀ h', Ans_13 h0 h' (skt (av_13 h0 x3) t st) → AW (m_X10_answer (d + 2) 0 0) 0 0 22 [(0, .ref 13), (1, .int (Int32.ofNat r)), (2, .ref 70), (3, .int x3), (4, .int (Int32.ofNat (skt (av_13 h0 x3) t st).length)), (5, .int (Int32.ofNat (i + 1)))] [] h' (kI K)) :
    AW (m_X10_answer (d + 2) 0 0) 0 0 22 [(0, .ref 13), (1, .int (Int32.ofNat r)), (2, .ref 70), (3, .int x3), (4, .int (Int32.ofNat st.length)), (5, .int (Int32.ofNat i))] [] h (kI K) := by
  rcases ty1_c ht with ⟨c, _⟩ | ⟨c, qq, es, _⟩ | ⟨c, qq, es, _⟩ | ⟨c, qq, es, _⟩ | ⟨c, qq, es, _⟩
  · obtain ⟨v1, v2, v3, ew⟩ := an_ix_13 N A e
    have lL : i < L.length := (List.getElem?_eq_some_iff.mp e).1
    have l164 := N.2.1
    have q := tkx_q (s := 1) (by decide) o
    have i1 : Int32.ofNat i + 1 = Int32.ofNat (i + 1) := on_s (by omega)
    have t164 : (164 : Int32).toInt = 164 := rfl
    have lt4 : Int32.ofNat st.length < 164 := q_lt.mpr (by rw [on_j (by omega), t164]; omega)
    have v4 : vp_in (Int32.ofNat st.length) 164 := on_in (by omega) (by decide)
    have k4 : (Int32.ofNat st.length).toNatClampNeg = st.length := on_k (by omega)
    rw [skt_p c] at k
    refine t_X10_answer_13_22 d h A.1.1 _ _ _ _ _ ?_
    rw [ew, q.1, q.2, i1, k4, on_s (show st.length < 1000000 by omega)]
    rcases c with c | c
    · have n1 : ¬ t.1 = 1 := by rw [c]; decide
      rw [if_pos c] at k
      rw [if_neg n1]
      exact ⟨v1, fun z => absurd z v2, fun _ => ⟨v3, v3, fun _ => ⟨fun _ => ⟨fun n => absurd c n, fun _ => ⟨v4, k _ (A.im t.2 rfl A.2.2)⟩⟩, fun z => absurd lt4 z⟩, fun n => absurd c n⟩⟩
    · have n0 : ¬ t.1 = 0 := by rw [c]; decide
      rw [if_neg n0] at k
      rw [if_pos c]
      refine ⟨v1, fun z => absurd z v2, fun _ => ⟨v3, v3, fun e0 => absurd e0 n0, fun _ => ⟨fun n1 => absurd c n1, fun _ => ⟨fun _ => ⟨fun _ => t_X10_valueOf_70 d h A.1.1 _ _ ⟨fun z => absurd (b3 _ (o.1 c)) z, fun _ => ⟨b3' _ (o.1 c), A.1.1, v4, ?_⟩⟩, fun e0 => absurd e0 n0⟩, fun z => absurd lt4 z⟩⟩⟩⟩
      have ev : h_i h 70 (x3 + ixq 1 (xch t.2)).toNatClampNeg = av_13 h0 x3 t.2 := fr_i A.2.1 (by decide +kernel) _
      rw [ev]
      exact k _ (A.im _ rfl A.2.2)
  · subst es
    obtain ⟨x, st0, e1, _, _⟩ := V.u
    subst e1
    rw [skt_n c] at k
    exact an_not_13 d N x3 A c o e li k
  · subst es
    obtain ⟨y, st1, e1, _, V1⟩ := V.u
    obtain ⟨x, st0, e2, _, _⟩ := V1.u
    subst e1 e2
    have nt := n02 (x := t.1) (by rcases c with u | u | u <;> rw [u] <;> decide)
    rw [skt_b nt] at k
    exact an_bin_13 d N x3 A nt (by rcases c with u | u | u <;> rw [u] <;> decide) o e li k
  · subst es
    obtain ⟨y, st1, e1, _, V1⟩ := V.u
    obtain ⟨x, st0, e2, _, _⟩ := V1.u
    subst e1 e2
    have nt := n02 (x := t.1) (by rcases c with u | u | u <;> rw [u] <;> decide)
    rw [skt_b nt] at k
    exact an_bin_13 d N x3 A nt (by rcases c with u | u | u <;> rw [u] <;> decide) o e li k
  · subst es
    obtain ⟨y, st1, e1, _, V1⟩ := V.u
    obtain ⟨x, st0, e2, _, _⟩ := V1.u
    subst e1 e2
    have nt := n02 (x := t.1) (by rcases c with u | u <;> rw [u] <;> decide)
    rw [skt_b nt] at k
    exact an_bin_13 d N x3 A nt (by rcases c with u | u <;> rw [u] <;> decide) o e li k
theorem an_tok_13 (d : Nat) {h0 : Hp_} {r : Nat} {L : List Int32} (N : Anc_13 h0 r L) (x3 : Int32) (b3 : ∀ c, ltb 1 c = true → 0 ≤ x3 + ixq 1 (xch c) ∧ x3 + ixq 1 (xch c) ≤ ((2700 : Int32) - 1)) (b3' : ∀ c, ltb 1 c = true → vp_in (x3 + ixq 1 (xch c)) 2700) {K : Int32 → Hp_ → Prop} : ∀ (E : List Tk2) {i : Nat} {st : List Int32} {ts ts' : List Bool} {h : Hp_}, Ans_13 h0 h st → tyL E ts = some ts' → Vty ts st → (∀ t ∈ E, tkO (ltb 1) t) → (∀ k w, (E.map (tkx 1))[k]? = some w → L[i + k]? = some w) → st.length ≤ i →
    (∀ h', Ans_13 h0 h' (run2 (av_13 h0 x3) E st) → (run2 (av_13 h0 x3) E st).length ≤ i + E.length → AW (m_X10_answer (d + 2) 0 0) 0 0 22 [(0, .ref 13), (1, .int (Int32.ofNat r)), (2, .ref 70), (3, .int x3), (4, .int (Int32.ofNat (run2 (av_13 h0 x3) E st).length)), (5, .int (Int32.ofNat (i + E.length)))] [] h' (kI K)) →
    AW (m_X10_answer (d + 2) 0 0) 0 0 22 [(0, .ref 13), (1, .int (Int32.ofNat r)), (2, .ref 70), (3, .int x3), (4, .int (Int32.ofNat st.length)), (5, .int (Int32.ofNat i))] [] h (kI K)
  | [], i, st, ts, ts', h, A, _, _, _, _, li, k => k h A li
  | t :: E, i, st, ts, ts', h, A, hE, V, o, c, li, k => by
    have hE : (match ty1 t ts with | some s' => tyL E s' | none => none) = some ts' := hE
    cases e : ty1 t ts with
    | none =>
      rw [e] at hE
      cases hE
    | some q =>
      rw [e] at hE
      have V' := skt_t (v := av_13 h0 x3) e V
      have sl : (skt (av_13 h0 x3) t st).length ≤ i + 1 := by
        have a := V'.l
        have b := V.l
        rcases ty1_c e with ⟨_, u⟩ | ⟨_, w, u, u'⟩ | ⟨_, w, u, u'⟩ | ⟨_, w, u, u'⟩ | ⟨_, w, u, u'⟩
        · rw [u] at a
          have : (false :: ts).length = ts.length + 1 := rfl
          omega
        all_goals
          subst u u'
          simp only [List.length_cons] at a b
          omega
      refine an_one_13 d N x3 b3 b3' A e V (o t (List.mem_cons_self ..)) (c 0 _ rfl) li (fun h' A' => ?_)
      refine an_tok_13 d N x3 b3 b3' E A' hE V' (fun t ht => o t (List.mem_cons_of_mem _ ht)) (fun k w z => ?_) sl (fun h2 A2 l2 => ?_)
      · have y := c (k + 1) w z
        rw [show i + (k + 1) = i + 1 + k by omega] at y
        exact y
      · have y := k h2 A2 (by show _ ≤ i + (E.length + 1); have : (run2 (av_13 h0 x3) E (skt (av_13 h0 x3) t st)).length ≤ i + 1 + E.length := l2; show (run2 (av_13 h0 x3) E (skt (av_13 h0 x3) t st)).length ≤ _; omega)
        rw [show i + (t :: E).length = i + 1 + E.length by show i + (E.length + 1) = _; omega] at y
        exact y
/-- all clauses from one on -/
theorem an_cls_13 (d : Nat) {h0 : Hp_} {r : Nat} {L : List Int32} (N : Anc_13 h0 r L) (x3 : Int32) (b3 : ∀ c, ltb 1 c = true → 0 ≤ x3 + ixq 1 (xch c) ∧ x3 + ixq 1 (xch c) ≤ ((2700 : Int32) - 1)) (b3' : ∀ c, ltb 1 c = true → vp_in (x3 + ixq 1 (xch c)) 2700) : ∀ (C : List Cl2) {i : Nat} {h : Hp_}, Ans_13 h0 h [] → (∀ c ∈ C, clO 1 c) → (∀ k w, (rlX 1 i C)[k]? = some w → L[i + k]? = some w) → i + rlN C = L.length →
    AW (m_X10_answer (d + 2) 0 0) 0 0 22 [(0, .ref 13), (1, .int (Int32.ofNat r)), (2, .ref 70), (3, .int x3), (4, .int (Int32.ofNat 0)), (5, .int (Int32.ofNat i))] [] h (kI (fun q h' => Iv h' ∧ Fr [41999] h0 h' ∧ q = evC (av_13 h0 x3) C))
  | [], i, h, A, _, _, le => by
    have le : i + 0 = L.length := le
    have l164 := N.2.1
    refine t_X10_answer_13_22 d h A.1.1 _ _ _ _ _ ⟨on_in N.1 (by decide), fun _ => ⟨A.1, A.2.1, rfl⟩, fun z => ?_⟩
    have n1 := N.1
    have z := q_nle z
    rw [on_k (by omega), fr_i A.2.1 (by decide +kernel), N.2.2.1, on_j (by omega), on_j (by omega)] at z
    omega
  | c :: C, i, h, A, o, cd, le => by
    have oc := o c (List.mem_cons_self ..)
    have l164 := N.2.1
    have t1 : (1 : Int32).toInt = 1 := rfl
    have t0 : (0 : Int32).toInt = 0 := rfl
    have le : i + (clN c + rlN C) = L.length := le
    have cd : ∀ k w, (clX 1 i c ++ rlX 1 (i + clN c) C)[k]? = some w → L[i + k]? = some w := cd
    have cc : ∀ k w, (clX 1 i c)[k]? = some w → L[i + k]? = some w := fun k w e => cd k w (by
      rw [List.getElem?_append_left ((List.getElem?_eq_some_iff.mp e).1)]
      exact e)
    have cC : ∀ k w, (rlX 1 (i + clN c) C)[k]? = some w → L[i + clN c + k]? = some w := fun k w e => by
      have z := cd (clN c + k) w (by
        rw [List.getElem?_append_right (by rw [clX_l]; omega), clX_l, show clN c + k - clN c = k by omega]
        exact e)
      rw [show i + (clN c + k) = i + clN c + k by omega] at z
      exact z
    obtain ⟨xa_, ea⟩ := run2_1 (v := av_13 h0 x3) oc.2.1
    have ans : ∀ (j : Nat) (h' : Hp_), Ans_13 h0 h' [] → (∀ k w, (c.2.map (tkx 1) ++ [pk4 4 0])[k]? = some w → L[j + k]? = some w) → AW (m_X10_answer (d + 2) 0 0) 0 0 22 [(0, .ref 13), (1, .int (Int32.ofNat r)), (2, .ref 70), (3, .int x3), (4, .int (Int32.ofNat 0)), (5, .int (Int32.ofNat j))] [] h' (kI (fun q h' => Iv h' ∧ Fr [41999] h0 h' ∧ q = top2 (run2 (av_13 h0 x3) c.2 []))) := fun j h' A' cj => by
      refine an_tok_13 d N x3 b3 b3' c.2 (st := []) A' (oc.2.1 []) trivial oc.2.2.2 (fun k w e => cj k w (by
        rw [List.getElem?_append_left ((List.getElem?_eq_some_iff.mp e).1)]
        exact e)) (Nat.zero_le _) (fun h2 A2 l2 => ?_)
      rw [ea] at A2 l2 ⊢
      have ce : L[j + c.2.length]? = some (pk4 4 0) := by
        have z := cj c.2.length (pk4 4 0) (by
          rw [List.getElem?_append_right (by rw [List.length_map]; exact Nat.le_refl _), List.length_map, Nat.sub_self]
          rfl)
        exact z
      obtain ⟨v1, v2, v3, ew⟩ := an_ix_13 N A2 ce
      rw [show Int32.ofNat [xa_].length = 1 from rfl]
      refine t_X10_answer_13_22 d h2 A2.1.1 _ _ _ _ _ ?_
      rw [ew, show pk4 4 0 &&& 15 = 4 from by decide, show (1 : Int32) - 1 = 0 from rfl]
      have z0 : (0 : Int32).toNatClampNeg = 0 := by simp
      have px : h_i h2 41 0 = xa_ := A2.2.2.1
      rw [z0]
      exact ⟨v1, fun z => absurd z v2, fun _ => ⟨v3, v3, fun e0 => absurd e0 (by decide), fun _ => ⟨fun _ => ⟨fun _ => ⟨fun _ => ⟨fun _ => ⟨fun n4 => absurd rfl n4, fun _ => ⟨(show vp_in (Int32.ofNat 0) 164 from on_in (by decide) (by decide)), A2.1, A2.2.1, px⟩⟩, fun e2 => absurd e2 (by decide)⟩, fun z => absurd (by decide) z⟩, fun g5 => absurd (by decide) g5⟩, fun e1 => absurd e1 (by decide)⟩⟩⟩
    show AW _ 0 0 22 _ [] h (kI (fun q h' => Iv h' ∧ Fr [41999] h0 h' ∧ q = if c.1.length = 0 ∨ ¬ top2 (run2 (av_13 h0 x3) c.1 []) = 0 then top2 (run2 (av_13 h0 x3) c.2 []) else evC (av_13 h0 x3) C))
    by_cases n0 : c.1.length = 0
    · rw [if_pos (Or.inl n0)]
      refine ans i h A (fun k w e => cc k w ?_)
      unfold clX
      rw [if_pos n0]
      exact e
    · have eX : clX 1 i c = c.1.map (tkx 1) ++ anX 1 (i + c.1.length) c.2 := by
        unfold clX
        rw [if_neg n0]
      have nN : clN c = c.1.length + (c.2.length + 2) := by
        unfold clN
        rw [if_neg n0]
      rw [eX] at cc
      have p1 : Put1 true c.1 := oc.1.elim (fun e => absurd e n0) id
      obtain ⟨xc_, ec⟩ := run2_1 (v := av_13 h0 x3) p1
      refine an_tok_13 d N x3 b3 b3' c.1 (st := []) A (p1 []) trivial oc.2.2.1 (fun k w e => cc k w (by
        rw [List.getElem?_append_left ((List.getElem?_eq_some_iff.mp e).1)]
        exact e)) (Nat.zero_le _) (fun h2 A2 l2 => ?_)
      rw [ec] at A2 l2 ⊢
      have cu : ∀ k w, (anX 1 (i + c.1.length) c.2)[k]? = some w → L[i + c.1.length + k]? = some w := fun k w e => by
        have z := cc (c.1.length + k) w (by
          rw [List.getElem?_append_right (by rw [List.length_map]; omega), List.length_map, show c.1.length + k - c.1.length = k by omega]
          exact e)
        rw [show i + (c.1.length + k) = i + c.1.length + k by omega] at z
        exact z
      have ce : L[i + c.1.length]? = some (pk4 3 (Int32.ofNat (i + c.1.length + 1 + c.2.length + 1))) := cu 0 _ rfl
      have tg : 0 ≤ (Int32.ofNat (i + c.1.length + 1 + c.2.length + 1)).toInt ∧ (Int32.ofNat (i + c.1.length + 1 + c.2.length + 1)).toInt ≤ 100000 := by
        rw [on_j (by omega)]
        omega
      have w15 := pk4_15 (o := 3) (by decide) tg
      have wsh := pk4_sh (o := 3) (by decide) tg
      obtain ⟨v1, v2, v3, ew⟩ := an_ix_13 N A2 ce
      rw [show Int32.ofNat [xc_].length = 1 from rfl]
      refine t_X10_answer_13_22 d h2 A2.1.1 _ _ _ _ _ ?_
      rw [ew, w15, wsh, show (1 : Int32) + (-1) = 0 from rfl]
      have z0 : (0 : Int32).toNatClampNeg = 0 := by simp
      have px : h_i h2 41 0 = xc_ := A2.2.2.1
      rw [z0]
      have i1 : Int32.ofNat (i + c.1.length) + 1 = Int32.ofNat (i + c.1.length + 1) := on_s (by omega)
      have A3 : Ans_13 h0 h2 [] := ⟨A2.1, A2.2.1, trivial⟩
      refine ⟨v1, fun z => absurd z v2, fun _ => ⟨v3, v3, fun e0 => absurd e0 (by decide), fun _ => ⟨fun _ => ⟨fun _ => ⟨fun _ => ⟨fun _ => ⟨fun _ => ⟨(show vp_in (Int32.ofNat 0) 164 from on_in (by decide) (by decide)), fun nx => ?_, fun ex => ?_⟩, fun e4 => absurd e4 (by decide)⟩, fun e2 => absurd e2 (by decide)⟩, fun z => absurd (by decide) z⟩, fun g5 => absurd (by decide) g5⟩, fun e1 => absurd e1 (by decide)⟩⟩⟩
      · have nx : ¬ xc_ = 0 := fun y => nx (px.trans y)
        rw [if_pos (show c.1.length = 0 ∨ ¬ top2 [xc_] = 0 from Or.inr nx), i1]
        refine ans (i + c.1.length + 1) h2 A3 (fun k w e => ?_)
        have z := cu (k + 1) w e
        rw [show i + c.1.length + (k + 1) = i + c.1.length + 1 + k by omega] at z
        exact z
      · have ex : xc_ = 0 := px.symm.trans ex
        rw [if_neg (show ¬ (c.1.length = 0 ∨ ¬ top2 [xc_] = 0) from fun y => y.elim n0 (fun z => z ex))]
        have jt : (if Int32.ofNat (i + c.1.length) < Int32.ofNat (i + c.1.length + 1 + c.2.length + 1) - 1 then Int32.ofNat (i + c.1.length + 1 + c.2.length + 1) - 1 else Int32.ofNat (i + c.1.length)) + 1 = Int32.ofNat (i + clN c) := by
          rw [on_p (show i + c.1.length + 1 + c.2.length < 1000000 by omega), if_pos (q_lt.mpr (by rw [on_j (by omega), on_j (by omega)]; omega)), on_s (by omega)]
          congr 1
          omega
        rw [jt]
        exact an_cls_13 d N x3 b3 b3' C A3 (fun c hc => o c (List.mem_cons_of_mem _ hc)) cC (by omega)
/-- what a text of the class tells -/
theorem c_an_13 (d : Nat) {h : Hp_} (I : Iv h) {r : Nat} (hr : (r : Int) < (h_i h 13 5).toInt) {C : List Cl2} (o : ∀ c ∈ C, clO 1 c) (len : h_i h 39 r = Int32.ofNat (rlN C)) (l164 : rlN C ≤ 164) (cd : ∀ i v, (rlX 1 0 C)[i]? = some v → h_i h 40 (164 * r + i) = v) (x3 : Int32) (b3 : ∀ c, ltb 1 c = true → 0 ≤ x3 + ixq 1 (xch c) ∧ x3 + ixq 1 (xch c) ≤ ((2700 : Int32) - 1)) (b3' : ∀ c, ltb 1 c = true → vp_in (x3 + ixq 1 (xch c)) 2700) : Ci (m_X10_answer (d + 2) 0 0) [.ref 13, .int (Int32.ofNat r), .ref 70, .int x3] h (fun q h' => Iv h' ∧ Fr [41999] h h' ∧ q = evC (av_13 h x3) C) := by
  have rg := I.2.1 13 5
  rw [show tf 13 5 = (0, 20) by decide +kernel] at rg
  have r20 : (h_i h 13 5).toInt ≤ 20 := rg.2
  have t1 : (1 : Int32).toInt = 1 := rfl
  have t0 : (0 : Int32).toInt = 0 := rfl
  have m1 : (h_i h 13 5 - 1).toInt = (h_i h 13 5).toInt - 1 := by rw [tx_sub (by rw [t1]; omega) (by rw [t1]; omega), t1]
  refine t_X10_answer_13 d h I.1 _ x3 _ ⟨fun _ => ?_, fun z => absurd ⟨q_le.mpr (by rw [t0, on_j (by omega)]; omega), q_le.mpr (by rw [m1, on_j (by omega)]; omega)⟩ z⟩
  exact an_cls_13 d (L := rlX 1 0 C) ⟨by omega, by rw [rlX_l]; exact l164, by rw [rlX_l]; exact len, cd⟩ x3 b3 b3' C (i := 0) ⟨I, Fr.rf _ _, trivial⟩ o (fun k w e => by rw [Nat.zero_add]; exact e) (by rw [rlX_l, Nat.zero_add])
/-- no text: nothing is told -/
theorem c_an0_13 (d : Nat) {h : Hp_} (I : Iv h) (x3 : Int32) : Ci (m_X10_answer (d + 2) 0 0) [.ref 13, .int (-1), .ref 70, .int x3] h (fun q h' => h' = h ∧ q = 0) := t_X10_answer_13 d h I.1 _ x3 _ ⟨fun z => absurd z.1 (by decide), fun _ => ⟨rfl, rfl⟩⟩
/-- the code of rule r, and what stands while it works -/
def Anc_14 (h0 : Hp_) (r : Nat) (L : List Int32) : Prop := r < 20 ∧ L.length ≤ 164 ∧ h_i h0 44 r = Int32.ofNat L.length ∧ ∀ i v, L[i]? = some v → h_i h0 45 (164 * r + i) = v
def Ans_14 (h0 h : Hp_) (st : List Int32) : Prop := Iv h ∧ Fr [46999] h0 h ∧ Pil (h_i h 46) st
theorem Ans_14.im {h0 h : Hp_} {st : List Int32} (A : Ans_14 h0 h st) (x : Int32) {k : Nat} {st' : List Int32} (ek : k = st'.length) (P : Pil (h_i h 46) st') : Ans_14 h0 (h_im h 46 k x) (x :: st') := ⟨tr_ 46 (by decide +kernel) A.1 _ _ (by decide) (by decide), A.2.1.im (inw_row (by decide +kernel) _), by rw [up_41, ek]; exact P.up x⟩
theorem an_ix_14 {h0 h : Hp_} {st : List Int32} {r i : Nat} {L : List Int32} {w : Int32} (N : Anc_14 h0 r L) (A : Ans_14 h0 h st) (e : L[i]? = some w) : vp_in (Int32.ofNat r) 20 ∧ ¬ h_i h 44 (Int32.ofNat r).toNatClampNeg ≤ Int32.ofNat i ∧ vp_in ((Int32.ofNat r * 164) + Int32.ofNat i) 3280 ∧ h_i h 45 (((Int32.ofNat r * 164) + Int32.ofNat i) : Int32).toNatClampNeg = w := by
  have li : i < L.length := (List.getElem?_eq_some_iff.mp e).1
  obtain ⟨n1, n2, n3, n4⟩ := N
  have t164 : (164 : Int32).toInt = 164 := rfl
  have m1 : (Int32.ofNat r * 164).toInt = (r : Int) * 164 := by rw [tx_mul (by rw [t164, on_j (by omega)]; omega) (by rw [t164, on_j (by omega)]; omega), t164, on_j (by omega)]
  have m2 : (Int32.ofNat r * 164 + Int32.ofNat i).toInt = (r : Int) * 164 + (i : Int) := by rw [tx_add (by rw [m1, on_j (by omega)]; omega) (by rw [m1, on_j (by omega)]; omega), m1, on_j (by omega)]
  have k := n_nat (x := Int32.ofNat r * 164 + Int32.ofNat i) (by omega)
  refine ⟨on_in n1 (by decide), fun z => ?_, dp_in (lo := 0) (hi := 3279) ⟨by show (0 : Int) ≤ _; omega, by show _ ≤ (3279 : Int); omega⟩ (by decide) (by decide), ?_⟩
  · have z := q_le.mp z
    rw [on_k (by omega), fr_i A.2.1 (by decide +kernel), n3, on_j (by omega), on_j (by omega)] at z
    omega
  · rw [fr_i A.2.1 (by decide +kernel), show (Int32.ofNat r * 164 + Int32.ofNat i).toNatClampNeg = 164 * r + i by omega]
    exact n4 i w e
abbrev av_14 (h : Hp_) (x3 : Int32) (c : Int32) : Int32 := h_i h 108 (x3 + ixq 2 (xch c)).toNatClampNeg
theorem an_bin_14 (d : Nat) {h0 : Hp_} {r : Nat} {L : List Int32} (N : Anc_14 h0 r L) (x3 : Int32) {K : Int32 → Hp_ → Prop} {t : Tk2} {i : Nat} {st0 : List Int32} {x y : Int32} {h : Hp_} (A : Ans_14 h0 h (y :: x :: st0)) (nt : ¬ t.1 = 0 ∧ ¬ t.1 = 1 ∧ ¬ t.1 = 2) (g5 : ¬ t.1 < 5) (o : tkO (ltb 2) t) (e : L[i]? = some (tkx 2 t)) (li : (y :: x :: st0).length ≤ i)
    (k : ∀ h', Ans_14 h0 h' (cmb t.1 x y :: st0) → AW (m_X10_answer (d + 2) 0 0) 0 0 22 [(0, .ref 14), (1, .int (Int32.ofNat r)), (2, .ref 108), (3, .int x3), (4, .int (Int32.ofNat (cmb t.1 x y :: st0).length)), (5, .int (Int32.ofNat (i + 1)))] [] h' (kI K)) :
    AW (m_X10_answer (d + 2) 0 0) 0 0 22 [(0, .ref 14), (1, .int (Int32.ofNat r)), (2, .ref 108), (3, .int x3), (4, .int (Int32.ofNat (y :: x :: st0).length)), (5, .int (Int32.ofNat i))] [] h (kI K) := by
  obtain ⟨v1, v2, v3, ew⟩ := an_ix_14 N A e
  have lL : i < L.length := (List.getElem?_eq_some_iff.mp e).1
  have l164 := N.2.1
  have q := tkx_q (s := 2) (by decide) o
  have ll : (y :: x :: st0).length = st0.length + 2 := rfl
  have ll1 : (cmb t.1 x y :: st0).length = st0.length + 1 := rfl
  rw [ll1] at k
  rw [ll] at li ⊢
  have i1 : Int32.ofNat i + 1 = Int32.ofNat (i + 1) := on_s (by omega)
  have t2 : (2 : Int32).toInt = 2 := rfl
  have m1 : Int32.ofNat (st0.length + 2) + (-1) = Int32.ofNat (st0.length + 1) := on_m (by omega)
  have m2 : Int32.ofNat (st0.length + 1) - 1 = Int32.ofNat st0.length := on_p (by omega)
  have ka : (Int32.ofNat (st0.length + 1)).toNatClampNeg = st0.length + 1 := on_k (by omega)
  have kb : (Int32.ofNat st0.length).toNatClampNeg = st0.length := on_k (by omega)
  have py : h_i h 46 (st0.length + 1) = y := A.2.2.1
  have px : h_i h 46 st0.length = x := A.2.2.2.1
  have g2 : (2 : Int32) ≤ Int32.ofNat (st0.length + 2) := q_le.mpr (by rw [on_j (by omega), t2]; omega)
  refine t_X10_answer_14_22 d h A.1.1 _ _ _ _ _ ?_
  rw [ew, q.1, q.2, i1, m1, m2, ka, kb, py, px]
  refine ⟨v1, fun z => absurd z v2, fun _ => ⟨v3, v3, fun e0 => absurd e0 nt.1, fun _ => ⟨fun _ => ⟨fun l5 => absurd l5 g5, fun _ => ⟨fun _ => ⟨on_in (by omega) (by decide), on_in (by omega) (by decide), Ci.mono (c_cmb d h A.1.1 t.1 x y) (fun r31 h29 z => ?_)⟩, fun z => absurd g2 z⟩⟩, fun e1 => absurd e1 nt.2.1⟩⟩⟩
  obtain ⟨er, eh⟩ := z
  subst er eh
  exact ⟨A.1.1, on_in (by omega) (by decide), k _ (A.im _ rfl A.2.2.2.2)⟩
theorem an_not_14 (d : Nat) {h0 : Hp_} {r : Nat} {L : List Int32} (N : Anc_14 h0 r L) (x3 : Int32) {K : Int32 → Hp_ → Prop} {t : Tk2} {i : Nat} {st0 : List Int32} {x : Int32} {h : Hp_} (A : Ans_14 h0 h (x :: st0)) (c : t.1 = 2) (o : tkO (ltb 2) t) (e : L[i]? = some (tkx 2 t)) (li : (x :: st0).length ≤ i)
    (k : ∀ h', Ans_14 h0 h' ((1 - x) :: st0) → AW (m_X10_answer (d + 2) 0 0) 0 0 22 [(0, .ref 14), (1, .int (Int32.ofNat r)), (2, .ref 108), (3, .int x3), (4, .int (Int32.ofNat ((1 - x) :: st0).length)), (5, .int (Int32.ofNat (i + 1)))] [] h' (kI K)) :
    AW (m_X10_answer (d + 2) 0 0) 0 0 22 [(0, .ref 14), (1, .int (Int32.ofNat r)), (2, .ref 108), (3, .int x3), (4, .int (Int32.ofNat (x :: st0).length)), (5, .int (Int32.ofNat i))] [] h (kI K) := by
  obtain ⟨v1, v2, v3, ew⟩ := an_ix_14 N A e
  have lL : i < L.length := (List.getElem?_eq_some_iff.mp e).1
  have l164 := N.2.1
  have q := tkx_q (s := 2) (by decide) o
  have ll : (x :: st0).length = st0.length + 1 := rfl
  have ll1 : ((1 - x) :: st0).length = st0.length + 1 := rfl
  rw [ll1] at k
  rw [ll] at li ⊢
  have i1 : Int32.ofNat i + 1 = Int32.ofNat (i + 1) := on_s (by omega)
  have t1 : (1 : Int32).toInt = 1 := rfl
  have m1 : Int32.ofNat (st0.length + 1) - 1 = Int32.ofNat st0.length := on_p (by omega)
  have kb : (Int32.ofNat st0.length).toNatClampNeg = st0.length := on_k (by omega)
  have px : h_i h 46 st0.length = x := A.2.2.1
  have n0 : ¬ t.1 = 0 := by rw [c]; decide
  have n1 : ¬ t.1 = 1 := by rw [c]; decide
  have l5 : t.1 < 5 := by rw [c]; decide
  have g1 : (1 : Int32) ≤ Int32.ofNat (st0.length + 1) := q_le.mpr (by rw [on_j (by omega), t1]; omega)
  refine t_X10_answer_14_22 d h A.1.1 _ _ _ _ _ ?_
  rw [ew, q.1, q.2, i1, m1, kb, px]
  exact ⟨v1, fun z => absurd z v2, fun _ => ⟨v3, v3, fun e0 => absurd e0 n0, fun _ => ⟨fun _ => ⟨fun _ => ⟨fun _ => ⟨fun n2 => absurd c n2, fun _ => ⟨on_in (by omega) (by decide), on_in (by omega) (by decide), k _ (A.im _ rfl A.2.2.2)⟩⟩, fun z => absurd g1 z⟩, fun g5 => absurd l5 g5⟩, fun e1 => absurd e1 n1⟩⟩⟩
theorem an_one_14 (d : Nat) {h0 : Hp_} {r : Nat} {L : List Int32} (N : Anc_14 h0 r L) (x3 : Int32) (b3 : ∀ c, ltb 2 c = true → 0 ≤ x3 + ixq 2 (xch c) ∧ x3 + ixq 2 (xch c) ≤ ((6 : Int32) - 1)) (b3' : ∀ c, ltb 2 c = true → vp_in (x3 + ixq 2 (xch c)) 6) {K : Int32 → Hp_ → Prop} {t : Tk2} {i : Nat} {st : List Int32} {ts ts' : List Bool} {h : Hp_} (A : Ans_14 h0 h st) (ht : ty1 t ts = some ts') (V : Vty ts st) (o : tkO (ltb 2) t) (e : L[i]? = some (tkx 2 t)) (li : st.length ≤ i)
    (k : ∀ h', Ans_14 h0 h' (skt (av_14 h0 x3) t st) → AW (m_X10_answer (d + 2) 0 0) 0 0 22 [(0, .ref 14), (1, .int (Int32.ofNat r)), (2, .ref 108), (3, .int x3), (4, .int (Int32.ofNat (skt (av_14 h0 x3) t st).length)), (5, .int (Int32.ofNat (i + 1)))] [] h' (kI K)) :
    AW (m_X10_answer (d + 2) 0 0) 0 0 22 [(0, .ref 14), (1, .int (Int32.ofNat r)), (2, .ref 108), (3, .int x3), (4, .int (Int32.ofNat st.length)), (5, .int (Int32.ofNat i))] [] h (kI K) := by
  rcases ty1_c ht with ⟨c, _⟩ | ⟨c, qq, es, _⟩ | ⟨c, qq, es, _⟩ | ⟨c, qq, es, _⟩ | ⟨c, qq, es, _⟩
  · obtain ⟨v1, v2, v3, ew⟩ := an_ix_14 N A e
    have lL : i < L.length := (List.getElem?_eq_some_iff.mp e).1
    have l164 := N.2.1
    have q := tkx_q (s := 2) (by decide) o
    have i1 : Int32.ofNat i + 1 = Int32.ofNat (i + 1) := on_s (by omega)
    have t164 : (164 : Int32).toInt = 164 := rfl
    have lt4 : Int32.ofNat st.length < 164 := q_lt.mpr (by rw [on_j (by omega), t164]; omega)
    have v4 : vp_in (Int32.ofNat st.length) 164 := on_in (by omega) (by decide)
    have k4 : (Int32.ofNat st.length).toNatClampNeg = st.length := on_k (by omega)
    rw [skt_p c] at k
    refine t_X10_answer_14_22 d h A.1.1 _ _ _ _ _ ?_
    rw [ew, q.1, q.2, i1, k4, on_s (show st.length < 1000000 by omega)]
    rcases c with c | c
    · have n1 : ¬ t.1 = 1 := by rw [c]; decide
      rw [if_pos c] at k
      rw [if_neg n1]
      exact ⟨v1, fun z => absurd z v2, fun _ => ⟨v3, v3, fun _ => ⟨fun _ => ⟨fun n => absurd c n, fun _ => ⟨v4, k _ (A.im t.2 rfl A.2.2)⟩⟩, fun z => absurd lt4 z⟩, fun n => absurd c n⟩⟩
    · have n0 : ¬ t.1 = 0 := by rw [c]; decide
      rw [if_neg n0] at k
      rw [if_pos c]
      refine ⟨v1, fun z => absurd z v2, fun _ => ⟨v3, v3, fun e0 => absurd e0 n0, fun _ => ⟨fun n1 => absurd c n1, fun _ => ⟨fun _ => ⟨fun _ => t_X10_valueOf_108 d h A.1.1 _ _ ⟨fun z => absurd (b3 _ (o.1 c)) z, fun _ => ⟨b3' _ (o.1 c), A.1.1, v4, ?_⟩⟩, fun e0 => absurd e0 n0⟩, fun z => absurd lt4 z⟩⟩⟩⟩
      have ev : h_i h 108 (x3 + ixq 2 (xch t.2)).toNatClampNeg = av_14 h0 x3 t.2 := fr_i A.2.1 (by decide +kernel) _
      rw [ev]
      exact k _ (A.im _ rfl A.2.2)
  · subst es
    obtain ⟨x, st0, e1, _, _⟩ := V.u
    subst e1
    rw [skt_n c] at k
    exact an_not_14 d N x3 A c o e li k
  · subst es
    obtain ⟨y, st1, e1, _, V1⟩ := V.u
    obtain ⟨x, st0, e2, _, _⟩ := V1.u
    subst e1 e2
    have nt := n02 (x := t.1) (by rcases c with u | u | u <;> rw [u] <;> decide)
    rw [skt_b nt] at k
    exact an_bin_14 d N x3 A nt (by rcases c with u | u | u <;> rw [u] <;> decide) o e li k
  · subst es
    obtain ⟨y, st1, e1, _, V1⟩ := V.u
    obtain ⟨x, st0, e2, _, _⟩ := V1.u
    subst e1 e2
    have nt := n02 (x := t.1) (by rcases c with u | u | u <;> rw [u] <;> decide)
    rw [skt_b nt] at k
    exact an_bin_14 d N x3 A nt (by rcases c with u | u | u <;> rw [u] <;> decide) o e li k
  · subst es
    obtain ⟨y, st1, e1, _, V1⟩ := V.u
    obtain ⟨x, st0, e2, _, _⟩ := V1.u
    subst e1 e2
    have nt := n02 (x := t.1) (by rcases c with u | u <;> rw [u] <;> decide)
    rw [skt_b nt] at k
    exact an_bin_14 d N x3 A nt (by rcases c with u | u <;> rw [u] <;> decide) o e li k
theorem an_tok_14 (d : Nat) {h0 : Hp_} {r : Nat} {L : List Int32} (N : Anc_14 h0 r L) (x3 : Int32) (b3 : ∀ c, ltb 2 c = true → 0 ≤ x3 + ixq 2 (xch c) ∧ x3 + ixq 2 (xch c) ≤ ((6 : Int32) - 1)) (b3' : ∀ c, ltb 2 c = true → vp_in (x3 + ixq 2 (xch c)) 6) {K : Int32 → Hp_ → Prop} : ∀ (E : List Tk2) {i : Nat} {st : List Int32} {ts ts' : List Bool} {h : Hp_}, Ans_14 h0 h st → tyL E ts = some ts' → Vty ts st → (∀ t ∈ E, tkO (ltb 2) t) → (∀ k w, (E.map (tkx 2))[k]? = some w → L[i + k]? = some w) → st.length ≤ i →
    (∀ h', Ans_14 h0 h' (run2 (av_14 h0 x3) E st) → (run2 (av_14 h0 x3) E st).length ≤ i + E.length → AW (m_X10_answer (d + 2) 0 0) 0 0 22 [(0, .ref 14), (1, .int (Int32.ofNat r)), (2, .ref 108), (3, .int x3), (4, .int (Int32.ofNat (run2 (av_14 h0 x3) E st).length)), (5, .int (Int32.ofNat (i + E.length)))] [] h' (kI K)) →
    AW (m_X10_answer (d + 2) 0 0) 0 0 22 [(0, .ref 14), (1, .int (Int32.ofNat r)), (2, .ref 108), (3, .int x3), (4, .int (Int32.ofNat st.length)), (5, .int (Int32.ofNat i))] [] h (kI K)
  | [], i, st, ts, ts', h, A, _, _, _, _, li, k => k h A li
  | t :: E, i, st, ts, ts', h, A, hE, V, o, c, li, k => by
    have hE : (match ty1 t ts with | some s' => tyL E s' | none => none) = some ts' := hE
    cases e : ty1 t ts with
    | none =>
      rw [e] at hE
      cases hE
    | some q =>
      rw [e] at hE
      have V' := skt_t (v := av_14 h0 x3) e V
      have sl : (skt (av_14 h0 x3) t st).length ≤ i + 1 := by
        have a := V'.l
        have b := V.l
        rcases ty1_c e with ⟨_, u⟩ | ⟨_, w, u, u'⟩ | ⟨_, w, u, u'⟩ | ⟨_, w, u, u'⟩ | ⟨_, w, u, u'⟩
        · rw [u] at a
          have : (false :: ts).length = ts.length + 1 := rfl
          omega
        all_goals
          subst u u'
          simp only [List.length_cons] at a b
          omega
      refine an_one_14 d N x3 b3 b3' A e V (o t (List.mem_cons_self ..)) (c 0 _ rfl) li (fun h' A' => ?_)
      refine an_tok_14 d N x3 b3 b3' E A' hE V' (fun t ht => o t (List.mem_cons_of_mem _ ht)) (fun k w z => ?_) sl (fun h2 A2 l2 => ?_)
      · have y := c (k + 1) w z
        rw [show i + (k + 1) = i + 1 + k by omega] at y
        exact y
      · have y := k h2 A2 (by show _ ≤ i + (E.length + 1); have : (run2 (av_14 h0 x3) E (skt (av_14 h0 x3) t st)).length ≤ i + 1 + E.length := l2; show (run2 (av_14 h0 x3) E (skt (av_14 h0 x3) t st)).length ≤ _; omega)
        rw [show i + (t :: E).length = i + 1 + E.length by show i + (E.length + 1) = _; omega] at y
        exact y
/-- all clauses from one on -/
theorem an_cls_14 (d : Nat) {h0 : Hp_} {r : Nat} {L : List Int32} (N : Anc_14 h0 r L) (x3 : Int32) (b3 : ∀ c, ltb 2 c = true → 0 ≤ x3 + ixq 2 (xch c) ∧ x3 + ixq 2 (xch c) ≤ ((6 : Int32) - 1)) (b3' : ∀ c, ltb 2 c = true → vp_in (x3 + ixq 2 (xch c)) 6) : ∀ (C : List Cl2) {i : Nat} {h : Hp_}, Ans_14 h0 h [] → (∀ c ∈ C, clO 2 c) → (∀ k w, (rlX 2 i C)[k]? = some w → L[i + k]? = some w) → i + rlN C = L.length →
    AW (m_X10_answer (d + 2) 0 0) 0 0 22 [(0, .ref 14), (1, .int (Int32.ofNat r)), (2, .ref 108), (3, .int x3), (4, .int (Int32.ofNat 0)), (5, .int (Int32.ofNat i))] [] h (kI (fun q h' => Iv h' ∧ Fr [46999] h0 h' ∧ q = evC (av_14 h0 x3) C))
  | [], i, h, A, _, _, le => by
    have le : i + 0 = L.length := le
    have l164 := N.2.1
    refine t_X10_answer_14_22 d h A.1.1 _ _ _ _ _ ⟨on_in N.1 (by decide), fun _ => ⟨A.1, A.2.1, rfl⟩, fun z => ?_⟩
    have n1 := N.1
    have z := q_nle z
    rw [on_k (by omega), fr_i A.2.1 (by decide +kernel), N.2.2.1, on_j (by omega), on_j (by omega)] at z
    omega
  | c :: C, i, h, A, o, cd, le => by
    have oc := o c (List.mem_cons_self ..)
    have l164 := N.2.1
    have t1 : (1 : Int32).toInt = 1 := rfl
    have t0 : (0 : Int32).toInt = 0 := rfl
    have le : i + (clN c + rlN C) = L.length := le
    have cd : ∀ k w, (clX 2 i c ++ rlX 2 (i + clN c) C)[k]? = some w → L[i + k]? = some w := cd
    have cc : ∀ k w, (clX 2 i c)[k]? = some w → L[i + k]? = some w := fun k w e => cd k w (by
      rw [List.getElem?_append_left ((List.getElem?_eq_some_iff.mp e).1)]
      exact e)
    have cC : ∀ k w, (rlX 2 (i + clN c) C)[k]? = some w → L[i + clN c + k]? = some w := fun k w e => by
      have z := cd (clN c + k) w (by
        rw [List.getElem?_append_right (by rw [clX_l]; omega), clX_l, show clN c + k - clN c = k by omega]
        exact e)
      rw [show i + (clN c + k) = i + clN c + k by omega] at z
      exact z
    obtain ⟨xa_, ea⟩ := run2_1 (v := av_14 h0 x3) oc.2.1
    have ans : ∀ (j : Nat) (h' : Hp_), Ans_14 h0 h' [] → (∀ k w, (c.2.map (tkx 2) ++ [pk4 4 0])[k]? = some w → L[j + k]? = some w) → AW (m_X10_answer (d + 2) 0 0) 0 0 22 [(0, .ref 14), (1, .int (Int32.ofNat r)), (2, .ref 108), (3, .int x3), (4, .int (Int32.ofNat 0)), (5, .int (Int32.ofNat j))] [] h' (kI (fun q h' => Iv h' ∧ Fr [46999] h0 h' ∧ q = top2 (run2 (av_14 h0 x3) c.2 []))) := fun j h' A' cj => by
      refine an_tok_14 d N x3 b3 b3' c.2 (st := []) A' (oc.2.1 []) trivial oc.2.2.2 (fun k w e => cj k w (by
        rw [List.getElem?_append_left ((List.getElem?_eq_some_iff.mp e).1)]
        exact e)) (Nat.zero_le _) (fun h2 A2 l2 => ?_)
      rw [ea] at A2 l2 ⊢
      have ce : L[j + c.2.length]? = some (pk4 4 0) := by
        have z := cj c.2.length (pk4 4 0) (by
          rw [List.getElem?_append_right (by rw [List.length_map]; exact Nat.le_refl _), List.length_map, Nat.sub_self]
          rfl)
        exact z
      obtain ⟨v1, v2, v3, ew⟩ := an_ix_14 N A2 ce
      rw [show Int32.ofNat [xa_].length = 1 from rfl]
      refine t_X10_answer_14_22 d h2 A2.1.1 _ _ _ _ _ ?_
      rw [ew, show pk4 4 0 &&& 15 = 4 from by decide, show (1 : Int32) - 1 = 0 from rfl]
      have z0 : (0 : Int32).toNatClampNeg = 0 := by simp
      have px : h_i h2 46 0 = xa_ := A2.2.2.1
      rw [z0]
      exact ⟨v1, fun z => absurd z v2, fun _ => ⟨v3, v3, fun e0 => absurd e0 (by decide), fun _ => ⟨fun _ => ⟨fun _ => ⟨fun _ => ⟨fun _ => ⟨fun n4 => absurd rfl n4, fun _ => ⟨(show vp_in (Int32.ofNat 0) 164 from on_in (by decide) (by decide)), A2.1, A2.2.1, px⟩⟩, fun e2 => absurd e2 (by decide)⟩, fun z => absurd (by decide) z⟩, fun g5 => absurd (by decide) g5⟩, fun e1 => absurd e1 (by decide)⟩⟩⟩
    show AW _ 0 0 22 _ [] h (kI (fun q h' => Iv h' ∧ Fr [46999] h0 h' ∧ q = if c.1.length = 0 ∨ ¬ top2 (run2 (av_14 h0 x3) c.1 []) = 0 then top2 (run2 (av_14 h0 x3) c.2 []) else evC (av_14 h0 x3) C))
    by_cases n0 : c.1.length = 0
    · rw [if_pos (Or.inl n0)]
      refine ans i h A (fun k w e => cc k w ?_)
      unfold clX
      rw [if_pos n0]
      exact e
    · have eX : clX 2 i c = c.1.map (tkx 2) ++ anX 2 (i + c.1.length) c.2 := by
        unfold clX
        rw [if_neg n0]
      have nN : clN c = c.1.length + (c.2.length + 2) := by
        unfold clN
        rw [if_neg n0]
      rw [eX] at cc
      have p1 : Put1 true c.1 := oc.1.elim (fun e => absurd e n0) id
      obtain ⟨xc_, ec⟩ := run2_1 (v := av_14 h0 x3) p1
      refine an_tok_14 d N x3 b3 b3' c.1 (st := []) A (p1 []) trivial oc.2.2.1 (fun k w e => cc k w (by
        rw [List.getElem?_append_left ((List.getElem?_eq_some_iff.mp e).1)]
        exact e)) (Nat.zero_le _) (fun h2 A2 l2 => ?_)
      rw [ec] at A2 l2 ⊢
      have cu : ∀ k w, (anX 2 (i + c.1.length) c.2)[k]? = some w → L[i + c.1.length + k]? = some w := fun k w e => by
        have z := cc (c.1.length + k) w (by
          rw [List.getElem?_append_right (by rw [List.length_map]; omega), List.length_map, show c.1.length + k - c.1.length = k by omega]
          exact e)
        rw [show i + (c.1.length + k) = i + c.1.length + k by omega] at z
        exact z
      have ce : L[i + c.1.length]? = some (pk4 3 (Int32.ofNat (i + c.1.length + 1 + c.2.length + 1))) := cu 0 _ rfl
      have tg : 0 ≤ (Int32.ofNat (i + c.1.length + 1 + c.2.length + 1)).toInt ∧ (Int32.ofNat (i + c.1.length + 1 + c.2.length + 1)).toInt ≤ 100000 := by
        rw [on_j (by omega)]
        omega
      have w15 := pk4_15 (o := 3) (by decide) tg
      have wsh := pk4_sh (o := 3) (by decide) tg
      obtain ⟨v1, v2, v3, ew⟩ := an_ix_14 N A2 ce
      rw [show Int32.ofNat [xc_].length = 1 from rfl]
      refine t_X10_answer_14_22 d h2 A2.1.1 _ _ _ _ _ ?_
      rw [ew, w15, wsh, show (1 : Int32) + (-1) = 0 from rfl]
      have z0 : (0 : Int32).toNatClampNeg = 0 := by simp
      have px : h_i h2 46 0 = xc_ := A2.2.2.1
      rw [z0]
      have i1 : Int32.ofNat (i + c.1.length) + 1 = Int32.ofNat (i + c.1.length + 1) := on_s (by omega)
      have A3 : Ans_14 h0 h2 [] := ⟨A2.1, A2.2.1, trivial⟩
      refine ⟨v1, fun z => absurd z v2, fun _ => ⟨v3, v3, fun e0 => absurd e0 (by decide), fun _ => ⟨fun _ => ⟨fun _ => ⟨fun _ => ⟨fun _ => ⟨fun _ => ⟨(show vp_in (Int32.ofNat 0) 164 from on_in (by decide) (by decide)), fun nx => ?_, fun ex => ?_⟩, fun e4 => absurd e4 (by decide)⟩, fun e2 => absurd e2 (by decide)⟩, fun z => absurd (by decide) z⟩, fun g5 => absurd (by decide) g5⟩, fun e1 => absurd e1 (by decide)⟩⟩⟩
      · have nx : ¬ xc_ = 0 := fun y => nx (px.trans y)
        rw [if_pos (show c.1.length = 0 ∨ ¬ top2 [xc_] = 0 from Or.inr nx), i1]
        refine ans (i + c.1.length + 1) h2 A3 (fun k w e => ?_)
        have z := cu (k + 1) w e
        rw [show i + c.1.length + (k + 1) = i + c.1.length + 1 + k by omega] at z
        exact z
      · have ex : xc_ = 0 := px.symm.trans ex
        rw [if_neg (show ¬ (c.1.length = 0 ∨ ¬ top2 [xc_] = 0) from fun y => y.elim n0 (fun z => z ex))]
        have jt : (if Int32.ofNat (i + c.1.length) < Int32.ofNat (i + c.1.length + 1 + c.2.length + 1) - 1 then Int32.ofNat (i + c.1.length + 1 + c.2.length + 1) - 1 else Int32.ofNat (i + c.1.length)) + 1 = Int32.ofNat (i + clN c) := by
          rw [on_p (show i + c.1.length + 1 + c.2.length < 1000000 by omega), if_pos (q_lt.mpr (by rw [on_j (by omega), on_j (by omega)]; omega)), on_s (by omega)]
          congr 1
          omega
        rw [jt]
        exact an_cls_14 d N x3 b3 b3' C A3 (fun c hc => o c (List.mem_cons_of_mem _ hc)) cC (by omega)
/-- what a text of the class tells -/
theorem c_an_14 (d : Nat) {h : Hp_} (I : Iv h) {r : Nat} (hr : (r : Int) < (h_i h 14 5).toInt) {C : List Cl2} (o : ∀ c ∈ C, clO 2 c) (len : h_i h 44 r = Int32.ofNat (rlN C)) (l164 : rlN C ≤ 164) (cd : ∀ i v, (rlX 2 0 C)[i]? = some v → h_i h 45 (164 * r + i) = v) (x3 : Int32) (b3 : ∀ c, ltb 2 c = true → 0 ≤ x3 + ixq 2 (xch c) ∧ x3 + ixq 2 (xch c) ≤ ((6 : Int32) - 1)) (b3' : ∀ c, ltb 2 c = true → vp_in (x3 + ixq 2 (xch c)) 6) : Ci (m_X10_answer (d + 2) 0 0) [.ref 14, .int (Int32.ofNat r), .ref 108, .int x3] h (fun q h' => Iv h' ∧ Fr [46999] h h' ∧ q = evC (av_14 h x3) C) := by
  have rg := I.2.1 14 5
  rw [show tf 14 5 = (0, 20) by decide +kernel] at rg
  have r20 : (h_i h 14 5).toInt ≤ 20 := rg.2
  have t1 : (1 : Int32).toInt = 1 := rfl
  have t0 : (0 : Int32).toInt = 0 := rfl
  have m1 : (h_i h 14 5 - 1).toInt = (h_i h 14 5).toInt - 1 := by rw [tx_sub (by rw [t1]; omega) (by rw [t1]; omega), t1]
  refine t_X10_answer_14 d h I.1 _ x3 _ ⟨fun _ => ?_, fun z => absurd ⟨q_le.mpr (by rw [t0, on_j (by omega)]; omega), q_le.mpr (by rw [m1, on_j (by omega)]; omega)⟩ z⟩
  exact an_cls_14 d (L := rlX 2 0 C) ⟨by omega, by rw [rlX_l]; exact l164, by rw [rlX_l]; exact len, cd⟩ x3 b3 b3' C (i := 0) ⟨I, Fr.rf _ _, trivial⟩ o (fun k w e => by rw [Nat.zero_add]; exact e) (by rw [rlX_l, Nat.zero_add])
/-- no text: nothing is told -/
theorem c_an0_14 (d : Nat) {h : Hp_} (I : Iv h) (x3 : Int32) : Ci (m_X10_answer (d + 2) 0 0) [.ref 14, .int (-1), .ref 108, .int x3] h (fun q h' => h' = h ∧ q = 0) := t_X10_answer_14 d h I.1 _ x3 _ ⟨fun z => absurd z.1 (by decide), fun _ => ⟨rfl, rfl⟩⟩
end
section
/-! act and pay, with the codes that are kept: the reference -/
def Txn (s m : Nat) (x2 : Int32) (h6 : Hp_) (r : Int32) (h' : Hp_) : Prop := r = Int32.ofNat m ∧ h_i h' 1 32 = 0 ∧ (∀ k, h_i h' 235 k = if k = s then Int32.ofNat m + 1 else h_i h6 235 k) ∧ (∀ k, h_i h' 233 k = if k = 20 * s + m then x2 else h_i h6 233 k) ∧ (∀ k, h_i h' 234 k = if k = 20 * s + m then h_i h6 1 0 else h_i h6 234 k) ∧ (∀ j, j < sN h6 → h_i h' 231 (560 * (20 * s + m) + j) = h_i h6 226 j) ∧ (∀ j, (j < 560 * (20 * s + m) ∨ 560 * (20 * s + m) + 560 ≤ j) → h_i h' 231 j = h_i h6 231 j) ∧ (∀ k, h_i h' 232 k = if k = 20 * s + m then h_i h6 1 36 else h_i h6 232 k)
theorem tx_loopg (d s m : Nat) (hs : s < 2) (lm : m < 20) {h h6 : Hp_} (x2 x3 : Int32) (I6 : Iv h6) (hm : h_i h6 235 s = Int32.ofNat m) (e3 : x3.toInt = ((20 * s + m : Nat) : Int)) (pc : ∃ f, pcl (s + 1) (h_i h6 226) f 0 (sN h6)) :
    ∀ (n k : Nat) (h2 : Hp_), k + n = sN h6 → (∀ a j, a ≠ 231 → h_i h2 a j = h_i h6 a j) → h_sh h2 = h_sh h6 → h_r h2 = h_r h6 → Fr wzt h h2 → (∀ j, j < k → h_i h2 231 (560 * (20 * s + m) + j) = h_i h6 226 j) → (∀ j, (j < 560 * (20 * s + m) ∨ 560 * (20 * s + m) + 560 ≤ j) → h_i h2 231 j = h_i h6 231 j) →
    AW (m_X12_text (d + 60) 0 0) 0 0 49 [(0, .ref 1), (1, .int (Int32.ofNat s)), (2, .int x2), (3, .int x3), (4, .int (Int32.ofNat k))] [] h2 (kI (fun r h' => (Iv h' ∧ Fr wzt h h') ∧ Txn s m x2 h6 r h')) := by
  have n6 := sN_i I6
  have p6 : ps h6 ≤ 559 := (ps_in I6).2
  have n3 := n_nat (x := x3) (by omega)
  have k3 : x3.toNatClampNeg = 20 * s + m := by omega
  have v3 : vp_in x3 40 := dp_in (lo := 0) (hi := 39) ⟨by show (0 : Int) ≤ _; omega, by show _ ≤ (39 : Int); omega⟩ (by decide) (by decide)
  have v1 : vp_in (Int32.ofNat s) 2 := on_in hs (by decide)
  have k1 : (Int32.ofNat s).toNatClampNeg = s := on_k (by omega)
  have t560 : (560 : Int32).toInt = 560 := rfl
  intro n
  induction n with
  | zero =>
    intro k h2 e he hsh hr F c1 c2
    have ek : (Int32.ofNat k).toInt = (k : Int) := on_j (by omega)
    have es : h_i h2 1 36 = h_i h6 1 36 := he 1 36 (by decide)
    have w2 : Wf h2 := ⟨fun q hq => by rw [hsh]; exact I6.1.1 q hq, fun q hq => by rw [hr]; exact I6.1.2 q hq⟩
    refine t_X12_text_49 d h2 w2 _ x2 x3 _ _ ⟨fun _ => ⟨v3, v3, v3, v1, v1, v1, ?_⟩, fun z => ?_⟩
    · rw [k3, k1, es, he 235 s (by decide), hm]
      have kk : k = sN h6 := by omega
      have I3 : Iv (h_im h2 232 (20 * s + m) (h_i h6 1 36)) := by
        refine Iv_codes I6 he hsh hr (by omega) ⟨by show (0 : Int) ≤ ps h6; omega, by show ps h6 ≤ (560 : Int); omega⟩ c2 ?_
        obtain ⟨f, p⟩ := pc
        have p2 := pcl_sh (t := 560 * (20 * s + m)) (cd' := h_i h2 231) (fun x _ b => by rw [Nat.add_comm]; exact c1 x (by omega)) p
        rw [Nat.zero_add, Nat.add_comm (sN h6)] at p2
        rw [show (20 * s + m) / 20 + 1 = s + 1 by omega]
        exact ⟨f, p2⟩
      have e20 : (Int32.ofNat m + 1).toInt = ((m + 1 : Nat) : Int) := by rw [on_s (by omega)]; exact on_j (by omega)
      refine ⟨⟨i32 (i235 (i2xx 234 (by decide +kernel) (by decide) (by decide) (i2xx 233 (by decide +kernel) (by decide) (by decide) I3 _ _) _ _) _ ⟨by rw [e20]; show (0 : Int) ≤ _; omega, by rw [e20]; show _ ≤ (20 : Int); omega⟩) ⟨by decide, by decide⟩, ((((F.im (inw_row (by decide +kernel) _)).im (inw_row (by decide +kernel) _)).im (inw_row (by decide +kernel) _)).im (inw_row (by decide +kernel) _)).im (by decide +kernel)⟩, ?_, ?_, fun q => ?_, fun q => ?_, fun q => ?_, fun j hj => ?_, fun j hj => ?_, fun q => ?_⟩
      · rw [on_s (by omega)]
        refine Int32.toInt_inj.mp ?_
        have o1 : (1 : Int32).toInt = 1 := rfl
        rw [tx_sub (by rw [o1, on_j (by omega)]; omega) (by rw [o1, on_j (by omega)]; omega), o1, on_j (by omega), on_j (by omega)]
        omega
      · rw [im_at]
      · rw [im_ne (by decide), h_i_im]
        by_cases y : q = s
        · rw [if_pos ⟨rfl, y⟩, if_pos y]
        · rw [if_neg (fun u => y u.2), if_neg y, im_ne (by decide), im_ne (by decide), im_ne (by decide)]
          exact he 235 q (by decide)
      · rw [im_ne (by decide), im_ne (by decide), im_ne (by decide), h_i_im]
        by_cases y : q = 20 * s + m
        · rw [if_pos ⟨rfl, y⟩, if_pos y]
        · rw [if_neg (fun u => y u.2), if_neg y, im_ne (by decide)]
          exact he 233 q (by decide)
      · rw [im_ne (by decide), im_ne (by decide), h_i_im]
        by_cases y : q = 20 * s + m
        · rw [if_pos ⟨rfl, y⟩, if_pos y]
          exact he 1 0 (by decide)
        · rw [if_neg (fun u => y u.2), if_neg y, im_ne (by decide), im_ne (by decide)]
          exact he 234 q (by decide)
      · rw [im_ne (by decide), im_ne (by decide), im_ne (by decide), im_ne (by decide), im_ne (by decide)]
        exact c1 j (by omega)
      · rw [im_ne (by decide), im_ne (by decide), im_ne (by decide), im_ne (by decide), im_ne (by decide)]
        exact c2 j hj
      · rw [im_ne (by decide), im_ne (by decide), im_ne (by decide), im_ne (by decide), h_i_im]
        by_cases y : q = 20 * s + m
        · rw [if_pos ⟨rfl, y⟩, if_pos y]
        · rw [if_neg (fun u => y u.2), if_neg y]
          exact he 232 q (by decide)
    · rw [es] at z
      have z := q_nle z
      have z' : (Int32.ofNat k).toInt < ps h6 := z
      omega
  | succ n ih =>
    intro k h2 e he hsh hr F c1 c2
    have ek : (Int32.ofNat k).toInt = (k : Int) := on_j (by omega)
    have nk : (Int32.ofNat k).toNatClampNeg = k := on_k (by omega)
    have es : h_i h2 1 36 = h_i h6 1 36 := he 1 36 (by decide)
    have w2 : Wf h2 := ⟨fun q hq => by rw [hsh]; exact I6.1.1 q hq, fun q hq => by rw [hr]; exact I6.1.2 q hq⟩
    have m1 : (560 * x3).toInt = 560 * x3.toInt := by rw [tx_mul (by rw [t560]; omega) (by rw [t560]; omega), t560]
    have m2 : (560 * x3 + Int32.ofNat k).toInt = 560 * ((20 * s + m : Nat) : Int) + k := by rw [tx_add (by omega) (by omega), m1, ek, e3]
    have nm := n_nat (x := 560 * x3 + Int32.ofNat k) (by omega)
    have km : (560 * x3 + Int32.ofNat k).toNatClampNeg = 560 * (20 * s + m) + k := by omega
    refine t_X12_text_49 d h2 w2 _ x2 x3 _ _ ⟨fun z => ?_, fun _ => ⟨on_in (by omega) (by decide), dp_in (lo := 0) (hi := 22399) ⟨by show (0 : Int) ≤ _; omega, by show _ ≤ (22399 : Int); omega⟩ (by decide) (by decide), ?_⟩⟩
    · rw [es] at z
      have z := q_le.mp z
      have z' : ps h6 ≤ (Int32.ofNat k).toInt := z
      omega
    · rw [km, nk, on_s (by omega)]
      refine ih (k + 1) _ (by omega) (fun a j na => ?_) hsh hr (F.im (inw_row (by decide +kernel) _)) (fun j hj => ?_) (fun j hj => ?_)
      · rw [im_ne na]; exact he a j na
      · rw [h_i_im]
        by_cases y : j = k
        · rw [if_pos ⟨rfl, by omega⟩, y]; exact he 226 k (by decide)
        · rw [if_neg (fun u => by have := u.2; omega)]; exact c1 j (by omega)
      · rw [h_i_im, if_neg (fun u => by have := u.2; omega)]; exact c2 j hj
/-- the codes of the reference's texts behind an act or pay -/
def RcM (b : Nat → Int32) (n s : Nat) (x2 : Int32) (h h' : Hp_) : Prop := (¬ okR b n s x2 (h_i h 235 s) → (∀ k, h_i h' 231 k = h_i h 231 k) ∧ (∀ k, h_i h' 232 k = h_i h 232 k)) ∧ (okR b n s x2 (h_i h 235 s) → (k2ru b n (s + 1) 0).1 = true ∧ At_ (h_i h' 231) (560 * (20 * s + (h_i h 235 s).toNatClampNeg)) (rlM (k2ru b n (s + 1) 0).2.2) ∧ h_i h' 232 (20 * s + (h_i h 235 s).toNatClampNeg) = Int32.ofNat (rlM (k2ru b n (s + 1) 0).2.2).length ∧ (rlM (k2ru b n (s + 1) 0).2.2).length ≤ 560 ∧ (∀ k, k ≠ 20 * s + (h_i h 235 s).toNatClampNeg → h_i h' 232 k = h_i h 232 k) ∧ (∀ j, (j < 560 * (20 * s + (h_i h 235 s).toNatClampNeg) ∨ 560 * (20 * s + (h_i h 235 s).toNatClampNeg) + 560 ≤ j) → h_i h' 231 j = h_i h 231 j))
theorem c_textg (d s : Nat) (hs : s < 2) {b : Nat → Int32} {n : Nat} (bb : ∀ k, k < n → ¬ b k = -1) {h : Hp_} (I : Iv h) (t : Tp b n h) (x2 : Int32) : Ci (m_X12_text (d + 80 + 60) 0 0) [.ref 1, .int (Int32.ofNat s), .int x2] h (fun r h' => ((Iv h' ∧ Fr wzt h h') ∧ Rlm b n s x2 h r h') ∧ RcM b n s x2 h h') := by
  have v1 : vp_in (Int32.ofNat s) 2 := on_in hs (by decide)
  have k1 : (Int32.ofNat s).toNatClampNeg = s := on_k (by omega)
  refine t_X12_text (d + 80) h I.1 _ x2 _ ⟨fun nb => ⟨⟨⟨I, Fr.rf _ _⟩, fun _ => ⟨rfl, rfl, fun _ => rfl, fun _ => rfl, fun _ => rfl⟩, fun o => absurd o.1 nb⟩, fun _ => ⟨fun _ => rfl, fun _ => rfl⟩, fun o => absurd o.1 nb⟩, fun bd => ⟨v1, fun e20 => ⟨⟨⟨I, Fr.rf _ _⟩, fun _ => ⟨rfl, rfl, fun _ => rfl, fun _ => rfl, fun _ => rfl⟩, fun o => absurd (k1 ▸ e20) o.2.1⟩, fun _ => ⟨fun _ => rfl, fun _ => rfl⟩, fun o => absurd (k1 ▸ e20) o.2.1⟩, fun ne => ?_⟩⟩
  rw [on_s (n := s) (by omega)]
  refine Ci.mono (c_faultg d bb I t (s + 1) (by omega)) (fun r h6 k => ?_)
  obtain ⟨⟨I6, F6, g⟩, ev, cr⟩ := k
  have e32 : h_i h6 1 32 = h_i h 1 32 := (F6.2 1 32 (by decide +kernel)).1
  have e10 : h_i h6 1 0 = h_i h 1 0 := (F6.2 1 0 (by decide +kernel)).1
  have r5 : ∀ k, h_i h6 235 k = h_i h 235 k := fun k => fr_i F6 (by decide +kernel) k
  have r3 : ∀ k, h_i h6 233 k = h_i h 233 k := fun k => fr_i F6 (by decide +kernel) k
  have r4 : ∀ k, h_i h6 234 k = h_i h 234 k := fun k => fr_i F6 (by decide +kernel) k
  have r1 : ∀ k, h_i h6 231 k = h_i h 231 k := fun k => fr_i F6 (by decide +kernel) k
  have r2 : ∀ k, h_i h6 232 k = h_i h 232 k := fun k => fr_i F6 (by decide +kernel) k
  refine ⟨I6.1, fun er => ⟨v1, ?_⟩, fun nr => ⟨⟨⟨I6, F6.more (by decide +kernel)⟩, fun _ => ⟨rfl, e32, r5, r3, r4⟩, fun o => absurd (ev.trans o.2.2) nr⟩, fun _ => ⟨r1, r2⟩, fun o => absurd (ev.trans o.2.2) nr⟩⟩
  rw [k1] at ne ⊢
  have e235 : h_i h6 235 s = h_i h 235 s := r5 s
  have br := dp_rg I6 235 s (show tfa 235 = some (0, 20) by decide +kernel)
  have b0 : 0 ≤ (h_i h6 235 s).toInt := br.1
  have b1 : (h_i h6 235 s).toInt ≤ 20 := br.2
  have nb := n_nat b0
  have t20 : (20 : Int32).toInt = 20 := rfl
  have lt : (h_i h6 235 s).toInt < 20 := by
    rcases Int.lt_or_le (h_i h6 235 s).toInt 20 with u | u
    · exact u
    · exact absurd (Int32.toInt_inj.mp (by rw [← e235, t20]; omega)) ne
  have hm : h_i h6 235 s = Int32.ofNat (h_i h6 235 s).toNatClampNeg := Int32.toInt_inj.mp (by rw [on_j (by omega)]; exact nb.symm)
  have es : (Int32.ofNat s).toInt = (s : Int) := on_j (by omega)
  have m1 : (20 * Int32.ofNat s).toInt = 20 * (s : Int) := by rw [tx_mul (by rw [t20, es]; omega) (by rw [t20, es]; omega), t20, es]
  have e3 : (20 * Int32.ofNat s + h_i h6 235 s).toInt = ((20 * s + (h_i h6 235 s).toNatClampNeg : Nat) : Int) := by rw [tx_add (by omega) (by omega), m1]; omega
  have pc : ∃ f, pcl (s + 1) (h_i h6 226) f 0 (sN h6) := (g er).2 (s + 1) (by omega) rfl
  refine AW.mono (tx_loopg (d + 80) s _ hs (by omega) x2 _ I6 hm e3 pc (sN h6) 0 h6 (by omega) (fun _ _ _ => rfl) rfl rfl (F6.more (by decide +kernel)) (fun j hj => absurd hj (by omega)) (fun _ _ => rfl)) (fun v h' q => ?_)
  obtain ⟨r', er', q1, q2, q3, q4, q5, q6, q7, q8, q9⟩ := q
  have C := cr er
  have p6 : ps h6 ≤ 559 := (ps_in I6).2
  have n6 := sN_i I6
  refine ⟨r', er', ⟨q1, fun no => absurd ⟨bd, ne, ev.symm.trans er⟩ no, fun _ => ⟨?_, q3, fun k => ?_, fun k => ?_, fun k => ?_⟩⟩, fun no => absurd ⟨bd, ne, ev.symm.trans er⟩ no, fun _ => ⟨C.1, fun i v e => ?_, ?_, ?_, fun k hk => ?_, fun j hj => ?_⟩⟩
  · rw [q2, ← hm, e235]
  · rw [q4 k, ← hm, e235, r5]
  · rw [q5 k, e235, r3]
  · rw [q6 k, e235, r4, e10]
  · have li : i < sN h6 := by
      rw [C.2.1]
      exact (List.getElem?_eq_some_iff.mp e).1
    rw [← e235, q7 i li]
    exact C.2.2 i v e
  · rw [← e235, q9, if_pos rfl, ← C.2.1]
    exact (of_nat32 (by show 0 ≤ ps h6; omega)).symm
  · rw [← C.2.1]
    omega
  · rw [← e235] at hk
    rw [q9 k, if_neg hk, r2]
  · rw [← e235] at hj
    rw [q8 j hj, r1]
theorem c_actg (d : Nat) {b : Nat → Int32} {n : Nat} (bb : ∀ k, k < n → ¬ b k = -1) {h : Hp_} (I : Iv h) (t : Tp b n h) (x1 : Int32) : Ci (m_X12_act (d + 80 + 61) 0 0) [.ref 1, .int x1] h (fun r h' => ((Iv h' ∧ Fr wzt h h') ∧ Rlm b n 0 x1 h r h') ∧ RcM b n 0 x1 h h') := t_X12_act (d + 80) h I.1 x1 _ (Ci.mono (c_textg d 0 (by decide) bb I t x1) (fun _ h' k => ⟨k.1.1.1.1, k⟩))
theorem c_payg (d : Nat) {b : Nat → Int32} {n : Nat} (bb : ∀ k, k < n → ¬ b k = -1) {h : Hp_} (I : Iv h) (t : Tp b n h) (x1 : Int32) : Ci (m_X12_pay (d + 80 + 61) 0 0) [.ref 1, .int x1] h (fun r h' => ((Iv h' ∧ Fr wzt h h') ∧ Rlm b n 1 x1 h r h') ∧ RcM b n 1 x1 h h') := t_X12_pay (d + 80) h I.1 x1 _ (Ci.mono (c_textg d 1 (by decide) bb I t x1) (fun _ h' k => ⟨k.1.1.1.1, k⟩))
/-! the class -/
theorem c_kpg_13 (d : Nat) {h : Hp_} (I : Iv h) (x1 x2 : Int32) : Ci (m_X10_keep (d + 1) 0 0) [.ref 13, .int x1, .int x2, .ref 11] h (fun r h' => Iv h' ∧ Fr wkr_13 h h' ∧ (h_i h 13 5 = 20 → r = -1 ∧ h' = h) ∧ (¬ h_i h 13 5 = 20 → ¬ r = -1 ∧ r = h_i h 13 5 ∧ h_i h' 13 5 = h_i h 13 5 + 1 ∧ (∀ k, h_i h' 37 k = if k = (h_i h 13 5).toNatClampNeg then x1 else h_i h 37 k) ∧ (∀ k, h_i h' 38 k = if k = (h_i h 13 5).toNatClampNeg then x2 else h_i h 38 k) ∧ (∀ k, h_i h' 39 k = if k = (h_i h 13 5).toNatClampNeg then h_i h 11 9 else h_i h 39 k) ∧ (∀ j, j < xc h → h_i h' 40 (164 * (h_i h 13 5).toNatClampNeg + j) = h_i h 33 j) ∧ (∀ j, j < 164 * (h_i h 13 5).toNatClampNeg → h_i h' 40 j = h_i h 40 j))) := by
  have t20 : (20 : Int32).toInt = 20 := rfl
  have t1 : (1 : Int32).toInt = 1 := rfl
  have t0 : (0 : Int32).toInt = 0 := rfl
  have t164 : (164 : Int32).toInt = 164 := rfl
  have rg := I.2.1 13 5
  rw [show tf 13 5 = (0, 20) by decide +kernel] at rg
  have b0 : 0 ≤ (h_i h 13 5).toInt := rg.1
  have b1 : (h_i h 13 5).toInt ≤ 20 := rg.2
  have r9 := I.2.1 11 9
  rw [show tf 11 9 = (0, 164) by decide +kernel] at r9
  have c0 : 0 ≤ (h_i h 11 9).toInt := r9.1
  have c1 : (h_i h 11 9).toInt ≤ 164 := r9.2
  refine t_X10_keep_13 d h I.1 x1 x2 _ ⟨fun z => ?_, fun z => ⟨I, Fr.rf _ _, fun _ => ⟨rfl, rfl⟩, fun n => ?_⟩⟩
  · have z := q_lt.mp z
    have n20 : ¬ h_i h 13 5 = 20 := fun e => by rw [e] at z; exact absurd z (by decide)
    have v : vp_in (h_i h 13 5) 20 := dp_in (lo := 0) (hi := 19) ⟨b0, by show _ ≤ (19 : Int); omega⟩ (by decide) (by decide)
    have m1 : (h_i h 13 5 * 164).toInt = (h_i h 13 5).toInt * 164 := by rw [tx_mul (by rw [t164]; omega) (by rw [t164]; omega), t164]
    have nn : ∀ x : Int32, 0 ≤ x.toInt → ¬ x < 0 := fun x hx y => by
      have y := q_lt.mp y
      omega
    have n5 := n_nat (x := h_i h 13 5 * 164) (by omega)
    have n9 := n_nat (x := h_i h 11 9) c0
    refine ⟨v, v, v, ⟨by decide, nn _ (by omega), nn _ c0, ?_, by omega⟩, ?_⟩
    · show 0 + (h_i h 11 9).toNatClampNeg ≤ 164
      omega
    · have I3 : Iv (h_im (h_im (h_im h 37 ((h_i h 13 5) : Int32).toNatClampNeg x1) 38 ((h_i h 13 5) : Int32).toNatClampNeg x2) 39 ((h_i h 13 5) : Int32).toNatClampNeg (h_i h 11 9)) := (i2xx 38 (by decide +kernel) (by decide) (by decide) (i2xx 37 (by decide +kernel) (by decide) (by decide) I _ _) _ _).im (a := 39) (by rw [tfa_tf (show tfa 39 = some (0, 164) by decide +kernel)]; exact ⟨c0, c1⟩) (jw_jr (by decide) (by decide) _)
      have F3 : Fr wkr_13 h (h_im (h_im (h_im h 37 ((h_i h 13 5) : Int32).toNatClampNeg x1) 38 ((h_i h 13 5) : Int32).toNatClampNeg x2) 39 ((h_i h 13 5) : Int32).toNatClampNeg (h_i h 11 9)) := (((Fr.rf _ _).im (inw_row (by decide +kernel) _)).im (inw_row (by decide +kernel) _)).im (inw_row (by decide +kernel) _)
      have w37 : ∀ k, h_i (h_im (h_im (h_im h 37 ((h_i h 13 5) : Int32).toNatClampNeg x1) 38 ((h_i h 13 5) : Int32).toNatClampNeg x2) 39 ((h_i h 13 5) : Int32).toNatClampNeg (h_i h 11 9)) 37 k = if k = (h_i h 13 5).toNatClampNeg then x1 else h_i h 37 k := fun k => by
        rw [im_ne (by decide), im_ne (by decide), h_i_im]
        by_cases y : k = (h_i h 13 5).toNatClampNeg
        · rw [if_pos ⟨rfl, y⟩, if_pos y]
        · rw [if_neg (fun u => y u.2), if_neg y]
      have w38 : ∀ k, h_i (h_im (h_im (h_im h 37 ((h_i h 13 5) : Int32).toNatClampNeg x1) 38 ((h_i h 13 5) : Int32).toNatClampNeg x2) 39 ((h_i h 13 5) : Int32).toNatClampNeg (h_i h 11 9)) 38 k = if k = (h_i h 13 5).toNatClampNeg then x2 else h_i h 38 k := fun k => by
        rw [im_ne (by decide), h_i_im]
        by_cases y : k = (h_i h 13 5).toNatClampNeg
        · rw [if_pos ⟨rfl, y⟩, if_pos y]
        · rw [if_neg (fun u => y u.2), if_neg y, im_ne (by decide)]
      have w39 : ∀ k, h_i (h_im (h_im (h_im h 37 ((h_i h 13 5) : Int32).toNatClampNeg x1) 38 ((h_i h 13 5) : Int32).toNatClampNeg x2) 39 ((h_i h 13 5) : Int32).toNatClampNeg (h_i h 11 9)) 39 k = if k = (h_i h 13 5).toNatClampNeg then h_i h 11 9 else h_i h 39 k := fun k => by
        rw [h_i_im]
        by_cases y : k = (h_i h 13 5).toNatClampNeg
        · rw [if_pos ⟨rfl, y⟩, if_pos y]
        · rw [if_neg (fun u => y u.2), if_neg y, im_ne (by decide), im_ne (by decide)]
      have w33 : ∀ k, h_i (h_im (h_im (h_im h 37 ((h_i h 13 5) : Int32).toNatClampNeg x1) 38 ((h_i h 13 5) : Int32).toNatClampNeg x2) 39 ((h_i h 13 5) : Int32).toNatClampNeg (h_i h 11 9)) 33 k = h_i h 33 k := fun k => by rw [im_ne (by decide), im_ne (by decide), im_ne (by decide)]
      have w40 : ∀ k, h_i (h_im (h_im (h_im h 37 ((h_i h 13 5) : Int32).toNatClampNeg x1) 38 ((h_i h 13 5) : Int32).toNatClampNeg x2) 39 ((h_i h 13 5) : Int32).toNatClampNeg (h_i h 11 9)) 40 k = h_i h 40 k := fun k => by rw [im_ne (by decide), im_ne (by decide), im_ne (by decide)]
      have w5 : h_i (h_im (h_im (h_im h 37 ((h_i h 13 5) : Int32).toNatClampNeg x1) 38 ((h_i h 13 5) : Int32).toNatClampNeg x2) 39 ((h_i h 13 5) : Int32).toNatClampNeg (h_i h 11 9)) 13 5 = h_i h 13 5 := by rw [im_ne (by decide), im_ne (by decide), im_ne (by decide)]
      generalize h_im (h_im (h_im h 37 ((h_i h 13 5) : Int32).toNatClampNeg x1) 38 ((h_i h 13 5) : Int32).toNatClampNeg x2) 39 ((h_i h 13 5) : Int32).toNatClampNeg (h_i h 11 9) = h3 at I3 F3 w37 w38 w39 w33 w40 w5 ⊢
      have cpA : ∀ j, j < xc h → va_cpy (h_i h3 33) (h_i h3 40) (0 : Int32).toNatClampNeg ((h_i h 13 5) * 164).toNatClampNeg (h_i h 11 9).toNatClampNeg (164 * (h_i h 13 5).toNatClampNeg + j) = h_i h 33 j := fun j hj => by
        have n5' : ((h_i h 13 5) * 164).toNatClampNeg = 164 * (h_i h 13 5).toNatClampNeg := by
          have k0 := n_nat b0
          omega
        rw [n5']
        unfold va_cpy
        rw [if_pos ⟨by omega, by show _ < _ + xc h; omega⟩, ← w33]
        congr 1
        show 0 + (164 * (h_i h 13 5).toNatClampNeg + j - 164 * (h_i h 13 5).toNatClampNeg) = j
        omega
      have cpB : ∀ j, j < 164 * (h_i h 13 5).toNatClampNeg → va_cpy (h_i h3 33) (h_i h3 40) (0 : Int32).toNatClampNeg ((h_i h 13 5) * 164).toNatClampNeg (h_i h 11 9).toNatClampNeg j = h_i h 40 j := fun j hj => by
        have n5' : ((h_i h 13 5) * 164).toNatClampNeg = 164 * (h_i h 13 5).toNatClampNeg := by
          have k0 := n_nat b0
          omega
        rw [n5']
        unfold va_cpy
        rw [if_neg (fun y => by have := y.1; omega)]
        exact w40 j
      generalize va_cpy (h_i h3 33) (h_i h3 40) (0 : Int32).toNatClampNeg ((h_i h 13 5) * 164).toNatClampNeg (h_i h 11 9).toNatClampNeg = fc at cpA cpB ⊢
      have I4 : Iv (h_iw h3 40 fc) := I3.iw (fun k => by rw [tfa_tf (show tfa 40 = some rtop by decide +kernel)]; exact rtop_in _) (by decide) (by decide)
      have F4 : Fr wkr_13 h (h_iw h3 40 fc) := F3.iw (by decide +kernel)
      have ne : ∀ a, a ≠ 40 → ∀ k, h_i (h_iw h3 40 fc) a k = h_i h3 a k := fun a na k => by rw [h_i_iw, if_neg na]
      have ex : (h_i h 13 5 + 1).toInt = (h_i h 13 5).toInt + 1 := tx_add (by rw [t1]; omega) (by rw [t1]; omega)
      refine t_X10_keep_13_68 d _ I4.1 _ ⟨?_, F4.im (by decide +kernel), fun y => absurd y n20, fun _ => ⟨?_, ?_, ?_, fun k => ?_, fun k => ?_, fun k => ?_, fun j hj => ?_, fun j hj => ?_⟩⟩
      · exact I4.im (a := 13) (k := 5) (by rw [show tf 13 5 = (0, 20) by decide +kernel, ne 13 (by decide), w5, ex]; exact ⟨by show (0 : Int) ≤ _; omega, by show _ ≤ (20 : Int); omega⟩) (by decide)
      · rw [ne 13 (by decide), w5]
        intro y
        have y := congrArg Int32.toInt y
        rw [tx_sub (by rw [t1]; omega) (by rw [t1]; omega), ex, t1, show (-1 : Int32).toInt = -1 from rfl] at y
        omega
      · rw [ne 13 (by decide), w5]
        refine Int32.toInt_inj.mp ?_
        rw [tx_sub (by rw [t1]; omega) (by rw [t1]; omega), ex, t1]
        omega
      · rw [im_at, ne 13 (by decide), w5]
      · rw [im_ne (by decide), ne 37 (by decide)]
        exact w37 k
      · rw [im_ne (by decide), ne 38 (by decide)]
        exact w38 k
      · rw [im_ne (by decide), ne 39 (by decide)]
        exact w39 k
      · rw [im_ne (by decide), h_i_iw, if_pos rfl]
        exact cpA j hj
      · rw [im_ne (by decide), h_i_iw, if_pos rfl]
        exact cpB j hj
  · have n20 : ¬ (h_i h 13 5).toInt < 20 := fun y => z (q_lt.mpr (by rw [t20]; exact y))
    exact absurd (Int32.toInt_inj.mp (by rw [t20]; omega)) n
/-- the codes of the class's texts behind it -/
def RcX_13 (x1 : Int32) (h h' : Hp_) : Prop := (¬ okR (h_i h 31) (xn h) 0 x1 (h_i h 13 5) → (∀ k, h_i h' 39 k = h_i h 39 k) ∧ (∀ k, h_i h' 40 k = h_i h 40 k)) ∧ (okR (h_i h 31) (xn h) 0 x1 (h_i h 13 5) → (k2ru (h_i h 31) (xn h) (0 + 1) 0).1 = true ∧ rlN (k2ru (h_i h 31) (xn h) (0 + 1) 0).2.2 ≤ 164 ∧ h_i h' 39 (h_i h 13 5).toNatClampNeg = Int32.ofNat (rlN (k2ru (h_i h 31) (xn h) (0 + 1) 0).2.2) ∧ (∀ i v, (rlX (0 + 1) 0 (k2ru (h_i h 31) (xn h) (0 + 1) 0).2.2)[i]? = some v → h_i h' 40 (164 * (h_i h 13 5).toNatClampNeg + i) = v) ∧ (∀ k, k ≠ (h_i h 13 5).toNatClampNeg → h_i h' 39 k = h_i h 39 k) ∧ (∀ j, j < 164 * (h_i h 13 5).toNatClampNeg → h_i h' 40 j = h_i h 40 j))
theorem c_acty (d : Nat) {h : Hp_} (I : Iv h) (x1 : Int32) : Ci (m_X11_act (d + 141) 0 0) [.ref 0, .int x1] h (fun r h' => Iv h' ∧ Fr wrx_13 h h' ∧ Rlx_13 x1 h r h' ∧ RcX_13 x1 h h') := by
  have k := c_rre (b := h_i h 31) (n := xn h) (0 + 1) (by decide) d I rfl rfl 1 (by decide)
  rw [show d + 80 + 60 = d + 140 by omega] at k
  refine t_X11_act d h I.1 x1 _ ⟨fun nb => ⟨I, Fr.rf _ _, ⟨fun _ => ⟨rfl, rfl, rfl, fun _ => rfl, fun _ => rfl⟩, fun o => absurd o.1 nb⟩, fun _ => ⟨fun _ => rfl, fun _ => rfl⟩, fun o => absurd o.1 nb⟩, fun bd => Ci.mono k (fun r6 h4 X => ?_)⟩
  obtain ⟨e3, I4, F4, ee, cr⟩ := X
  have W4 : Fr wrx_13 h h4 := F4.more (by decide +kernel)
  have e11 : h_i h4 11 1 = h_i h 11 1 := (F4.2 11 1 (by decide +kernel)).1
  have e5 : h_i h4 13 5 = h_i h 13 5 := (F4.2 13 5 (by decide +kernel)).1
  have e00 : h_i h4 0 0 = h_i h 0 0 := (F4.2 0 0 (by decide +kernel)).1
  have rd : ∀ k, h_i h4 37 k = h_i h 37 k := fun k => fr_i F4 (by decide +kernel) k
  have rt : ∀ k, h_i h4 38 k = h_i h 38 k := fun k => fr_i F4 (by decide +kernel) k
  have rl : ∀ k, h_i h4 39 k = h_i h 39 k := fun k => fr_i F4 (by decide +kernel) k
  have rc : ∀ k, h_i h4 40 k = h_i h 40 k := fun k => fr_i F4 (by decide +kernel) k
  refine ⟨I4.1, fun er => t_X11_keepRule_13 d h4 I4.1 x1 _ (Ci.mono (c_kpg_13 d I4 x1 (h_i h4 0 0)) (fun r3 h5 Y => ?_)), fun nr => ⟨I4, W4, ⟨fun _ => ⟨rfl, e11, e5, rd, rt⟩, fun o => absurd (e3.trans (ee.trans o.2.2)) nr⟩, fun _ => ⟨rl, rc⟩, fun o => absurd (e3.trans (ee.trans o.2.2)) nr⟩⟩
  have ev : enq (h_i h 31) (xn h) (ruq (h_i h 31) (xn h) (clq (h_i h 31) (xn h) (0 + 1))) = -1 := ee.symm.trans (e3.symm.trans er)
  obtain ⟨I5, F5, Yn, Yy⟩ := Y
  rw [e5] at Yn Yy
  rw [e00] at Yy
  have W5 : Fr wrx_13 h h5 := W4.tr (F5.more (by decide +kernel))
  refine ⟨I5.1, fun e7 => ⟨I5.1, I5, W5, ⟨fun _ => ?_, fun o => absurd e7 (Yy o.2.1).1⟩, fun _ => ?_, fun o => absurd e7 (Yy o.2.1).1⟩, fun n7 => Ci.mono (c_cut0 d I5) (fun _ h9 e9 => ?_)⟩
  · by_cases z : h_i h 13 5 = 20
    · have q := (Yn z).2
      subst q
      exact ⟨e7, e11, e5, rd, rt⟩
    · exact absurd e7 (Yy z).1
  · by_cases z : h_i h 13 5 = 20
    · have q := (Yn z).2
      subst q
      exact ⟨rl, rc⟩
    · exact absurd e7 (Yy z).1
  · have z : ¬ h_i h 13 5 = 20 := fun z => n7 (Yn z).1
    obtain ⟨q0, q1, q2, q3, q4, q5, q6, q7⟩ := Yy z
    subst e9
    refine ⟨(y1 I5).1, (y1 I5).1, y1 I5, W5.im (by decide +kernel), ⟨fun no => absurd ⟨bd, z, ev⟩ no, fun _ => ⟨q1, im_at, by rw [im_ne (by decide)]; exact q2, fun k => ?_, fun k => ?_⟩⟩, fun no => absurd ⟨bd, z, ev⟩ no, fun _ => ?_⟩
    · rw [im_ne (by decide), q3 k, rd]
    · rw [im_ne (by decide), q4 k, rt]
    · obtain ⟨c1, c2, c3⟩ := cr (e3.symm.trans er)
      have b9 := x9_in I4
      have ci := xc_i I4
      refine ⟨c1, by omega, ?_, fun i v e => ?_, fun k hk => ?_, fun j hj => ?_⟩
      · rw [im_ne (by decide), q5, if_pos rfl, ← c2]
        exact (of_nat32 b9.1).symm
      · have li : i < xc h4 := by
          rw [c2, ← rlX_l (0 + 1)]
          exact (List.getElem?_eq_some_iff.mp e).1
        rw [im_ne (by decide), q6 i li]
        exact c3 i v e
      · rw [im_ne (by decide), q5 k, if_neg hk, rl]
      · rw [im_ne (by decide), q7 j hj, rc]
theorem c_kpg_14 (d : Nat) {h : Hp_} (I : Iv h) (x1 x2 : Int32) : Ci (m_X10_keep (d + 1) 0 0) [.ref 14, .int x1, .int x2, .ref 11] h (fun r h' => Iv h' ∧ Fr wkr_14 h h' ∧ (h_i h 14 5 = 20 → r = -1 ∧ h' = h) ∧ (¬ h_i h 14 5 = 20 → ¬ r = -1 ∧ r = h_i h 14 5 ∧ h_i h' 14 5 = h_i h 14 5 + 1 ∧ (∀ k, h_i h' 42 k = if k = (h_i h 14 5).toNatClampNeg then x1 else h_i h 42 k) ∧ (∀ k, h_i h' 43 k = if k = (h_i h 14 5).toNatClampNeg then x2 else h_i h 43 k) ∧ (∀ k, h_i h' 44 k = if k = (h_i h 14 5).toNatClampNeg then h_i h 11 9 else h_i h 44 k) ∧ (∀ j, j < xc h → h_i h' 45 (164 * (h_i h 14 5).toNatClampNeg + j) = h_i h 33 j) ∧ (∀ j, j < 164 * (h_i h 14 5).toNatClampNeg → h_i h' 45 j = h_i h 45 j))) := by
  have t20 : (20 : Int32).toInt = 20 := rfl
  have t1 : (1 : Int32).toInt = 1 := rfl
  have t0 : (0 : Int32).toInt = 0 := rfl
  have t164 : (164 : Int32).toInt = 164 := rfl
  have rg := I.2.1 14 5
  rw [show tf 14 5 = (0, 20) by decide +kernel] at rg
  have b0 : 0 ≤ (h_i h 14 5).toInt := rg.1
  have b1 : (h_i h 14 5).toInt ≤ 20 := rg.2
  have r9 := I.2.1 11 9
  rw [show tf 11 9 = (0, 164) by decide +kernel] at r9
  have c0 : 0 ≤ (h_i h 11 9).toInt := r9.1
  have c1 : (h_i h 11 9).toInt ≤ 164 := r9.2
  refine t_X10_keep_14 d h I.1 x1 x2 _ ⟨fun z => ?_, fun z => ⟨I, Fr.rf _ _, fun _ => ⟨rfl, rfl⟩, fun n => ?_⟩⟩
  · have z := q_lt.mp z
    have n20 : ¬ h_i h 14 5 = 20 := fun e => by rw [e] at z; exact absurd z (by decide)
    have v : vp_in (h_i h 14 5) 20 := dp_in (lo := 0) (hi := 19) ⟨b0, by show _ ≤ (19 : Int); omega⟩ (by decide) (by decide)
    have m1 : (h_i h 14 5 * 164).toInt = (h_i h 14 5).toInt * 164 := by rw [tx_mul (by rw [t164]; omega) (by rw [t164]; omega), t164]
    have nn : ∀ x : Int32, 0 ≤ x.toInt → ¬ x < 0 := fun x hx y => by
      have y := q_lt.mp y
      omega
    have n5 := n_nat (x := h_i h 14 5 * 164) (by omega)
    have n9 := n_nat (x := h_i h 11 9) c0
    refine ⟨v, v, v, ⟨by decide, nn _ (by omega), nn _ c0, ?_, by omega⟩, ?_⟩
    · show 0 + (h_i h 11 9).toNatClampNeg ≤ 164
      omega
    · have I3 : Iv (h_im (h_im (h_im h 42 ((h_i h 14 5) : Int32).toNatClampNeg x1) 43 ((h_i h 14 5) : Int32).toNatClampNeg x2) 44 ((h_i h 14 5) : Int32).toNatClampNeg (h_i h 11 9)) := (i2xx 43 (by decide +kernel) (by decide) (by decide) (i2xx 42 (by decide +kernel) (by decide) (by decide) I _ _) _ _).im (a := 44) (by rw [tfa_tf (show tfa 44 = some (0, 164) by decide +kernel)]; exact ⟨c0, c1⟩) (jw_jr (by decide) (by decide) _)
      have F3 : Fr wkr_14 h (h_im (h_im (h_im h 42 ((h_i h 14 5) : Int32).toNatClampNeg x1) 43 ((h_i h 14 5) : Int32).toNatClampNeg x2) 44 ((h_i h 14 5) : Int32).toNatClampNeg (h_i h 11 9)) := (((Fr.rf _ _).im (inw_row (by decide +kernel) _)).im (inw_row (by decide +kernel) _)).im (inw_row (by decide +kernel) _)
      have w37 : ∀ k, h_i (h_im (h_im (h_im h 42 ((h_i h 14 5) : Int32).toNatClampNeg x1) 43 ((h_i h 14 5) : Int32).toNatClampNeg x2) 44 ((h_i h 14 5) : Int32).toNatClampNeg (h_i h 11 9)) 42 k = if k = (h_i h 14 5).toNatClampNeg then x1 else h_i h 42 k := fun k => by
        rw [im_ne (by decide), im_ne (by decide), h_i_im]
        by_cases y : k = (h_i h 14 5).toNatClampNeg
        · rw [if_pos ⟨rfl, y⟩, if_pos y]
        · rw [if_neg (fun u => y u.2), if_neg y]
      have w38 : ∀ k, h_i (h_im (h_im (h_im h 42 ((h_i h 14 5) : Int32).toNatClampNeg x1) 43 ((h_i h 14 5) : Int32).toNatClampNeg x2) 44 ((h_i h 14 5) : Int32).toNatClampNeg (h_i h 11 9)) 43 k = if k = (h_i h 14 5).toNatClampNeg then x2 else h_i h 43 k := fun k => by
        rw [im_ne (by decide), h_i_im]
        by_cases y : k = (h_i h 14 5).toNatClampNeg
        · rw [if_pos ⟨rfl, y⟩, if_pos y]
        · rw [if_neg (fun u => y u.2), if_neg y, im_ne (by decide)]
      have w39 : ∀ k, h_i (h_im (h_im (h_im h 42 ((h_i h 14 5) : Int32).toNatClampNeg x1) 43 ((h_i h 14 5) : Int32).toNatClampNeg x2) 44 ((h_i h 14 5) : Int32).toNatClampNeg (h_i h 11 9)) 44 k = if k = (h_i h 14 5).toNatClampNeg then h_i h 11 9 else h_i h 44 k := fun k => by
        rw [h_i_im]
        by_cases y : k = (h_i h 14 5).toNatClampNeg
        · rw [if_pos ⟨rfl, y⟩, if_pos y]
        · rw [if_neg (fun u => y u.2), if_neg y, im_ne (by decide), im_ne (by decide)]
      have w33 : ∀ k, h_i (h_im (h_im (h_im h 42 ((h_i h 14 5) : Int32).toNatClampNeg x1) 43 ((h_i h 14 5) : Int32).toNatClampNeg x2) 44 ((h_i h 14 5) : Int32).toNatClampNeg (h_i h 11 9)) 33 k = h_i h 33 k := fun k => by rw [im_ne (by decide), im_ne (by decide), im_ne (by decide)]
      have w40 : ∀ k, h_i (h_im (h_im (h_im h 42 ((h_i h 14 5) : Int32).toNatClampNeg x1) 43 ((h_i h 14 5) : Int32).toNatClampNeg x2) 44 ((h_i h 14 5) : Int32).toNatClampNeg (h_i h 11 9)) 45 k = h_i h 45 k := fun k => by rw [im_ne (by decide), im_ne (by decide), im_ne (by decide)]
      have w5 : h_i (h_im (h_im (h_im h 42 ((h_i h 14 5) : Int32).toNatClampNeg x1) 43 ((h_i h 14 5) : Int32).toNatClampNeg x2) 44 ((h_i h 14 5) : Int32).toNatClampNeg (h_i h 11 9)) 14 5 = h_i h 14 5 := by rw [im_ne (by decide), im_ne (by decide), im_ne (by decide)]
      generalize h_im (h_im (h_im h 42 ((h_i h 14 5) : Int32).toNatClampNeg x1) 43 ((h_i h 14 5) : Int32).toNatClampNeg x2) 44 ((h_i h 14 5) : Int32).toNatClampNeg (h_i h 11 9) = h3 at I3 F3 w37 w38 w39 w33 w40 w5 ⊢
      have cpA : ∀ j, j < xc h → va_cpy (h_i h3 33) (h_i h3 45) (0 : Int32).toNatClampNeg ((h_i h 14 5) * 164).toNatClampNeg (h_i h 11 9).toNatClampNeg (164 * (h_i h 14 5).toNatClampNeg + j) = h_i h 33 j := fun j hj => by
        have n5' : ((h_i h 14 5) * 164).toNatClampNeg = 164 * (h_i h 14 5).toNatClampNeg := by
          have k0 := n_nat b0
          omega
        rw [n5']
        unfold va_cpy
        rw [if_pos ⟨by omega, by show _ < _ + xc h; omega⟩, ← w33]
        congr 1
        show 0 + (164 * (h_i h 14 5).toNatClampNeg + j - 164 * (h_i h 14 5).toNatClampNeg) = j
        omega
      have cpB : ∀ j, j < 164 * (h_i h 14 5).toNatClampNeg → va_cpy (h_i h3 33) (h_i h3 45) (0 : Int32).toNatClampNeg ((h_i h 14 5) * 164).toNatClampNeg (h_i h 11 9).toNatClampNeg j = h_i h 45 j := fun j hj => by
        have n5' : ((h_i h 14 5) * 164).toNatClampNeg = 164 * (h_i h 14 5).toNatClampNeg := by
          have k0 := n_nat b0
          omega
        rw [n5']
        unfold va_cpy
        rw [if_neg (fun y => by have := y.1; omega)]
        exact w40 j
      generalize va_cpy (h_i h3 33) (h_i h3 45) (0 : Int32).toNatClampNeg ((h_i h 14 5) * 164).toNatClampNeg (h_i h 11 9).toNatClampNeg = fc at cpA cpB ⊢
      have I4 : Iv (h_iw h3 45 fc) := I3.iw (fun k => by rw [tfa_tf (show tfa 45 = some rtop by decide +kernel)]; exact rtop_in _) (by decide) (by decide)
      have F4 : Fr wkr_14 h (h_iw h3 45 fc) := F3.iw (by decide +kernel)
      have ne : ∀ a, a ≠ 45 → ∀ k, h_i (h_iw h3 45 fc) a k = h_i h3 a k := fun a na k => by rw [h_i_iw, if_neg na]
      have ex : (h_i h 14 5 + 1).toInt = (h_i h 14 5).toInt + 1 := tx_add (by rw [t1]; omega) (by rw [t1]; omega)
      refine t_X10_keep_14_68 d _ I4.1 _ ⟨?_, F4.im (by decide +kernel), fun y => absurd y n20, fun _ => ⟨?_, ?_, ?_, fun k => ?_, fun k => ?_, fun k => ?_, fun j hj => ?_, fun j hj => ?_⟩⟩
      · exact I4.im (a := 14) (k := 5) (by rw [show tf 14 5 = (0, 20) by decide +kernel, ne 14 (by decide), w5, ex]; exact ⟨by show (0 : Int) ≤ _; omega, by show _ ≤ (20 : Int); omega⟩) (by decide)
      · rw [ne 14 (by decide), w5]
        intro y
        have y := congrArg Int32.toInt y
        rw [tx_sub (by rw [t1]; omega) (by rw [t1]; omega), ex, t1, show (-1 : Int32).toInt = -1 from rfl] at y
        omega
      · rw [ne 14 (by decide), w5]
        refine Int32.toInt_inj.mp ?_
        rw [tx_sub (by rw [t1]; omega) (by rw [t1]; omega), ex, t1]
        omega
      · rw [im_at, ne 14 (by decide), w5]
      · rw [im_ne (by decide), ne 42 (by decide)]
        exact w37 k
      · rw [im_ne (by decide), ne 43 (by decide)]
        exact w38 k
      · rw [im_ne (by decide), ne 44 (by decide)]
        exact w39 k
      · rw [im_ne (by decide), h_i_iw, if_pos rfl]
        exact cpA j hj
      · rw [im_ne (by decide), h_i_iw, if_pos rfl]
        exact cpB j hj
  · have n20 : ¬ (h_i h 14 5).toInt < 20 := fun y => z (q_lt.mpr (by rw [t20]; exact y))
    exact absurd (Int32.toInt_inj.mp (by rw [t20]; omega)) n
/-- the codes of the class's texts behind it -/
def RcX_14 (x1 : Int32) (h h' : Hp_) : Prop := (¬ okR (h_i h 31) (xn h) 1 x1 (h_i h 14 5) → (∀ k, h_i h' 44 k = h_i h 44 k) ∧ (∀ k, h_i h' 45 k = h_i h 45 k)) ∧ (okR (h_i h 31) (xn h) 1 x1 (h_i h 14 5) → (k2ru (h_i h 31) (xn h) (1 + 1) 0).1 = true ∧ rlN (k2ru (h_i h 31) (xn h) (1 + 1) 0).2.2 ≤ 164 ∧ h_i h' 44 (h_i h 14 5).toNatClampNeg = Int32.ofNat (rlN (k2ru (h_i h 31) (xn h) (1 + 1) 0).2.2) ∧ (∀ i v, (rlX (1 + 1) 0 (k2ru (h_i h 31) (xn h) (1 + 1) 0).2.2)[i]? = some v → h_i h' 45 (164 * (h_i h 14 5).toNatClampNeg + i) = v) ∧ (∀ k, k ≠ (h_i h 14 5).toNatClampNeg → h_i h' 44 k = h_i h 44 k) ∧ (∀ j, j < 164 * (h_i h 14 5).toNatClampNeg → h_i h' 45 j = h_i h 45 j))
theorem c_payy (d : Nat) {h : Hp_} (I : Iv h) (x1 : Int32) : Ci (m_X11_pay (d + 141) 0 0) [.ref 0, .int x1] h (fun r h' => Iv h' ∧ Fr wrx_14 h h' ∧ Rlx_14 x1 h r h' ∧ RcX_14 x1 h h') := by
  have k := c_rre (b := h_i h 31) (n := xn h) (1 + 1) (by decide) d I rfl rfl 0 (by decide)
  rw [show d + 80 + 60 = d + 140 by omega] at k
  refine t_X11_pay d h I.1 x1 _ ⟨fun nb => ⟨I, Fr.rf _ _, ⟨fun _ => ⟨rfl, rfl, rfl, fun _ => rfl, fun _ => rfl⟩, fun o => absurd o.1 nb⟩, fun _ => ⟨fun _ => rfl, fun _ => rfl⟩, fun o => absurd o.1 nb⟩, fun bd => Ci.mono k (fun r6 h4 X => ?_)⟩
  obtain ⟨e3, I4, F4, ee, cr⟩ := X
  have W4 : Fr wrx_14 h h4 := F4.more (by decide +kernel)
  have e11 : h_i h4 11 1 = h_i h 11 1 := (F4.2 11 1 (by decide +kernel)).1
  have e5 : h_i h4 14 5 = h_i h 14 5 := (F4.2 14 5 (by decide +kernel)).1
  have e00 : h_i h4 0 0 = h_i h 0 0 := (F4.2 0 0 (by decide +kernel)).1
  have rd : ∀ k, h_i h4 42 k = h_i h 42 k := fun k => fr_i F4 (by decide +kernel) k
  have rt : ∀ k, h_i h4 43 k = h_i h 43 k := fun k => fr_i F4 (by decide +kernel) k
  have rl : ∀ k, h_i h4 44 k = h_i h 44 k := fun k => fr_i F4 (by decide +kernel) k
  have rc : ∀ k, h_i h4 45 k = h_i h 45 k := fun k => fr_i F4 (by decide +kernel) k
  refine ⟨I4.1, fun er => t_X11_keepRule_14 d h4 I4.1 x1 _ (Ci.mono (c_kpg_14 d I4 x1 (h_i h4 0 0)) (fun r3 h5 Y => ?_)), fun nr => ⟨I4, W4, ⟨fun _ => ⟨rfl, e11, e5, rd, rt⟩, fun o => absurd (e3.trans (ee.trans o.2.2)) nr⟩, fun _ => ⟨rl, rc⟩, fun o => absurd (e3.trans (ee.trans o.2.2)) nr⟩⟩
  have ev : enq (h_i h 31) (xn h) (ruq (h_i h 31) (xn h) (clq (h_i h 31) (xn h) (1 + 1))) = -1 := ee.symm.trans (e3.symm.trans er)
  obtain ⟨I5, F5, Yn, Yy⟩ := Y
  rw [e5] at Yn Yy
  rw [e00] at Yy
  have W5 : Fr wrx_14 h h5 := W4.tr (F5.more (by decide +kernel))
  refine ⟨I5.1, fun e7 => ⟨I5.1, I5, W5, ⟨fun _ => ?_, fun o => absurd e7 (Yy o.2.1).1⟩, fun _ => ?_, fun o => absurd e7 (Yy o.2.1).1⟩, fun n7 => Ci.mono (c_cut0 d I5) (fun _ h9 e9 => ?_)⟩
  · by_cases z : h_i h 14 5 = 20
    · have q := (Yn z).2
      subst q
      exact ⟨e7, e11, e5, rd, rt⟩
    · exact absurd e7 (Yy z).1
  · by_cases z : h_i h 14 5 = 20
    · have q := (Yn z).2
      subst q
      exact ⟨rl, rc⟩
    · exact absurd e7 (Yy z).1
  · have z : ¬ h_i h 14 5 = 20 := fun z => n7 (Yn z).1
    obtain ⟨q0, q1, q2, q3, q4, q5, q6, q7⟩ := Yy z
    subst e9
    refine ⟨(y1 I5).1, (y1 I5).1, y1 I5, W5.im (by decide +kernel), ⟨fun no => absurd ⟨bd, z, ev⟩ no, fun _ => ⟨q1, im_at, by rw [im_ne (by decide)]; exact q2, fun k => ?_, fun k => ?_⟩⟩, fun no => absurd ⟨bd, z, ev⟩ no, fun _ => ?_⟩
    · rw [im_ne (by decide), q3 k, rd]
    · rw [im_ne (by decide), q4 k, rt]
    · obtain ⟨c1, c2, c3⟩ := cr (e3.symm.trans er)
      have b9 := x9_in I4
      have ci := xc_i I4
      refine ⟨c1, by omega, ?_, fun i v e => ?_, fun k hk => ?_, fun j hj => ?_⟩
      · rw [im_ne (by decide), q5, if_pos rfl, ← c2]
        exact (of_nat32 b9.1).symm
      · have li : i < xc h4 := by
          rw [c2, ← rlX_l (1 + 1)]
          exact (List.getElem?_eq_some_iff.mp e).1
        rw [im_ne (by decide), q6 i li]
        exact c3 i v e
      · rw [im_ne (by decide), q5 k, if_neg hk, rl]
      · rw [im_ne (by decide), q7 j hj, rc]
end
section
/-! LOOKS: the act in force, the rank on a day (as in the comparisons of force and ranked) -/
def fob (da to : Nat → Int32) (dy q : Int32) : Nat → Int32
  | 0 => -1
  | i + 1 => if q < to i then fob da to dy q i else if dy < da i then fob da to dy q i else if fob da to dy q i = -1 then Int32.ofNat i else if da i < da (fob da to dy q i).toNatClampNeg then fob da to dy q i else Int32.ofNat i
theorem fob_b (da to : Nat → Int32) (dy q : Int32) : ∀ i, i ≤ 20 → fob da to dy q i = -1 ∨ (0 ≤ (fob da to dy q i).toInt ∧ (fob da to dy q i).toInt < (i : Int))
  | 0, _ => Or.inl rfl
  | i + 1, h => by
    have ih := fob_b da to dy q i (by omega)
    have o : (Int32.ofNat i).toInt = (i : Int) := on_j (by omega)
    have up : fob da to dy q i = -1 ∨ (0 ≤ (fob da to dy q i).toInt ∧ (fob da to dy q i).toInt < ((i + 1 : Nat) : Int)) := ih.elim Or.inl (fun y => Or.inr ⟨y.1, by have := y.2; omega⟩)
    have nw : Int32.ofNat i = -1 ∨ (0 ≤ (Int32.ofNat i).toInt ∧ (Int32.ofNat i).toInt < ((i + 1 : Nat) : Int)) := Or.inr ⟨by omega, by omega⟩
    unfold fob
    split
    · exact up
    · split
      · exact up
      · split
        · exact nw
        · split
          · exact up
          · exact nw
theorem fob_c {da to da' to' : Nat → Int32} {dy q : Int32} : ∀ n, n ≤ 20 → (∀ k, k < n → da' k = da k ∧ to' k = to k) → fob da' to' dy q n = fob da to dy q n
  | 0, _, _ => rfl
  | i + 1, h, e => by
    have ih := fob_c (dy := dy) (q := q) i (by omega) (fun k hk => e k (by omega))
    have ei := e i (by omega)
    unfold fob
    rw [ih, ei.1, ei.2]
    rcases fob_b da to dy q i (by omega) with z | z
    · rw [z, if_pos rfl, if_pos rfl]
    · have nz : ¬ fob da to dy q i = -1 := fun y => by
        rw [y] at z
        exact absurd z.1 (by decide)
      have nn := n_nat z.1
      rw [if_neg nz, if_neg nz, (e (fob da to dy q i).toNatClampNeg (by omega)).1]
theorem c_inf (d : Nat) {h : Hp_} (I : Iv h) (x1 x2 : Int32) : Ci (m_X10_inForce (d + 0) 0 0) [.ref 13, .int x1, .int x2] h (fun r h' => h' = h ∧ r = fob (h_i h 37) (h_i h 38) x1 x2 (h_i h 13 5).toNatClampNeg) := by
  have c13 := I.2.1 13 5
  rw [show tf 13 5 = (0, 20) by decide +kernel] at c13
  have c0 : 0 ≤ (h_i h 13 5).toInt := c13.1
  have c1 : (h_i h 13 5).toInt ≤ 20 := c13.2
  have n13 := n_nat c0
  have lp : ∀ (n i : Nat), i + n = (h_i h 13 5).toNatClampNeg → AW (m_X10_inForce (d + 0) 0 0) 0 0 5 [(0, .ref 13), (1, .int x1), (2, .int x2), (3, .int (fob (h_i h 37) (h_i h 38) x1 x2 i)), (4, .int (Int32.ofNat i))] [] h (kI (fun r h' => h' = h ∧ r = fob (h_i h 37) (h_i h 38) x1 x2 (h_i h 13 5).toNatClampNeg)) := by
    intro n
    induction n with
    | zero =>
      intro i e
      have oi := on_j (n := i) (by omega)
      refine t_X10_inForce_13_5 d h I.1 x1 x2 _ _ _ ⟨fun _ => ⟨rfl, by rw [← e]; rfl⟩, fun z => ?_⟩
      have z := q_nle z
      omega
    | succ n ih =>
      intro i e
      have oi := on_j (n := i) (by omega)
      have ki := on_k (n := i) (by omega)
      have vi : vp_in (Int32.ofNat i) 20 := on_in (by omega) (by decide)
      have ih := ih (i + 1) (by omega)
      refine t_X10_inForce_13_5 d h I.1 x1 x2 _ _ _ ⟨fun z => ?_, fun _ => ?_⟩
      · have z := q_le.mp z
        omega
      · rw [ki, on_s (n := i) (by omega)]
        refine ⟨vi, fun a => ?_, fun a => ⟨vi, fun b => ?_, fun b => ⟨fun c => ?_, fun c => ⟨vi, ?_, fun e => ?_, fun e => ?_⟩⟩⟩⟩
        · have q : fob (h_i h 37) (h_i h 38) x1 x2 (i + 1) = fob (h_i h 37) (h_i h 38) x1 x2 i := if_pos a
          rw [q] at ih
          exact ih
        · have q : fob (h_i h 37) (h_i h 38) x1 x2 (i + 1) = fob (h_i h 37) (h_i h 38) x1 x2 i := (if_neg a).trans (if_pos b)
          rw [q] at ih
          exact ih
        · have q : fob (h_i h 37) (h_i h 38) x1 x2 (i + 1) = Int32.ofNat i := (if_neg a).trans ((if_neg b).trans (if_pos c))
          rw [q] at ih
          exact ih
        · rcases fob_b (h_i h 37) (h_i h 38) x1 x2 i (by omega) with z | z
          · exact absurd z c
          · exact dp_in (lo := 0) (hi := 19) ⟨z.1, by show _ ≤ (19 : Int); omega⟩ (by decide) (by decide)
        · have q : fob (h_i h 37) (h_i h 38) x1 x2 (i + 1) = fob (h_i h 37) (h_i h 38) x1 x2 i := (if_neg a).trans ((if_neg b).trans ((if_neg c).trans (if_pos e)))
          rw [q] at ih
          exact ih
        · have q : fob (h_i h 37) (h_i h 38) x1 x2 (i + 1) = Int32.ofNat i := (if_neg a).trans ((if_neg b).trans ((if_neg c).trans (if_neg e)))
          rw [q] at ih
          exact ih
  exact t_X10_inForce_13 d h x1 x2 _ (lp (h_i h 13 5).toNatClampNeg 0 (by omega))
theorem z20 (x : Int32) : 20 * (0 : Int32) + x = x := by rw [show (20 : Int32) * 0 = 0 by decide, Int32.zero_add]
theorem c_fof (d : Nat) {h : Hp_} (I : Iv h) (x1 x2 : Int32) : Ci (m_X12_forceOf (d + 0) 0 0) [.ref 1, .int 0, .int x1, .int x2] h (fun r h' => h' = h ∧ r = fob (h_i h 233) (h_i h 234) x1 x2 (h_i h 235 0).toNatClampNeg) := by
  have c13 := dp_rg I 235 0 (show tfa 235 = some (0, 20) by decide +kernel)
  have c0 : 0 ≤ (h_i h 235 0).toInt := c13.1
  have c1 : (h_i h 235 0).toInt ≤ 20 := c13.2
  have n13 := n_nat c0
  have k0 : (0 : Int32).toNatClampNeg = 0 := rfl
  have v0 : vp_in (0 : Int32) 2 := on_in (n := 0) (by omega) (by decide)
  have lp : ∀ (n i : Nat), i + n = (h_i h 235 0).toNatClampNeg → AW (m_X12_forceOf (d + 0) 0 0) 0 0 6 [(0, .ref 1), (1, .int 0), (2, .int x1), (3, .int x2), (4, .int (fob (h_i h 233) (h_i h 234) x1 x2 i)), (5, .int (Int32.ofNat i))] [] h (kI (fun r h' => h' = h ∧ r = fob (h_i h 233) (h_i h 234) x1 x2 (h_i h 235 0).toNatClampNeg)) := by
    intro n
    induction n with
    | zero =>
      intro i e
      have oi := on_j (n := i) (by omega)
      refine t_X12_forceOf_6 d h I.1 0 x1 x2 _ _ _ ⟨v0, fun _ => ⟨rfl, by rw [← e]; rfl⟩, fun z => ?_⟩
      rw [k0] at z
      have z := q_nle z
      omega
    | succ n ih =>
      intro i e
      have oi := on_j (n := i) (by omega)
      have ki := on_k (n := i) (by omega)
      have vi : vp_in (Int32.ofNat i) 40 := on_in (by omega) (by decide)
      have ih := ih (i + 1) (by omega)
      refine t_X12_forceOf_6 d h I.1 0 x1 x2 _ _ _ ⟨v0, fun z => ?_, fun _ => ?_⟩
      · rw [k0] at z
        have z := q_le.mp z
        omega
      · rw [z20, z20, ki, on_s (n := i) (by omega)]
        refine ⟨vi, fun a => ?_, fun a => ⟨vi, fun b => ?_, fun b => ⟨fun c => ?_, fun c => ⟨vi, ?_, fun e => ?_, fun e => ?_⟩⟩⟩⟩
        · have q : fob (h_i h 233) (h_i h 234) x1 x2 (i + 1) = fob (h_i h 233) (h_i h 234) x1 x2 i := if_pos a
          rw [q] at ih
          exact ih
        · have q : fob (h_i h 233) (h_i h 234) x1 x2 (i + 1) = fob (h_i h 233) (h_i h 234) x1 x2 i := (if_neg a).trans (if_pos b)
          rw [q] at ih
          exact ih
        · have q : fob (h_i h 233) (h_i h 234) x1 x2 (i + 1) = Int32.ofNat i := (if_neg a).trans ((if_neg b).trans (if_pos c))
          rw [q] at ih
          exact ih
        · rcases fob_b (h_i h 233) (h_i h 234) x1 x2 i (by omega) with z | z
          · exact absurd z c
          · exact dp_in (lo := 0) (hi := 39) ⟨z.1, by show _ ≤ (39 : Int); omega⟩ (by decide) (by decide)
        · have q : fob (h_i h 233) (h_i h 234) x1 x2 (i + 1) = fob (h_i h 233) (h_i h 234) x1 x2 i := (if_neg a).trans ((if_neg b).trans ((if_neg c).trans (if_pos e)))
          rw [q] at ih
          exact ih
        · have q : fob (h_i h 233) (h_i h 234) x1 x2 (i + 1) = Int32.ofNat i := (if_neg a).trans ((if_neg b).trans ((if_neg c).trans (if_neg e)))
          rw [q] at ih
          exact ih
  exact t_X12_forceOf d h 0 x1 x2 _ (lp (h_i h 235 0).toNatClampNeg 0 (by omega))
def rkv (A B C D : Nat → Int32) (m day q : Int32) : Nat → Nat → Int32 → Int32 → Int32
  | 0, _, r, _ => r
  | n + 1, i, r, f => if A i = m ∧ D i ≤ q ∧ C i ≤ day ∧ f ≤ C i then rkv A B C D m day q n (i + 1) (B i) (C i) else rkv A B C D m day q n (i + 1) r f
theorem rkv_eq {A B C D A' B' C' D' : Nat → Int32} {m day q : Int32} (E : ∀ k, k < 40 → A k = A' k ∧ B k = B' k ∧ C k = C' k ∧ D k = D' k) : ∀ (n i : Nat) (r f : Int32), i + n ≤ 40 → rkv A B C D m day q n i r f = rkv A' B' C' D' m day q n i r f
  | 0, _, _, _, _ => rfl
  | n + 1, i, r, f, l => by
    have e := E i (by omega)
    unfold rkv
    rw [e.1, e.2.1, e.2.2.1, e.2.2.2, rkv_eq E n (i + 1) _ _ (by omega), rkv_eq E n (i + 1) r f (by omega)]
theorem rk_X (d : Nat) {h : Hp_} (I : Iv h) (x1 : Nat) (hs : h_sh h x1 = some (12, 17)) (lb : 400 ≤ x1) (x2 x3 : Int32) : ∀ (n i : Nat) (x4 x5 x6 : Int32), x6.toInt = (i : Int) → (i : Int) + n = (h_i h 21 4).toInt → AW (m_X5_classOf (d + 1) 0 0) 0 0 12 [(0, .ref 21), (1, .ref x1), (2, .int x2), (3, .int x3), (4, .int x4), (5, .int x5), (6, .int x6)] [] h (kI (fun v h' => v = rkv (h_i h 104) (h_i h 105) (h_i h 106) (h_i h 107) (h_i h x1 0) x2 x3 n i x4 x5 ∧ h' = h)) := by
  have t1 : (1 : Int32).toInt = 1 := rfl
  have rg := I.2.1 21 4
  rw [show tf 21 4 = (0, 40) by decide +kernel] at rg
  have r1 : (h_i h 21 4).toInt ≤ 40 := rg.2
  intro n
  induction n with
  | zero =>
    intro i x4 x5 x6 e6 ec
    exact t_X5_classOf_12 d h I.1 x1 hs lb x2 x3 x4 x5 x6 _ ⟨fun _ => ⟨rfl, rfl⟩, fun z => absurd (q_le.mpr (by omega)) z⟩
  | succ n ih =>
    intro i x4 x5 x6 e6 ec
    have e7 : (x6 + 1).toInt = ((i + 1 : Nat) : Int) := by rw [tx_add (by rw [t1]; omega) (by rw [t1]; omega), t1]; omega
    have v : vp_in x6 40 := dp_in (lo := 0) (hi := 39) ⟨by show (0 : Int) ≤ _; omega, by show _ ≤ (39 : Int); omega⟩ (by decide) (by decide)
    have nx := n_nat (x := x6) (by omega)
    have ei : x6.toNatClampNeg = i := by omega
    have no := ih (i + 1) x4 x5 (x6 + 1) e7 (by omega)
    refine t_X5_classOf_12 d h I.1 x1 hs lb x2 x3 x4 x5 x6 _ ⟨fun z => by have := q_le.mp z; omega, fun _ => ⟨v, ?_⟩⟩
    rw [ei]
    unfold rkv
    refine ⟨fun a => ?_, fun a => ⟨v, fun b => ?_, fun b => ⟨v, fun c => ?_, fun c => ⟨v, v, ?_⟩⟩⟩⟩
    · rw [if_neg (fun w => a w.1)]; exact no
    · rw [if_neg (fun w => by have := q_lt.mp b; have := q_le.mp w.2.1; omega)]; exact no
    · rw [if_neg (fun w => c ⟨w.2.2.2, w.2.2.1⟩)]; exact no
    · rw [if_pos ⟨a, q_le.mpr (q_nlt b), c.2, c.1⟩]
      exact ih (i + 1) _ _ (x6 + 1) e7 (by omega)
theorem rk_M (d : Nat) {h : Hp_} (I : Iv h) (x1 x2 x3 : Int32) : ∀ (n i : Nat) (x4 x5 x6 : Int32), x6.toInt = (i : Int) → (i : Int) + n = (h_i h 1 29).toInt → AW (m_X12_rankOn (d + 0) 0 0) 0 0 14 [(0, .ref 1), (1, .int x1), (2, .int x2), (3, .int x3), (4, .int x4), (5, .int x5), (6, .int x6)] [] h (kI (fun v h' => v = rkv (h_i h 221) (h_i h 222) (h_i h 223) (h_i h 224) x1 x2 x3 n i x4 x5 ∧ h' = h)) := by
  have t1 : (1 : Int32).toInt = 1 := rfl
  have rg := I.2.1 1 29
  rw [show tf 1 29 = (0, 40) by decide +kernel] at rg
  have r1 : (h_i h 1 29).toInt ≤ 40 := rg.2
  intro n
  induction n with
  | zero =>
    intro i x4 x5 x6 e6 ec
    exact t_X12_rankOn_14 d h I.1 x1 x2 x3 x4 x5 x6 _ ⟨fun _ => ⟨rfl, rfl⟩, fun z => absurd (q_le.mpr (by omega)) z⟩
  | succ n ih =>
    intro i x4 x5 x6 e6 ec
    have e7 : (x6 + 1).toInt = ((i + 1 : Nat) : Int) := by rw [tx_add (by rw [t1]; omega) (by rw [t1]; omega), t1]; omega
    have v : vp_in x6 40 := dp_in (lo := 0) (hi := 39) ⟨by show (0 : Int) ≤ _; omega, by show _ ≤ (39 : Int); omega⟩ (by decide) (by decide)
    have nx := n_nat (x := x6) (by omega)
    have ei : x6.toNatClampNeg = i := by omega
    have no := ih (i + 1) x4 x5 (x6 + 1) e7 (by omega)
    refine t_X12_rankOn_14 d h I.1 x1 x2 x3 x4 x5 x6 _ ⟨fun z => by have := q_le.mp z; omega, fun _ => ⟨v, ?_⟩⟩
    rw [ei]
    unfold rkv
    refine ⟨fun a => ?_, fun a => ⟨v, fun b => ?_, fun b => ⟨v, fun c => ?_, fun c => ⟨v, fun g => ?_, fun g => ⟨v, v, ?_⟩⟩⟩⟩⟩
    · rw [if_neg (fun w => a w.1)]; exact no
    · rw [if_neg (fun w => by have := q_lt.mp b; have := q_le.mp w.2.1; omega)]; exact no
    · rw [if_neg (fun w => by have := q_lt.mp c; have := q_le.mp w.2.2.1; omega)]; exact no
    · rw [if_neg (fun w => by have := q_lt.mp g; have := q_le.mp w.2.2.2; omega)]; exact no
    · rw [if_pos ⟨a, q_le.mpr (q_nlt b), q_le.mpr (q_nlt c), q_le.mpr (q_nlt g)⟩]
      exact ih (i + 1) _ _ (x6 + 1) e7 (by omega)
/-! LOOKS: sightings and cases as rows (numbers of the class's cells); what a look does to them -/
abbrev Bl : Type := Nat → Nat → Int32
/-- the acts' clauses, minutes between places, how many men, their first ranks -/
abbrev Enl : Type := (Nat → List Cl2) × (Int32 → Int32 → Int32) × Nat × (Nat → Int32)
abbrev nsB (b : Bl) : Nat := (b 17 16).toNatClampNeg
abbrev csn (f : Nat) (p n : Int32) (b : Bl) : Prop := ¬ 300 ≤ b 17 16 ∧ b 63 f = 0 ∧ b 58 f = p ∧ b 59 f ≤ n ∧ n ≤ b 60 f
def cAt (pl : Nat → Int32) (p : Int32) : Nat → Int32
  | 0 => 0
  | k + 1 => if pl k = p then cAt pl p k + 1 else cAt pl p k
def hrN (n : Int32) : Int32 := (n - n / 1440 * 1440) / 60
def ltR (r : Nat → Int32) (i : Nat) (v0 v1 v2 v3 v4 v5 v6 v7 v8 : Int32) : Nat → Int32 := up1 (up1 (up1 (up1 (up1 (up1 (up1 (up1 (up1 r (9 * i) v0) (9 * i + 1) v1) (9 * i + 2) v2) (9 * i + 3) v3) (9 * i + 4) v4) (9 * i + 7) v7) (9 * i + 8) v8) (9 * i + 5) v5) (9 * i + 6) v6
def rkB (E : Enl) (j : Nat) (n : Int32) (b : Bl) : Int32 := rkv (b 104) (b 105) (b 106) (b 107) (Int32.ofNat j) (n / 1440) n (b 21 4).toNatClampNeg 0 (E.2.2.2 j) (-1)
def lrB (E : Enl) (j : Nat) (n : Int32) (pl : Nat → Int32) (f : Nat) (b : Bl) : Nat → Int32 := ltR (b 70) (nsB b) (b 57 f) (b 61 f) (b 58 f) (hrN n) (n / 1440) (rkB E j n b) (cAt pl (pl j) E.2.2.1) (b 62 f) (n - b 59 f)
def foB (dy n : Int32) (b : Bl) : Int32 := fob (b 37) (b 38) dy n (b 13 5).toNatClampNeg
/-- what the act in force says of the letters from 9 i on -/
def evB (E : Enl) (dy q : Int32) (L : Nat → Int32) (i : Nat) (b : Bl) : Int32 := if foB dy q b = -1 then 0 else evC (fun c => L (9 * i + (ixq 1 (xch c)).toNatClampNeg)) (E.1 (foB dy q b).toNatClampNeg)
def dnB (E : Enl) (j : Nat) (n : Int32) (pl : Nat → Int32) (f : Nat) (b : Bl) : Int32 := evB E (n / 1440) n (lrB E j n pl f b) (nsB b) b
/-- a sighting more -/
def sg1 (E : Enl) (j : Nat) (n : Int32) (pl : Nat → Int32) (f : Nat) (b : Bl) : Bl := fun a =>
  if a = 64 then up1 (b 64) (nsB b) (Int32.ofNat j)
  else if a = 65 then up1 (b 65) (nsB b) (Int32.ofNat f)
  else if a = 66 then up1 (b 66) (nsB b) n
  else if a = 67 then up1 (b 67) (nsB b) (dnB E j n pl f b)
  else if a = 68 then up1 (b 68) (nsB b) (if dnB E j n pl f b = 3 ∧ b 18 3 < 30 then b 18 3 else -1)
  else if a = 69 then up1 (b 69) (nsB b) (if ¬ dnB E j n pl f b ≤ 1 ∧ ¬ E.2.1 (pl j) 0 = -1 then n + E.2.1 (pl j) 0 else -1)
  else if a = 70 then lrB E j n pl f b
  else if a = 62 then up1 (b 62) f (b 62 f + 1)
  else if a = 63 then (if dnB E j n pl f b = 3 then up1 (b 63) f 1 else b 63)
  else if a = 17 then (if dnB E j n pl f b = 3 then up1 (up1 (b 17) 16 (b 17 16 + 1)) 8 (b 17 8 + 1) else up1 (b 17) 16 (b 17 16 + 1))
  else if a = 71 then (if dnB E j n pl f b = 3 ∧ b 18 3 < 30 then up1 (b 71) (b 18 3).toNatClampNeg (b 57 f) else b 71)
  else if a = 72 then (if dnB E j n pl f b = 3 ∧ b 18 3 < 30 then up1 (b 72) (b 18 3).toNatClampNeg n else b 72)
  else if a = 18 then (if dnB E j n pl f b = 3 ∧ b 18 3 < 30 then up1 (b 18) 3 (b 18 3 + 1) else b 18)
  else b a
def lk1 (E : Enl) (j : Nat) (n : Int32) (pl : Nat → Int32) (f : Nat) (b : Bl) : Bl := if csn f (pl j) n b then sg1 E j n pl f b else b
def lkN (E : Enl) (j : Nat) (n : Int32) (pl : Nat → Int32) : Nat → Bl → Bl
  | 0, b => b
  | k + 1, b => lk1 E j n pl k (lkN E j n pl k b)
def lPB (E : Enl) (j : Nat) (n : Int32) (pl : Nat → Int32) (b : Bl) : Bl := lkN E j n pl (b 17 7).toNatClampNeg b
/-- the first i sightings of one who is free are told -/
def tnK (i : Nat) (x1 x2 : Int32) (b : Bl) : Nat → Int32 := fun k => if k < i ∧ b 64 k = x1 ∧ b 67 k = 1 ∧ b 69 k = -1 then x2 else b 69 k
def tnB (x1 x2 : Int32) (b : Bl) : Bl := fun a => if a = 69 then tnK (nsB b) x1 x2 b else b a
/-! rows that stay, and rows that are written -/
def lkS : List Nat := [13, 21, 37, 38, 57, 58, 59, 60, 61, 104, 105, 106, 107]
theorem sg1_s {E : Enl} {j : Nat} {n : Int32} {pl : Nat → Int32} {f : Nat} {b : Bl} {a : Nat} (ha : a ∈ lkS) : sg1 E j n pl f b a = b a := by
  simp only [lkS, List.mem_cons, List.not_mem_nil, or_false] at ha
  rcases ha with e | e | e | e | e | e | e | e | e | e | e | e | e <;> subst e <;> rfl
/-- the rows that are written -/
def Rws (b : Bl) (h : Hp_) : Prop := h_i h 17 = b 17 ∧ h_i h 18 = b 18 ∧ h_i h 62 = b 62 ∧ h_i h 63 = b 63 ∧ h_i h 64 = b 64 ∧ h_i h 65 = b 65 ∧ h_i h 66 = b 66 ∧ h_i h 67 = b 67 ∧ h_i h 68 = b 68 ∧ h_i h 69 = b 69 ∧ h_i h 70 = b 70 ∧ h_i h 71 = b 71 ∧ h_i h 72 = b 72
def TX (CC : Nat → List Cl2) (h : Hp_) : Prop := ∀ k : Nat, (k : Int) < (h_i h 13 5).toInt → (∀ c ∈ CC k, clO 1 c) ∧ h_i h 39 k = Int32.ofNat (rlN (CC k)) ∧ rlN (CC k) ≤ 164 ∧ ∀ i v, (rlX 1 0 (CC k))[i]? = some v → h_i h 40 (164 * k + i) = v
/-- what it hangs on, in the class -/
def PE (E : Enl) (h : Hp_) : Prop := (∀ j : Nat, j < E.2.2.1 → h_i h (401 + j) 0 = Int32.ofNat j ∧ h_i h (401 + j) 1 = E.2.2.2 j ∧ h_r h 15 j = some (401 + j)) ∧ (h_i h 0 7 = Int32.ofNat E.2.2.1 ∧ E.2.2.1 ≤ 12) ∧ wI h = E.2.1 ∧ TX E.1 h
def PBl (E : Enl) (b : Bl) (h : Hp_) : Prop := (∀ a ∈ lkS, h_i h a = b a) ∧ Rws b h ∧ PE E h
theorem TX.cg {CC : Nat → List Cl2} {h h' : Hp_} (t : TX CC h) (a : h_i h' 13 5 = h_i h 13 5) (b : ∀ k, h_i h' 39 k = h_i h 39 k) (c : ∀ k, h_i h' 40 k = h_i h 40 k) : TX CC h' := fun k hk => by
  rw [a] at hk
  have t := t k hk
  refine ⟨t.1, by rw [b]; exact t.2.1, t.2.2.1, fun i v e => ?_⟩
  rw [c]
  exact t.2.2.2 i v e
theorem PE.cg {E : Enl} {h h' : Hp_} (p : PE E h) (m : ∀ j : Nat, j < 12 → h_i h' (401 + j) 0 = h_i h (401 + j) 0 ∧ h_i h' (401 + j) 1 = h_i h (401 + j) 1 ∧ h_r h' 15 j = h_r h 15 j) (z : h_i h' 0 7 = h_i h 0 7) (w : ∀ k, h_i h' 30 k = h_i h 30 k) (a : h_i h' 13 5 = h_i h 13 5) (b : ∀ k, h_i h' 39 k = h_i h 39 k) (c : ∀ k, h_i h' 40 k = h_i h 40 k) : PE E h' := by
  refine ⟨fun j hj => ?_, ⟨by rw [z]; exact p.2.1.1, p.2.1.2⟩, ?_, p.2.2.2.cg a b c⟩
  · have q := m j (by have := p.2.1.2; omega)
    rw [q.1, q.2.1, q.2.2]
    exact p.1 j hj
  · rw [← p.2.2.1]
    funext x y
    unfold wI
    rw [w]
def peo (ws : List Nat) : Bool := !inw ws 0 7 && off ws 15 && off ws 30 && !inw ws 13 5 && off ws 39 && off ws 40 && !inw ws 401 0 && !inw ws 401 1
theorem PE.fr {E : Enl} {ws : List Nat} {h h' : Hp_} (p : PE E h) (f : Fr ws h h') (o : peo ws = true) : PE E h' := by
  unfold peo at o
  simp only [Bool.and_eq_true, Bool.not_eq_true'] at o
  obtain ⟨⟨⟨⟨⟨⟨⟨o1, o2⟩, o3⟩, o4⟩, o5⟩, o6⟩, o7⟩, o8⟩ := o
  refine p.cg (fun j hj => ?_) (f.2 0 7 o1).1 (fun k => fr_i f o3 k) (f.2 13 5 o4).1 (fun k => fr_i f o5 k) (fun k => fr_i f o6 k)
  have c1 : cn (401 + j) = cn 401 := (cn_man hj).trans (by decide)
  exact ⟨(f.2 (401 + j) 0 (by rw [inw_ce c1]; exact o7)).1, (f.2 (401 + j) 1 (by rw [inw_ce c1]; exact o8)).1, (f.2 15 j (off_inw o2 j)).2.2⟩
theorem PBl.fr {E : Enl} {b : Bl} {ws : List Nat} {h h' : Hp_} (p : PBl E b h) (f : Fr ws h h') (o : (peo ws && lkS.all (fun a => off ws a) && [17, 18, 62, 63, 64, 65, 66, 67, 68, 69, 70, 71, 72].all (fun a => off ws a)) = true) : PBl E b h' := by
  rw [Bool.and_eq_true, Bool.and_eq_true] at o
  have g : ∀ a, a ∈ [17, 18, 62, 63, 64, 65, 66, 67, 68, 69, 70, 71, 72] → h_i h' a = h_i h a := fun a ha => funext (fun k => fr_i f (List.all_eq_true.mp o.2 a ha) k)
  refine ⟨fun a ha => (funext (fun k => fr_i f (List.all_eq_true.mp o.1.2 a ha) k)).trans (p.1 a ha), ?_, p.2.2.fr f o.1.1⟩
  obtain ⟨r1, r2, r3, r4, r5, r6, r7, r8, r9, r10, r11, r12, r13⟩ := p.2.1
  exact ⟨(g 17 (by decide)).trans r1, (g 18 (by decide)).trans r2, (g 62 (by decide)).trans r3, (g 63 (by decide)).trans r4, (g 64 (by decide)).trans r5, (g 65 (by decide)).trans r6, (g 66 (by decide)).trans r7, (g 67 (by decide)).trans r8, (g 68 (by decide)).trans r9, (g 69 (by decide)).trans r10, (g 70 (by decide)).trans r11, (g 71 (by decide)).trans r12, (g 72 (by decide)).trans r13⟩
/-- stores elsewhere -/
theorem PBl.im {E : Enl} {b : Bl} {h : Hp_} {a k : Nat} {x : Int32} (p : PBl E b h) (o : (401 ≤ a ∧ a ≤ 412 ∧ 4 ≤ k) ∨ (47 ≤ a ∧ a ≤ 53) ∨ (a = 16 ∧ k = 7) ∨ (a = 0 ∧ k = 0)) : PBl E b (h_im h a k x) := by
  have g : ∀ c, c ∈ [13, 21, 37, 38, 57, 58, 59, 60, 61, 104, 105, 106, 107, 17, 18, 62, 63, 64, 65, 66, 67, 68, 69, 70, 71, 72, 30, 39, 40] → h_i (h_im h a k x) c = h_i h c := fun c hc => im_oth (fun e => by
    subst e
    have z : [13, 21, 37, 38, 57, 58, 59, 60, 61, 104, 105, 106, 107, 17, 18, 62, 63, 64, 65, 66, 67, 68, 69, 70, 71, 72, 30, 39, 40].all (fun c => decide (¬ ((401 ≤ c ∧ c ≤ 412) ∨ (47 ≤ c ∧ c ≤ 53) ∨ c = 16 ∨ c = 0))) = true := by decide
    have y := of_decide_eq_true (List.all_eq_true.mp z c hc)
    omega)
  have sm : ∀ c, c ∈ lkS → c ∈ [13, 21, 37, 38, 57, 58, 59, 60, 61, 104, 105, 106, 107, 17, 18, 62, 63, 64, 65, 66, 67, 68, 69, 70, 71, 72, 30, 39, 40] := fun c hc => by
    have z : lkS.all (fun c => decide (c ∈ [13, 21, 37, 38, 57, 58, 59, 60, 61, 104, 105, 106, 107, 17, 18, 62, 63, 64, 65, 66, 67, 68, 69, 70, 71, 72, 30, 39, 40])) = true := by decide
    exact of_decide_eq_true (List.all_eq_true.mp z c hc)
  have ne : ∀ c j : Nat, ¬ (a = c ∧ k = j) → h_i (h_im h a k x) c j = h_i h c j := fun c j n => by rw [h_i_im, if_neg (fun e => n ⟨e.1.symm, e.2.symm⟩)]
  obtain ⟨r1, r2, r3, r4, r5, r6, r7, r8, r9, r10, r11, r12, r13⟩ := p.2.1
  refine ⟨fun c hc => (g c (sm c hc)).trans (p.1 c hc), ⟨(g 17 (by decide)).trans r1, (g 18 (by decide)).trans r2, (g 62 (by decide)).trans r3, (g 63 (by decide)).trans r4, (g 64 (by decide)).trans r5, (g 65 (by decide)).trans r6, (g 66 (by decide)).trans r7, (g 67 (by decide)).trans r8, (g 68 (by decide)).trans r9, (g 69 (by decide)).trans r10, (g 70 (by decide)).trans r11, (g 71 (by decide)).trans r12, (g 72 (by decide)).trans r13⟩, p.2.2.cg (fun j hj => ⟨ne _ _ (by omega), ne _ _ (by omega), rfl⟩) (ne _ _ (by omega)) (fun k => by rw [g 30 (by decide)]) (by rw [g 13 (by decide)]) (fun k => by rw [g 39 (by decide)]) (fun k => by rw [g 40 (by decide)])⟩
theorem PBl.cs {E : Enl} {b : Bl} {h h' : Hp_} (p : PBl E b h) (i : ∀ a k, (a = 0 → k = 7) → (a < 200 ∨ (401 ≤ a ∧ a ≤ 412)) → h_i h' a k = h_i h a k) (r : ∀ k, h_r h' 15 k = h_r h 15 k) : PBl E b h' := by
  have g : ∀ a, a < 200 → a ≠ 0 → h_i h' a = h_i h a := fun a l n => funext (fun k => i a k (fun e => absurd e n) (Or.inl l))
  obtain ⟨r1, r2, r3, r4, r5, r6, r7, r8, r9, r10, r11, r12, r13⟩ := p.2.1
  refine ⟨fun c hc => (g c ?_ ?_).trans (p.1 c hc), ⟨(g 17 (by decide) (by decide)).trans r1, (g 18 (by decide) (by decide)).trans r2, (g 62 (by decide) (by decide)).trans r3, (g 63 (by decide) (by decide)).trans r4, (g 64 (by decide) (by decide)).trans r5, (g 65 (by decide) (by decide)).trans r6, (g 66 (by decide) (by decide)).trans r7, (g 67 (by decide) (by decide)).trans r8, (g 68 (by decide) (by decide)).trans r9, (g 69 (by decide) (by decide)).trans r10, (g 70 (by decide) (by decide)).trans r11, (g 71 (by decide) (by decide)).trans r12, (g 72 (by decide) (by decide)).trans r13⟩, p.2.2.cg (fun j hj => ⟨i _ _ (by omega) (by omega), i _ _ (by omega) (by omega), r j⟩) (i 0 7 (fun _ => rfl) (by omega)) (fun k => i 30 k (by omega) (by omega)) (i 13 5 (by omega) (by omega)) (fun k => i 39 k (by omega) (by omega)) (fun k => i 40 k (by omega) (by omega))⟩
  · have z : lkS.all (fun c => decide (c < 200)) = true := by decide
    exact of_decide_eq_true (List.all_eq_true.mp z c hc)
  · have z : lkS.all (fun c => decide (c ≠ 0)) = true := by decide
    exact of_decide_eq_true (List.all_eq_true.mp z c hc)
/-! LOOKS, the class -/
theorem iq17 {h : Hp_} (I : Iv h) : (0 ≤ (h_i h 17 7).toInt ∧ (h_i h 17 7).toInt ≤ 80) ∧ 0 ≤ (h_i h 17 16).toInt ∧ (h_i h 17 16).toInt ≤ 300 := by
  have a := I.2.1 17 7
  have b := I.2.1 17 16
  rw [show tf 17 7 = (0, 80) by decide +kernel] at a
  rw [show tf 17 16 = (0, 300) by decide +kernel] at b
  exact ⟨⟨a.1, a.2⟩, b.1, b.2⟩
theorem iq18 {h : Hp_} (I : Iv h) : 0 ≤ (h_i h 18 3).toInt ∧ (h_i h 18 3).toInt ≤ 30 := by
  have a := I.2.1 18 3
  rw [show tf 18 3 = (0, 30) by decide +kernel] at a
  exact ⟨a.1, a.2⟩
theorem ix9 {x y : Int32} (b : 0 ≤ x.toInt ∧ x.toInt ≤ 299) {t : Nat} (ey : y.toInt = (t : Int)) (ht : t ≤ 8) : vp_in (x * 9 + y) 2700 ∧ (x * 9 + y).toNatClampNeg = 9 * x.toNatClampNeg + t ∧ (x * 9 + y).toInt = 9 * x.toInt + t := by
  have t9 : (9 : Int32).toInt = 9 := rfl
  have m1 : (x * 9).toInt = 9 * x.toInt := by rw [tx_mul (by rw [t9]; omega) (by rw [t9]; omega), t9]; omega
  have m2 : (x * 9 + y).toInt = 9 * x.toInt + t := by rw [tx_add (by omega) (by omega), m1, ey]
  have nx := n_nat b.1
  have ny := n_nat (x := x * 9 + y) (by omega)
  exact ⟨dp_in (lo := 0) (hi := 2699) ⟨by show (0 : Int) ≤ _; omega, by show _ ≤ (2699 : Int); omega⟩ (by decide) (by decide), by omega, m2⟩
theorem ix90 {x : Int32} (b : 0 ≤ x.toInt ∧ x.toInt ≤ 299) : vp_in (x * 9) 2700 ∧ (x * 9).toNatClampNeg = 9 * x.toNatClampNeg := by
  have t9 : (9 : Int32).toInt = 9 := rfl
  have m1 : (x * 9).toInt = 9 * x.toInt := by rw [tx_mul (by rw [t9]; omega) (by rw [t9]; omega), t9]; omega
  have nx := n_nat b.1
  have ny := n_nat (x := x * 9) (by omega)
  exact ⟨dp_in (lo := 0) (hi := 2699) ⟨by show (0 : Int) ≤ _; omega, by show _ ≤ (2699 : Int); omega⟩ (by decide) (by decide), by omega⟩
theorem v300 {x : Int32} (b : 0 ≤ x.toInt ∧ x.toInt ≤ 299) : vp_in x 300 := dp_in (lo := 0) (hi := 299) ⟨b.1, b.2⟩ (by decide) (by decide)
theorem fq_le {h : Hp_} (I : Iv h) {f : Nat} (hf : (f : Int) < (h_i h 17 7).toInt) : 0 ≤ Int32.ofNat f ∧ Int32.ofNat f ≤ h_i h 17 7 - 1 := by
  have r := iq17 I
  have of := on_j (n := f) (by omega)
  have t1 : (1 : Int32).toInt = 1 := rfl
  refine ⟨q_le.mpr ?_, q_le.mpr ?_⟩
  · rw [show (0 : Int32).toInt = 0 from rfl]
    omega
  · rw [tx_sub (by rw [t1]; omega) (by rw [t1]; omega), t1]
    omega
theorem c_cbs (d : Nat) {h : Hp_} (I : Iv h) {f : Nat} (hf : (f : Int) < (h_i h 17 7).toInt) (x2 x3 : Int32) : Ci (m_X4_canBeSeen (d + 1) 0 0) [.ref 17, .int (Int32.ofNat f), .int x2, .int x3] h (fun r h' => h' = h ∧ ((csn f x2 x3 (h_i h) ∧ r = 1) ∨ (¬ csn f x2 x3 (h_i h) ∧ r = 0))) := by
  have r := iq17 I
  have of := on_j (n := f) (by omega)
  have kf := on_k (n := f) (by omega)
  have v : vp_in (Int32.ofNat f) 80 := on_in (by omega) (by decide)
  have t1 : (1 : Int32).toInt = 1 := rfl
  have t0 : (0 : Int32).toInt = 0 := rfl
  refine t_X4_canBeSeen d h I.1 _ x2 x3 _ ⟨fun z => absurd (fq_le I hf) z, fun _ => ⟨fun z => ⟨rfl, Or.inr ⟨fun y => y.1 z, rfl⟩⟩, fun a1 => ⟨v, ?_⟩⟩⟩
  rw [kf]
  exact ⟨fun z => ⟨rfl, Or.inr ⟨fun y => z y.2.1, rfl⟩⟩, fun a2 => ⟨v, fun z => ⟨rfl, Or.inr ⟨fun y => z y.2.2.1, rfl⟩⟩, fun a3 => ⟨v, v, fun z => ⟨rfl, Or.inr ⟨fun y => z y.2.2.2, rfl⟩⟩, fun a4 => ⟨rfl, Or.inl ⟨⟨a1, a2, a3, a4⟩, rfl⟩⟩⟩⟩⟩
theorem iq65 {h : Hp_} (I : Iv h) (k : Nat) {x : Int32} (b : rin x.toInt (0, 79)) : Iv (h_im h 65 k x) := I.im (by rw [tfa_tf (show tfa 65 = some (0, 79) by decide +kernel)]; exact b) (jw_jr (by decide) (by decide) _)
theorem iq63 {h : Hp_} (I : Iv h) (k : Nat) {x : Int32} (b : rin x.toInt (0, 1)) : Iv (h_im h 63 k x) := I.im (by rw [tfa_tf (show tfa 63 = some (0, 1) by decide +kernel)]; exact b) (jw_jr (by decide) (by decide) _)
theorem iq71 {h : Hp_} (I : Iv h) (k : Nat) {x : Int32} (b : rin x.toInt (0, 9)) : Iv (h_im h 71 k x) := I.im (by rw [tfa_tf (show tfa 71 = some (0, 9) by decide +kernel)]; exact b) (jw_jr (by decide) (by decide) _)
theorem i1716 {h : Hp_} (I : Iv h) {x : Int32} (b : rin x.toInt (0, 300)) : Iv (h_im h 17 16 x) := I.im (by rw [show tf 17 16 = (0, 300) by decide +kernel]; exact b) (jw_jr (by decide) (by decide) _)
theorem i178 {h : Hp_} (I : Iv h) (x : Int32) : Iv (h_im h 17 8 x) := I.im (by rw [show tf 17 8 = rtop by decide +kernel]; exact rtop_in _) (jw_jr (by decide) (by decide) _)
theorem i183 {h : Hp_} (I : Iv h) {x : Int32} (b : rin x.toInt (0, 30)) : Iv (h_im h 18 3 x) := I.im (by rw [show tf 18 3 = (0, 30) by decide +kernel]; exact b) (jw_jr (by decide) (by decide) _)
/-- the letters but the class and the company -/
def lt7 (r : Nat → Int32) (i : Nat) (v0 v1 v2 v3 v4 v7 v8 : Int32) : Nat → Int32 := up1 (up1 (up1 (up1 (up1 (up1 (up1 r (9 * i) v0) (9 * i + 1) v1) (9 * i + 2) v2) (9 * i + 3) v3) (9 * i + 4) v4) (9 * i + 7) v7) (9 * i + 8) v8
def Wrq (x1 : Int32) (f : Nat) (n : Int32) (h h' : Hp_) : Prop := Iv h' ∧ Fr wz_X4_write h h' ∧ h_i h' 17 = up1 (h_i h 17) 16 (h_i h 17 16 + 1) ∧ h_i h' 62 = up1 (h_i h 62) f (h_i h 62 f + 1) ∧ h_i h' 64 = up1 (h_i h 64) (nsB (h_i h)) x1 ∧ h_i h' 65 = up1 (h_i h 65) (nsB (h_i h)) (Int32.ofNat f) ∧ h_i h' 66 = up1 (h_i h 66) (nsB (h_i h)) n ∧ h_i h' 67 = up1 (h_i h 67) (nsB (h_i h)) 0 ∧ h_i h' 68 = up1 (h_i h 68) (nsB (h_i h)) (-1) ∧ h_i h' 69 = up1 (h_i h 69) (nsB (h_i h)) (-1) ∧ h_i h' 70 = lt7 (h_i h 70) (nsB (h_i h)) (h_i h 57 f) (h_i h 61 f) (h_i h 58 f) (hrN n) (n / 1440) (h_i h 62 f) (n - h_i h 59 f)
theorem c_wrt (d : Nat) {h : Hp_} (I : Iv h) {f : Nat} (hf : (f : Int) < (h_i h 17 7).toInt) (ns : ¬ 300 ≤ h_i h 17 16) (x1 n : Int32) : Ci (m_X4_write (d + 1) 0 0) [.ref 17, .int x1, .int (Int32.ofNat f), .int n] h (fun r h' => r = h_i h 17 16 ∧ Wrq x1 f n h h') := by
  have r := iq17 I
  have of := on_j (n := f) (by omega)
  have kf := on_k (n := f) (by omega)
  have v : vp_in (Int32.ofNat f) 80 := on_in (by omega) (by decide)
  have ns := q_nle ns
  have t300 : (300 : Int32).toInt = 300 := rfl
  have t1 : (1 : Int32).toInt = 1 := rfl
  have b : 0 ≤ (h_i h 17 16).toInt ∧ (h_i h 17 16).toInt ≤ 299 := ⟨r.2.1, by omega⟩
  have vi := v300 b
  have j0 := ix90 b
  have j1 := ix9 b (y := 1) (t := 1) rfl (by decide)
  have j2 := ix9 b (y := 2) (t := 2) rfl (by decide)
  have j3 := ix9 b (y := 3) (t := 3) rfl (by decide)
  have j4 := ix9 b (y := 4) (t := 4) rfl (by decide)
  have j7 := ix9 b (y := 7) (t := 7) rfl (by decide)
  have j8 := ix9 b (y := 8) (t := 8) rfl (by decide)
  have e16 : (h_i h 17 16 + 1).toInt = (h_i h 17 16).toInt + 1 := by rw [tx_add (by rw [t1]; omega) (by rw [t1]; omega), t1]
  refine t_X4_write d h I.1 x1 _ n _ ⟨fun z => ?_, fun _ => ⟨fun _ => ⟨vi, vi, vi, vi, vi, vi, v, j0.1, v, j1.1, v, j2.1, j3.1, j4.1, v, j7.1, v, j8.1, v, v, ?_⟩, fun z => absurd (fq_le I hf) z⟩⟩
  · have z := q_le.mp z
    omega
  · rw [kf, j0.2, j1.2.1, j2.2.1, j3.2.1, j4.2.1, j7.2.1, j8.2.1]
    refine ⟨rfl, ?_, ?_, ?_, ?_, ?_, ?_, ?_, ?_, ?_, ?_, ?_⟩
    · refine tr_ 62 (by decide +kernel) (tr_ 70 (by decide +kernel) (tr_ 70 (by decide +kernel) (tr_ 70 (by decide +kernel) (tr_ 70 (by decide +kernel) (tr_ 70 (by decide +kernel) (tr_ 70 (by decide +kernel) (tr_ 70 (by decide +kernel) (i1716 (tr_ 69 (by decide +kernel) (tr_ 68 (by decide +kernel) (tr_ 67 (by decide +kernel) (tr_ 66 (by decide +kernel) (iq65 (tr_ 64 (by decide +kernel) I _ _ (by decide) (by decide)) _ ?_) _ _ (by decide) (by decide)) _ _ (by decide) (by decide)) _ _ (by decide) (by decide)) _ _ (by decide) (by decide)) ?_) _ _ (by decide) (by decide)) _ _ (by decide) (by decide)) _ _ (by decide) (by decide)) _ _ (by decide) (by decide)) _ _ (by decide) (by decide)) _ _ (by decide) (by decide)) _ _ (by decide) (by decide)) _ _ (by decide) (by decide)
      · exact ⟨by rw [of]; show (0 : Int) ≤ _; omega, by rw [of]; show _ ≤ (79 : Int); omega⟩
      · exact ⟨by rw [e16]; show (0 : Int) ≤ _; omega, by rw [e16]; show _ ≤ (300 : Int); omega⟩
    · exact ((((((((((((((((Fr.rf _ _).im (inw_row (by decide +kernel) _)).im (inw_row (by decide +kernel) _)).im (inw_row (by decide +kernel) _)).im (inw_row (by decide +kernel) _)).im (inw_row (by decide +kernel) _)).im (inw_row (by decide +kernel) _)).im (by decide +kernel)).im (inw_row (by decide +kernel) _)).im (inw_row (by decide +kernel) _)).im (inw_row (by decide +kernel) _)).im (inw_row (by decide +kernel) _)).im (inw_row (by decide +kernel) _)).im (inw_row (by decide +kernel) _)).im (inw_row (by decide +kernel) _)).im (inw_row (by decide +kernel) _))
    · repeat first | rw [im_row] | rw [im_oth (by decide)]
    · repeat first | rw [im_row] | rw [im_oth (by decide)]
    · repeat first | rw [im_row] | rw [im_oth (by decide)]
    · repeat first | rw [im_row] | rw [im_oth (by decide)]
    · repeat first | rw [im_row] | rw [im_oth (by decide)]
    · repeat first | rw [im_row] | rw [im_oth (by decide)]
    · repeat first | rw [im_row] | rw [im_oth (by decide)]
    · repeat first | rw [im_row] | rw [im_oth (by decide)]
    · repeat first | rw [im_row] | rw [im_oth (by decide)]
      rfl
theorem c_has4 (d : Nat) {h : Hp_} (w : Wf h) {x1 : Int32} (b : 0 ≤ x1.toInt ∧ x1.toInt < (h_i h 17 16).toInt) : Ci (m_X4_has (d + 0) 0 0) [.ref 17, .int x1] h (fun r h' => r = 1 ∧ h' = h) := t_X4_has d h w x1 _ ⟨fun z => by
  have z := q_lt.mp z
  rw [show (0 : Int32).toInt = 0 from rfl] at z
  omega, fun _ => ⟨fun z => by
  have z := q_le.mp z
  omega, fun _ => ⟨rfl, rfl⟩⟩⟩
theorem c_sl (d : Nat) {h : Hp_} (I : Iv h) {x1 : Int32} (b : 0 ≤ x1.toInt ∧ x1.toInt < (h_i h 17 16).toInt) (x2 : Int32) {t : Nat} (e2 : x2.toInt = (t : Int)) (ht : t ≤ 8) (x3 : Int32) : Cv (m_X4_setLetter (d + 1) 0 0) [.ref 17, .int x1, .int x2, .int x3] h (fun h' => Iv h' ∧ h' = h_im h 70 (9 * x1.toNatClampNeg + t) x3) := by
  have r := iq17 I
  have j := ix9 (x := x1) ⟨b.1, by omega⟩ e2 ht
  have l8 : 0 ≤ x2 ∧ x2 ≤ 8 := ⟨q_le.mpr (by rw [show (0 : Int32).toInt = 0 from rfl]; omega), q_le.mpr (by rw [show (8 : Int32).toInt = 8 from rfl]; omega)⟩
  refine t_X4_setLetter d h I.1 x1 x2 x3 _ (Ci.mono (c_has4 d I.1 b) (fun r h' k => ?_))
  rw [k.1, k.2]
  refine ⟨I.1, fun z => absurd z (by decide), fun _ => ⟨fun z => absurd l8 z, fun _ => ⟨j.1, ?_⟩⟩⟩
  rw [j.2.1]
  exact ⟨tr_ 70 (by decide +kernel) I _ _ (by decide) (by decide), rfl⟩
theorem c_cma (d : Nat) {h : Hp_} (I : Iv h) {m : Nat} (em : h_i h 0 7 = Int32.ofNat m) (m12 : m ≤ 12) (mr : ∀ j, j < m → h_r h 15 j = some (401 + j)) (x1 : Int32) : Ci (m_X11_countMenAt (d + 0) 0 0) [.ref 0, .int x1] h (fun r h' => h' = h ∧ r = cAt (fun k => h_i h (401 + k) 5) x1 m) := by
  have lp : ∀ (n i : Nat), i + n = m → AW (m_X11_countMenAt (d + 0) 0 0) 0 0 4 [(0, .ref 0), (1, .int x1), (2, .int (cAt (fun k => h_i h (401 + k) 5) x1 i)), (3, .int (Int32.ofNat i))] [] h (kI (fun r h' => h' = h ∧ r = cAt (fun k => h_i h (401 + k) 5) x1 m)) := by
    intro n
    induction n with
    | zero =>
      intro i e
      refine t_X11_countMenAt_4 d h I.1 x1 _ _ _ ⟨fun _ => ⟨rfl, by rw [← e]; rfl⟩, fun z => ?_⟩
      have z := q_nle z
      rw [em, on_j (by omega), on_j (by omega)] at z
      omega
    | succ n ih =>
      intro i e
      have ki := on_k (n := i) (by omega)
      have vi : vp_in (Int32.ofNat i) 12 := on_in (by omega) (by decide)
      refine t_X11_countMenAt_4 d h I.1 x1 _ _ _ ⟨fun z => ?_, fun _ => ⟨vi, fun z => ?_, fun b3 e3 => ?_⟩⟩
      · have z := q_le.mp z
        rw [em, on_j (by omega), on_j (by omega)] at z
        omega
      · rw [ki, mr i (by omega)] at z
        cases z
      · rw [ki, mr i (by omega)] at e3
        have e3 := Option.some.inj e3
        subst e3
        have sh : h_sh h (401 + i) = some (12, 17) := by
          rcases I.2.2.1 i with u | ⟨c, u, w⟩
          · rw [mr i (by omega)] at u
            cases u
          · rw [mr i (by omega)] at u
            rw [Option.some.inj u]
            exact w.2.2
        have y := ih (i + 1) (by omega)
        rw [← on_s (by omega)] at y
        refine ⟨sh, by omega, vi, fun z => ?_, fun z => ?_⟩
        · rw [show cAt (fun k => h_i h (401 + k) 5) x1 (i + 1) = cAt (fun k => h_i h (401 + k) 5) x1 i from if_neg z] at y
          exact y
        · rw [show cAt (fun k => h_i h (401 + k) 5) x1 (i + 1) = cAt (fun k => h_i h (401 + k) 5) x1 i + 1 from if_pos z] at y
          exact y
  exact t_X11_countMenAt d h x1 _ (lp m 0 (by omega))
/-- settle: what, to which case, the walk -/
def Stq (x1 x2 x3 x4 : Int32) (h h' : Hp_) : Prop := Iv h' ∧ Fr wz_X4_settle h h' ∧ h_i h' 67 = up1 (h_i h 67) x1.toNatClampNeg x2 ∧ h_i h' 68 = up1 (h_i h 68) x1.toNatClampNeg x3 ∧ h_i h' 69 = (if ¬ x2 ≤ 1 ∧ ¬ x4 = -1 then up1 (h_i h 69) x1.toNatClampNeg (h_i h 66 x1.toNatClampNeg + x4) else h_i h 69) ∧ h_i h' 63 = (if x2 = 3 then up1 (h_i h 63) (h_i h 65 x1.toNatClampNeg).toNatClampNeg 1 else h_i h 63) ∧ h_i h' 17 = (if x2 = 3 then up1 (h_i h 17) 8 (h_i h 17 8 + 1) else h_i h 17)
theorem c_stl (d : Nat) {h : Hp_} (I : Iv h) {x1 : Int32} (b : 0 ≤ x1.toInt ∧ x1.toInt < (h_i h 17 16).toInt) (x2 x3 x4 : Int32) : Cv (m_X4_settle (d + 1) 0 0) [.ref 17, .int x1, .int x2, .int x3, .int x4] h (fun h' => Stq x1 x2 x3 x4 h h') := by
  have r := iq17 I
  have v := v300 (x := x1) ⟨b.1, by omega⟩
  have vf : vp_in (h_i h 65 x1.toNatClampNeg) 80 := dp_in (dp_rg I 65 _ (show tfa 65 = some (0, 79) by decide +kernel)) (by decide) (by decide)
  have I68 : Iv (h_im (h_im h 67 x1.toNatClampNeg x2) 68 x1.toNatClampNeg x3) := tr_ 68 (by decide +kernel) (tr_ 67 (by decide +kernel) I _ _ (by decide) (by decide)) _ _ (by decide) (by decide)
  have F68 : Fr wz_X4_settle h (h_im (h_im h 67 x1.toNatClampNeg x2) 68 x1.toNatClampNeg x3) := ((Fr.rf _ _).im (inw_row (by decide +kernel) _)).im (inw_row (by decide +kernel) _)
  have I69 : Iv (h_im (h_im (h_im h 67 x1.toNatClampNeg x2) 68 x1.toNatClampNeg x3) 69 x1.toNatClampNeg (h_i h 66 x1.toNatClampNeg + x4)) := tr_ 69 (by decide +kernel) I68 _ _ (by decide) (by decide)
  have F69 : Fr wz_X4_settle h (h_im (h_im (h_im h 67 x1.toNatClampNeg x2) 68 x1.toNatClampNeg x3) 69 x1.toNatClampNeg (h_i h 66 x1.toNatClampNeg + x4)) := F68.im (inw_row (by decide +kernel) _)
  have nb : vp_nar .boolean 1 = (1 : Int32) := by decide
  refine t_X4_settle d h I.1 x1 x2 x3 x4 _ (Ci.mono (c_has4 d I.1 b) (fun r h' k => ?_))
  rw [k.1, k.2]
  refine ⟨I.1, fun _ => ⟨v, v, fun y => ⟨fun n => ?_, fun e => ?_⟩, fun y => ⟨fun w => ⟨fun n => ?_, fun e => ⟨v, vf, ?_⟩⟩, fun w => ⟨v, v, fun n => ?_, fun e => ⟨v, vf, ?_⟩⟩⟩⟩, fun z => absurd z (by decide)⟩
  · refine ⟨I68, F68, ?_, ?_, ?_, ?_, ?_⟩
    · repeat first | rw [im_row] | rw [im_oth (by decide)]
    · repeat first | rw [im_row] | rw [im_oth (by decide)]
    · rw [if_neg (fun u => u.1 y)]
      repeat first | rw [im_row] | rw [im_oth (by decide)]
    · rw [if_neg n]
      repeat first | rw [im_row] | rw [im_oth (by decide)]
    · rw [if_neg n]
      repeat first | rw [im_row] | rw [im_oth (by decide)]
  · rw [e] at y
    exact absurd y (by decide)
  · refine ⟨I68, F68, ?_, ?_, ?_, ?_, ?_⟩
    · repeat first | rw [im_row] | rw [im_oth (by decide)]
    · repeat first | rw [im_row] | rw [im_oth (by decide)]
    · rw [if_neg (fun u => u.2 w)]
      repeat first | rw [im_row] | rw [im_oth (by decide)]
    · rw [if_neg n]
      repeat first | rw [im_row] | rw [im_oth (by decide)]
    · rw [if_neg n]
      repeat first | rw [im_row] | rw [im_oth (by decide)]
  · rw [nb]
    refine ⟨i178 (iq63 I68 _ ⟨by decide, by decide⟩) _, (F68.im (inw_row (by decide +kernel) _)).im (by decide +kernel), ?_, ?_, ?_, ?_, ?_⟩
    · repeat first | rw [im_row] | rw [im_oth (by decide)]
    · repeat first | rw [im_row] | rw [im_oth (by decide)]
    · rw [if_neg (fun u => u.2 w)]
      repeat first | rw [im_row] | rw [im_oth (by decide)]
    · rw [if_pos e]
      repeat first | rw [im_row] | rw [im_oth (by decide)]
    · rw [if_pos e]
      repeat first | rw [im_row] | rw [im_oth (by decide)]
  · refine ⟨I69, F69, ?_, ?_, ?_, ?_, ?_⟩
    · repeat first | rw [im_row] | rw [im_oth (by decide)]
    · repeat first | rw [im_row] | rw [im_oth (by decide)]
    · rw [if_pos ⟨y, w⟩]
      repeat first | rw [im_row] | rw [im_oth (by decide)]
    · rw [if_neg n]
      repeat first | rw [im_row] | rw [im_oth (by decide)]
    · rw [if_neg n]
      repeat first | rw [im_row] | rw [im_oth (by decide)]
  · rw [nb]
    refine ⟨i178 (iq63 I69 _ ⟨by decide, by decide⟩) _, (F69.im (inw_row (by decide +kernel) _)).im (by decide +kernel), ?_, ?_, ?_, ?_, ?_⟩
    · repeat first | rw [im_row] | rw [im_oth (by decide)]
    · repeat first | rw [im_row] | rw [im_oth (by decide)]
    · rw [if_pos ⟨y, w⟩]
      repeat first | rw [im_row] | rw [im_oth (by decide)]
    · rw [if_pos e]
      repeat first | rw [im_row] | rw [im_oth (by decide)]
    · rw [if_pos e]
      repeat first | rw [im_row] | rw [im_oth (by decide)]
theorem c_kof (d : Nat) {h : Hp_} (I : Iv h) {f : Nat} (hf : (f : Int) < (h_i h 17 7).toInt) : Ci (m_X4_kindOf (d + 1) 0 0) [.ref 17, .int (Int32.ofNat f)] h (fun r h' => r = h_i h 57 f ∧ h' = h) := by
  have r := iq17 I
  have of := on_j (n := f) (by omega)
  have kf := on_k (n := f) (by omega)
  refine t_X4_kindOf d h I.1 _ _ ⟨fun z => absurd (fq_le I hf) z, fun _ => ⟨on_in (by omega) (by decide), ?_⟩⟩
  rw [kf]
  exact ⟨rfl, rfl⟩
def Saq (x1 x2 : Int32) (h : Hp_) (r : Int32) (h' : Hp_) : Prop := Iv h' ∧ Fr [18003, 71999, 72999] h h' ∧ r = (if h_i h 18 3 < 30 then h_i h 18 3 else -1) ∧ h_i h' 71 = (if h_i h 18 3 < 30 then up1 (h_i h 71) (h_i h 18 3).toNatClampNeg x1 else h_i h 71) ∧ h_i h' 72 = (if h_i h 18 3 < 30 then up1 (h_i h 72) (h_i h 18 3).toNatClampNeg x2 else h_i h 72) ∧ h_i h' 18 = (if h_i h 18 3 < 30 then up1 (h_i h 18) 3 (h_i h 18 3 + 1) else h_i h 18)
theorem c_sta (d : Nat) {h : Hp_} (I : Iv h) {x1 : Int32} (b : rin x1.toInt (0, 9)) (x2 : Int32) : Ci (m_X1_start (d + 0) 0 0) [.ref 18, .int x1, .int x2] h (Saq x1 x2 h) := by
  have r := iq18 I
  have t1 : (1 : Int32).toInt = 1 := rfl
  have t30 : (30 : Int32).toInt = 30 := rfl
  refine t_X1_start d h I.1 x1 x2 _ ⟨fun y => ?_, fun n => ?_⟩
  · have y' := q_lt.mp y
    have v : vp_in (h_i h 18 3) 30 := dp_in (lo := 0) (hi := 29) ⟨r.1, by show _ ≤ (29 : Int); omega⟩ (by decide) (by decide)
    have e1 : (h_i h 18 3 + 1).toInt = (h_i h 18 3).toInt + 1 := by rw [tx_add (by rw [t1]; omega) (by rw [t1]; omega), t1]
    refine ⟨v, v, i183 (tr_ 72 (by decide +kernel) (iq71 I _ b) _ _ (by decide) (by decide)) ⟨by rw [e1]; show (0 : Int) ≤ _; omega, by rw [e1]; show _ ≤ (30 : Int); omega⟩, (((Fr.rf _ _).im (inw_row (by decide +kernel) _)).im (inw_row (by decide +kernel) _)).im (by decide +kernel), ?_, ?_, ?_, ?_⟩
    · rw [if_pos y, Int32.add_sub_cancel]
    · rw [if_pos y]
      repeat first | rw [im_row] | rw [im_oth (by decide)]
    · rw [if_pos y]
      repeat first | rw [im_row] | rw [im_oth (by decide)]
    · rw [if_pos y]
      repeat first | rw [im_row] | rw [im_oth (by decide)]
  · refine ⟨I, Fr.rf _ _, ?_, ?_, ?_, ?_⟩
    · rw [if_neg n]
    · rw [if_neg n]
    · rw [if_neg n]
    · rw [if_neg n]
theorem c_cls (d : Nat) {h : Hp_} (I : Iv h) {c : Nat} (hc : Cn h c) (x2 x3 : Int32) : Ci (m_X5_classOf (d + 1) 0 0) [.ref 21, .ref c, .int x2, .int x3] h (fun r h' => r = rkv (h_i h 104) (h_i h 105) (h_i h 106) (h_i h 107) (h_i h c 0) x2 x3 (h_i h 21 4).toNatClampNeg 0 (h_i h c 1) (-1) ∧ h' = h) := by
  have a := I.2.1 21 4
  rw [show tf 21 4 = (0, 40) by decide +kernel] at a
  have n := n_nat a.1
  have c1 := hc.1
  exact t_X5_classOf d h c hc.2.2 (by omega) x2 x3 _ (rk_X d I c hc.2.2 (by omega) x2 x3 _ 0 _ _ 0 rfl (by omega))
/-- the act in force says it of the letters from 9 i on -/
theorem c_ans (d : Nat) {E : Enl} {h : Hp_} (I : Iv h) (T : TX E.1 h) {x3 : Int32} (b3 : 0 ≤ x3.toInt ∧ x3.toInt ≤ 299) (dy q : Int32) : Ci (m_X10_answer (d + 2) 0 0) [.ref 13, .int (fob (h_i h 37) (h_i h 38) dy q (h_i h 13 5).toNatClampNeg), .ref 70, .int (x3 * 9)] h (fun r h' => Iv h' ∧ Fr [41999] h h' ∧ r = evB E dy q (h_i h 70) x3.toNatClampNeg (h_i h)) := by
  have c13 := I.2.1 13 5
  rw [show tf 13 5 = (0, 20) by decide +kernel] at c13
  have c0 : 0 ≤ (h_i h 13 5).toInt := c13.1
  have c1 : (h_i h 13 5).toInt ≤ 20 := c13.2
  have n13 := n_nat c0
  have fb := fob_b (h_i h 37) (h_i h 38) dy q (h_i h 13 5).toNatClampNeg (by omega)
  unfold evB foB
  generalize fob (h_i h 37) (h_i h 38) dy q (h_i h 13 5).toNatClampNeg = k at fb
  rcases fb with e | e
  · rw [e]
    refine Ci.mono (c_an0_13 d I _) (fun r h' u => ?_)
    rw [u.1, u.2]
    exact ⟨I, Fr.rf _ _, (if_pos rfl).symm⟩
  · have nk := n_nat e.1
    have ek : Int32.ofNat k.toNatClampNeg = k := of_nat32 e.1
    have t := T k.toNatClampNeg (by omega)
    have nm : ¬ k = -1 := fun z => by
      rw [z] at e
      exact absurd e.1 (by decide)
    have ix : ∀ c, ltb 1 c = true → vp_in (x3 * 9 + ixq 1 (xch c)) 2700 ∧ (x3 * 9 + ixq 1 (xch c)).toNatClampNeg = 9 * x3.toNatClampNeg + (ixq 1 (xch c)).toNatClampNeg ∧ (x3 * 9 + ixq 1 (xch c)).toInt = 9 * x3.toInt + (ixq 1 (xch c)).toNatClampNeg := fun c hc => by
      have b := ix_in (Or.inl rfl) hc
      have b2 : (ixq 1 (xch c)).toInt ≤ 8 := b.2
      have nb := n_nat b.1
      exact ix9 b3 nb.symm (by omega)
    have A := c_an_13 d I (r := k.toNatClampNeg) (by omega) t.1 t.2.1 t.2.2.1 t.2.2.2 (x3 * 9) (fun c hc => by
      have j := ix c hc
      have b := ix_in (Or.inl rfl) hc
      have b2 : (ixq 1 (xch c)).toInt ≤ 8 := b.2
      have nb := n_nat b.1
      refine ⟨q_le.mpr ?_, q_le.mpr ?_⟩
      · rw [show (0 : Int32).toInt = 0 from rfl, j.2.2]
        omega
      · rw [show ((2700 : Int32) - 1).toInt = 2699 from rfl, j.2.2]
        omega) (fun c hc => (ix c hc).1)
    rw [ek] at A
    refine Ci.mono A (fun r h' u => ⟨u.1, u.2.1, ?_⟩)
    rw [u.2.2, if_neg nm]
    refine evC_v (s := 1) (fun c hc => ?_) _ t.1
    show h_i h 70 (x3 * 9 + ixq 1 (xch c)).toNatClampNeg = _
    rw [(ix c hc).2.1]
end
section
/-! LOOKS, the class: see, look, tellNoted; what the men's machine wants of them -/
theorem up1_2 (M : Nat → Int32) (k : Nat) (x y : Int32) : up1 (up1 M k x) k y = up1 M k y := funext (fun j => by
  by_cases e : j = k
  · rw [e, up1_at, up1_at]
  · rw [up1_ne e, up1_ne e, up1_ne e])
theorem look_hi {a : Nat} (h1 : 401 ≤ a) (k : Nat) : inw wz_X11_look a k = false := by
  refine off_inw ?_ k
  unfold off
  refine List.all_eq_true.mpr (fun w hw => ?_)
  have z : wz_X11_look.all (fun w => decide (w ≤ 72999)) = true := by decide
  have y := of_decide_eq_true (List.all_eq_true.mp z w hw)
  have c : 401 ≤ cn a := by
    unfold cn
    cases Nat.ble 401 a && Nat.ble a 412 with
    | true => exact Nat.le_refl _
    | false => exact h1
  have b : Nat.ble (w + 1) (1000 * cn a) = true := Nat.ble_eq_true_of_le (by omega)
  rw [b, Bool.true_or]
/-- a sighting before it is judged: rows of h1 out of those of h -/
theorem c_seeX (d : Nat) {E : Enl} {b : Bl} {h : Hp_} (I : Iv h) (P : PBl E b h) {j : Nat} (hj : j < E.2.2.1) (hc : Cn h (401 + j)) {f : Nat} (hf : (f : Int) < (h_i h 17 7).toInt) {n : Int32} (en : h_i h 0 0 = n) {pl : Nat → Int32} (ep : (fun k => h_i h (401 + k) 5) = pl) (cs : csn f (pl j) n b) : Cv (m_X11_see (d + 4) 0 0) [.ref 0, .ref (401 + j), .int (Int32.ofNat f)] h (fun h' => Iv h' ∧ Fr wz_X11_look h h' ∧ PBl E (sg1 E j n pl f b) h') := by
  obtain ⟨pS, ⟨r17, r18, r62, r63, r64, r65, r66, r67, r68, r69, r70, r71, r72⟩, pE⟩ := P
  have r := iq17 I
  have hm := pE.1 j hj
  have n300 : ¬ 300 ≤ h_i h 17 16 := by rw [r17]; exact cs.1
  have n3 := q_nle n300
  have t300 : (300 : Int32).toInt = 300 := rfl
  have t1 : (1 : Int32).toInt = 1 := rfl
  have b9 : 0 ≤ (h_i h 17 16).toInt ∧ (h_i h 17 16).toInt ≤ 299 := ⟨r.2.1, by omega⟩
  have e16 : (h_i h 17 16 + 1).toInt = (h_i h 17 16).toInt + 1 := by rw [tx_add (by rw [t1]; omega) (by rw [t1]; omega), t1]
  have s57 := pS 57 (by decide)
  have s58 := pS 58 (by decide)
  have s59 := pS 59 (by decide)
  have s61 := pS 61 (by decide)
  have s37 := pS 37 (by decide)
  have s38 := pS 38 (by decide)
  have s13 := pS 13 (by decide)
  have s21 := pS 21 (by decide)
  have s104 := pS 104 (by decide)
  have s105 := pS 105 (by decide)
  have s106 := pS 106 (by decide)
  have s107 := pS 107 (by decide)
  refine t_X11_see d h I.1 (401 + j) hc.2.2 (by omega) _ _ (Ci.mono (c_wrt d I hf n300 _ _) (fun r3 h1 k1 => ?_))
  obtain ⟨er3, I1, F1, w17, w62, w64, w65, w66, w67, w68, w69, w70⟩ := k1
  subst er3
  have sh1 : h_sh h1 (401 + j) = some (12, 17) := by rw [F1.1]; exact hc.2.2
  have u16 : h_i h1 17 16 = h_i h 17 16 + 1 := by rw [w17, up1_at]
  have lt1 : 0 ≤ (h_i h 17 16).toInt ∧ (h_i h 17 16).toInt < (h_i h1 17 16).toInt := ⟨b9.1, by rw [u16, e16]; omega⟩
  have m1 : ∀ k, h_i h1 (401 + j) k = h_i h (401 + j) k := fun k => (F1.2 (401 + j) k (inw_sub (a := wz_X4_write) (b := wz_X11_look) (by decide +kernel) (look_hi (by omega) k))).1
  have n1 : h_i h1 0 0 = n := by rw [(F1.2 0 0 (by decide +kernel)).1]; exact en
  refine ⟨I1.1, sh1, Ci.mono (c_cls d I1 ⟨hc.1, hc.2.1, sh1⟩ _ _) (fun r7 h5 k5 => ?_)⟩
  obtain ⟨e7, e5⟩ := k5
  subst e5
  rw [m1, m1, hm.1, hm.2.1, n1, en, funext (fun k => fr_i F1 (a := 104) (by decide +kernel) k), funext (fun k => fr_i F1 (a := 105) (by decide +kernel) k), funext (fun k => fr_i F1 (a := 106) (by decide +kernel) k), funext (fun k => fr_i F1 (a := 107) (by decide +kernel) k), fr_i F1 (a := 21) (by decide +kernel) 4, s104, s105, s106, s107, s21] at e7
  have e7 : r7 = rkB E j n b := e7
  refine ⟨I1.1, sh1, Cv.mono (c_sl d I1 lt1 5 (t := 5) rfl (by decide) r7) (fun h9 k9 => ?_)⟩
  obtain ⟨I9, e9⟩ := k9
  have F9 : Fr wz_X4_write h h9 := by rw [e9]; exact F1.im (inw_row (by decide +kernel) _)
  have sh9 : h_sh h9 (401 + j) = some (12, 17) := by rw [F9.1]; exact hc.2.2
  have pl9 : (fun k => h_i h9 (401 + k) 5) = pl := by
    rw [← ep]
    exact funext (fun k => (F9.2 (401 + k) 5 (inw_sub (a := wz_X4_write) (b := wz_X11_look) (by decide +kernel) (look_hi (by omega) 5))).1)
  have P9 : PE E h9 := pE.fr F9 (by decide +kernel)
  refine ⟨I9.1, sh9, Ci.mono (c_cma d I9 P9.2.1.1 P9.2.1.2 (fun j hj => (P9.1 j hj).2.2) _) (fun r15 h13 k13 => ?_)⟩
  obtain ⟨e13, e15⟩ := k13
  subst e13
  rw [pl9, show h_i h13 (401 + j) 5 = pl j from congrFun pl9 j] at e15
  have u9 : h_i h13 17 16 = h_i h5 17 16 := by rw [e9]; exact im_ne (by decide)
  refine ⟨I9.1, sh9, Cv.mono (c_sl d I9 ⟨lt1.1, by rw [u9]; exact lt1.2⟩ 6 (t := 6) rfl (by decide) r15) (fun h17 k17 => ?_)⟩
  obtain ⟨I17, e17⟩ := k17
  have F17 : Fr wz_X4_write h h17 := by rw [e17]; exact F9.im (inw_row (by decide +kernel) _)
  have sh17 : h_sh h17 (401 + j) = some (12, 17) := by rw [F17.1]; exact hc.2.2
  have P17 : PE E h17 := pE.fr F17 (by decide +kernel)
  have o17 : ∀ a, a ≠ 70 → h_i h17 a = h_i h5 a := fun a na => by rw [e17, im_oth na, e9, im_oth na]
  have nsb : nsB (h_i h) = nsB b := by show (h_i h 17 16).toNatClampNeg = _; rw [r17]
  have L70 : h_i h17 70 = lrB E j n pl f b := by
    rw [e17, im_row, e9, im_row, w70, e7, e15, nsb, s57, s61, s58, r62, s59, r70, show (h_i h 17 16).toNatClampNeg = nsB b from nsb, en]
    rfl
  refine ⟨I17.1, sh17, Ci.mono (c_inf d I17 _ _) (fun r23 h21 k21 => ?_)⟩
  obtain ⟨e21, e23⟩ := k21
  subst e21
  refine ⟨I17.1, sh17, Ci.mono (c_lenf d 1 (by decide) h21) (fun r27 h25 k25 => ?_)⟩
  obtain ⟨e27, e25⟩ := k25
  subst e25
  have e27 : r27 = 9 := e27
  rw [e27, e23]
  refine ⟨I17.1, sh17, Ci.mono (c_ans d (E := E) I17 P17.2.2.2 b9 _ _) (fun r31 h29 k29 => ?_)⟩
  obtain ⟨I29, F29, e31⟩ := k29
  have n17 : h_i h25 0 0 = n := by rw [(F17.2 0 0 (by decide +kernel)).1]; exact en
  have q31 : r31 = dnB E j n pl f b := by
    rw [e31, n17, en, L70]
    unfold dnB evB foB
    rw [o17 37 (by decide), o17 38 (by decide), o17 13 (by decide), funext (fun k => fr_i F1 (a := 37) (by decide +kernel) k), funext (fun k => fr_i F1 (a := 38) (by decide +kernel) k), fr_i F1 (a := 13) (by decide +kernel) 5, s37, s38, s13, show (h_i h 17 16).toNatClampNeg = nsB b from nsb]
  have F29' : Fr wz_X11_look h h29 := (F17.more (by decide +kernel)).tr (F29.more (by decide +kernel))
  have sh29 : h_sh h29 (401 + j) = some (12, 17) := by rw [F29'.1]; exact hc.2.2
  have o29 : ∀ a, a ≠ 70 → off [41999] a = true → h_i h29 a = h_i h5 a := fun a na oa => by rw [show h_i h29 a = h_i h25 a from funext (fun k => fr_i F29 oa k)]; exact o17 a na
  have L29 : h_i h29 70 = lrB E j n pl f b := by rw [show h_i h29 70 = h_i h25 70 from funext (fun k => fr_i F29 (by decide +kernel) k)]; exact L70
  have pe29 : PE E h29 := pE.fr F29' (by decide +kernel)
  have w29 : wI h29 (h_i h29 (401 + j) 5) 0 = E.2.1 (pl j) 0 := by
    rw [pe29.2.2.1, (F29'.2 (401 + j) 5 (look_hi (by omega) 5)).1, ← ep]
  have a17 : h_i h29 17 = up1 (h_i h 17) 16 (h_i h 17 16 + 1) := by rw [o29 17 (by decide) (by decide +kernel), w17]
  have u29 : 0 ≤ (h_i h 17 16).toInt ∧ (h_i h 17 16).toInt < (h_i h29 17 16).toInt := ⟨b9.1, by rw [a17, up1_at, e16]; omega⟩
  have nn : (h_i h 17 16).toNatClampNeg = nsB b := nsb
  -- what is the same in both cases
  have fin : ∀ (x3 : Int32) (g h' : Hp_), Iv g → Fr [18003, 71999, 72999] h29 g → x3 = (if dnB E j n pl f b = 3 ∧ b 18 3 < 30 then b 18 3 else -1) → h_i g 71 = sg1 E j n pl f b 71 → h_i g 72 = sg1 E j n pl f b 72 → h_i g 18 = sg1 E j n pl f b 18 → Stq (h_i h 17 16) r31 x3 (E.2.1 (pl j) 0) g h' → Wf h' ∧ (Iv h' ∧ Fr wz_X11_look h h' ∧ PBl E (sg1 E j n pl f b) h') := by
    intro x3 g h' Ig Fg ex g71 g72 g18 st
    obtain ⟨I', F', t67, t68, t69, t63, t17⟩ := st
    have Fh : Fr wz_X11_look h h' := (F29'.tr (Fg.more (by decide +kernel))).tr (F'.more (by decide +kernel))
    have og : ∀ a, off [18003, 71999, 72999] a = true → h_i g a = h_i h29 a := fun a oa => funext (fun k => fr_i Fg oa k)
    have ot : ∀ a, off wz_X4_settle a = true → h_i h' a = h_i g a := fun a oa => funext (fun k => fr_i F' oa k)
    refine ⟨I'.1, I', Fh, fun a ha => ?_, ⟨?_, ?_, ?_, ?_, ?_, ?_, ?_, ?_, ?_, ?_, ?_, ?_, ?_⟩, pE.fr Fh (by decide +kernel)⟩
    · rw [sg1_s ha, ← pS a ha]
      have z : lkS.all (fun a => off wz_X11_look a) = true := by decide +kernel
      exact funext (fun k => fr_i Fh (List.all_eq_true.mp z a ha) k)
    · rw [t17, og 17 (by decide +kernel), a17, r17, q31]
      show _ = (if dnB E j n pl f b = 3 then up1 (up1 (b 17) 16 (b 17 16 + 1)) 8 (b 17 8 + 1) else up1 (b 17) 16 (b 17 16 + 1))
      rw [up1_ne (by decide : (8 : Nat) ≠ 16)]
    · rw [ot 18 (by decide +kernel)]
      exact g18
    · rw [ot 62 (by decide +kernel), og 62 (by decide +kernel), o29 62 (by decide) (by decide +kernel), w62, r62]
      rfl
    · rw [t63, og 63 (by decide +kernel), o29 63 (by decide) (by decide +kernel), funext (fun k => fr_i F1 (a := 63) (by decide +kernel) k), r63, q31, og 65 (by decide +kernel), o29 65 (by decide) (by decide +kernel), w65, show nsB (h_i h) = (h_i h 17 16).toNatClampNeg from rfl, up1_at, on_k (n := f) (by omega)]
      rfl
    · rw [ot 64 (by decide +kernel), og 64 (by decide +kernel), o29 64 (by decide) (by decide +kernel), w64, r64, nsb, hm.1]
      rfl
    · rw [ot 65 (by decide +kernel), og 65 (by decide +kernel), o29 65 (by decide) (by decide +kernel), w65, r65, nsb]
      rfl
    · rw [ot 66 (by decide +kernel), og 66 (by decide +kernel), o29 66 (by decide) (by decide +kernel), w66, r66, nsb, en]
      rfl
    · rw [t67, og 67 (by decide +kernel), o29 67 (by decide) (by decide +kernel), w67, nsb, nn, up1_2, r67, q31]
      rfl
    · rw [t68, og 68 (by decide +kernel), o29 68 (by decide) (by decide +kernel), w68, nsb, nn, up1_2, r68, ex]
      rfl
    · rw [t69, og 69 (by decide +kernel), o29 69 (by decide) (by decide +kernel), w69, og 66 (by decide +kernel), o29 66 (by decide) (by decide +kernel), w66, nsb, nn, up1_2, up1_at, r69, q31, en]
      show _ = up1 (b 69) (nsB b) (if ¬ dnB E j n pl f b ≤ 1 ∧ ¬ E.2.1 (pl j) 0 = -1 then n + E.2.1 (pl j) 0 else -1)
      by_cases y : ¬ dnB E j n pl f b ≤ 1 ∧ ¬ E.2.1 (pl j) 0 = -1
      · rw [if_pos y, if_pos y]
      · rw [if_neg y, if_neg y]
    · rw [ot 70 (by decide +kernel), og 70 (by decide +kernel), L29]
      rfl
    · rw [ot 71 (by decide +kernel)]
      exact g71
    · rw [ot 72 (by decide +kernel)]
      exact g72
  have a18 : h_i h29 18 = b 18 := by rw [o29 18 (by decide) (by decide +kernel), funext (fun k => fr_i F1 (a := 18) (by decide +kernel) k), r18]
  have a71 : h_i h29 71 = b 71 := by rw [o29 71 (by decide) (by decide +kernel), funext (fun k => fr_i F1 (a := 71) (by decide +kernel) k), r71]
  have a72 : h_i h29 72 = b 72 := by rw [o29 72 (by decide) (by decide +kernel), funext (fun k => fr_i F1 (a := 72) (by decide +kernel) k), r72]
  refine ⟨I29.1, sh29, fun ne => Ci.mono (c_mn d I29 _ _) (fun r36 h34 k34 => ?_), fun e3 => ?_⟩
  · obtain ⟨e34, e36⟩ := k34
    subst e34
    rw [e36, w29]
    have nd : ¬ (dnB E j n pl f b = 3 ∧ b 18 3 < 30) := fun u => ne (q31.trans u.1)
    refine ⟨I29.1, Cv.mono (c_stl d I29 u29 r31 (-1) _) (fun h37 st => fin _ h34 h37 I29 (Fr.rf _ _) (if_neg nd).symm ?_ ?_ ?_ st)⟩
    · rw [a71]
      exact (if_neg nd).symm
    · rw [a72]
      exact (if_neg nd).symm
    · rw [a18]
      exact (if_neg nd).symm
  · have hf29 : (f : Int) < (h_i h29 17 7).toInt := by rw [a17, up1_ne (by decide)]; exact hf
    have d3 : dnB E j n pl f b = 3 := q31.symm.trans e3
    refine Ci.mono (c_kof d I29 hf29) (fun r42 h40 k40 => ?_)
    obtain ⟨e42, e40⟩ := k40
    subst e40
    have k57 : h_i h40 57 f = b 57 f := by rw [o29 57 (by decide) (by decide +kernel), fr_i F1 (a := 57) (by decide +kernel) f, s57]
    have n40 : h_i h40 0 0 = n := by rw [(F29'.2 0 0 (by decide +kernel)).1]; exact en
    rw [e42]
    refine ⟨I29.1, sh29, Ci.mono (c_sta d I29 (dp_rg I29 57 f (show tfa 57 = some (0, 9) by decide +kernel)) _) (fun r46 h44 k44 => ?_)⟩
    obtain ⟨I44, F44, e46, g71, g72, g18⟩ := k44
    rw [a18, a71, k57] at g71
    rw [a18, a72, n40] at g72
    rw [a18] at g18
    rw [a18] at e46
    have c30 : ∀ {α : Type} (x y : α), (if dnB E j n pl f b = 3 ∧ b 18 3 < 30 then x else y) = (if b 18 3 < 30 then x else y) := fun x y => by
      by_cases u : b 18 3 < 30
      · rw [if_pos ⟨d3, u⟩, if_pos u]
      · rw [if_neg (fun v => u v.2), if_neg u]
    have pe44 : PE E h44 := pe29.fr F44 (by decide +kernel)
    have w44 : wI h44 (h_i h44 (401 + j) 5) 0 = E.2.1 (pl j) 0 := by
      rw [pe44.2.2.1, ← ep]
      show E.2.1 (h_i h44 (401 + j) 5) 0 = E.2.1 (h_i h (401 + j) 5) 0
      rw [(F44.2 (401 + j) 5 (inw_sub (a := [18003, 71999, 72999]) (b := wz_X11_look) (by decide +kernel) (look_hi (by omega) 5))).1, (F29'.2 (401 + j) 5 (look_hi (by omega) 5)).1]
    refine ⟨I44.1, by rw [F44.1]; exact sh29, Ci.mono (c_mn d I44 _ _) (fun r50 h48 k48 => ?_)⟩
    obtain ⟨e48, e50⟩ := k48
    subst e48
    rw [e50, w44]
    have u44 : 0 ≤ (h_i h 17 16).toInt ∧ (h_i h 17 16).toInt < (h_i h48 17 16).toInt := ⟨b9.1, by rw [fr_i F44 (a := 17) (by decide +kernel) 16]; exact u29.2⟩
    refine ⟨I44.1, Cv.mono (c_stl d I44 u44 r31 r46 _) (fun h51 st => fin _ h48 h51 I44 F44 (e46.trans (c30 _ _).symm) ?_ ?_ ?_ st)⟩
    · rw [g71]
      exact (c30 _ _).symm
    · rw [g72]
      exact (c30 _ _).symm
    · rw [g18]
      exact (c30 _ _).symm
theorem sg1_17 {E : Enl} {j : Nat} {n : Int32} {pl : Nat → Int32} {f : Nat} {b : Bl} : sg1 E j n pl f b 17 7 = b 17 7 := by
  show (if dnB E j n pl f b = 3 then up1 (up1 (b 17) 16 (b 17 16 + 1)) 8 (b 17 8 + 1) else up1 (b 17) 16 (b 17 16 + 1)) 7 = b 17 7
  by_cases y : dnB E j n pl f b = 3
  · rw [if_pos y, up1_ne (by decide), up1_ne (by decide)]
  · rw [if_neg y, up1_ne (by decide)]
theorem lkN_17 {E : Enl} {j : Nat} {n : Int32} {pl : Nat → Int32} {b : Bl} : ∀ k, lkN E j n pl k b 17 7 = b 17 7
  | 0 => rfl
  | k + 1 => by
    show lk1 E j n pl k (lkN E j n pl k b) 17 7 = b 17 7
    unfold lk1
    by_cases y : csn k (pl j) n (lkN E j n pl k b)
    · rw [if_pos y, sg1_17, lkN_17 k]
    · rw [if_neg y, lkN_17 k]
theorem c_lookX (d : Nat) {E : Enl} {b : Bl} {h : Hp_} (I : Iv h) (P : PBl E b h) {c : Nat} (hc : Cn h c) : Cv (m_X11_look (d + 5) 0 0) [.ref 0, .ref c] h (fun h' => Iv h' ∧ Fr wz_X11_look h h' ∧ PBl E (lXm (lPB E) c h b) h') := by
  have c1 := hc.1
  have c2 := hc.2.1
  have mm := menX_in I
  have em := P.2.2.2.1
  have hj : c - 401 < E.2.2.1 := by
    refine Decidable.byContradiction (fun n => ?_)
    have z := I.2.2.2.2.2.2.1 (c - 401) (by omega) (by rw [em.1, on_j (by have := em.2; omega)]; omega)
    rw [show 401 + (c - 401) = c by omega, hc.2.2] at z
    cases z
  have ec : 401 + (c - 401) = c := by omega
  generalize hjj : c - 401 = j at *
  have cj : c = 401 + j := ec.symm
  subst cj
  have r := iq17 I
  have n7 := n_nat r.1.1
  have b7 : b 17 7 = h_i h 17 7 := by rw [P.2.1.1]
  have lp : ∀ (k i : Nat) (h2 : Hp_), i + k = (h_i h 17 7).toNatClampNeg → Iv h2 → Fr wz_X11_look h h2 → PBl E (lkN E j (h_i h 0 0) (fun k => h_i h (401 + k) 5) i b) h2 → AW (m_X11_look (d + 5) 0 0) 0 0 2 [(0, .ref 0), (1, .ref (401 + j)), (2, .int (Int32.ofNat i))] [] h2 (kV (fun h' => Iv h' ∧ Fr wz_X11_look h h' ∧ PBl E (lXm (lPB E) (401 + j) h b) h')) := by
    intro k
    induction k with
    | zero =>
      intro i h2 e I2 F2 P2
      have e7 : h_i h2 17 7 = h_i h 17 7 := (F2.2 17 7 (by decide +kernel)).1
      have sh2 : h_sh h2 (401 + j) = some (12, 17) := by rw [F2.1]; exact hc.2.2
      refine t_X11_look_2 d h2 I2.1 (401 + j) sh2 (by omega) _ _ ⟨fun _ => ⟨I2, F2, ?_⟩, fun z => ?_⟩
      · unfold lXm lPB
        rw [hjj, b7, ← e]
        exact P2
      · have z := q_nle z
        rw [e7, on_j (by omega)] at z
        omega
    | succ k ih =>
      intro i h2 e I2 F2 P2
      have e7 : h_i h2 17 7 = h_i h 17 7 := (F2.2 17 7 (by decide +kernel)).1
      have sh2 : h_sh h2 (401 + j) = some (12, 17) := by rw [F2.1]; exact hc.2.2
      have n2 : h_i h2 0 0 = h_i h 0 0 := (F2.2 0 0 (by decide +kernel)).1
      have p2 : (fun k => h_i h2 (401 + k) 5) = (fun k => h_i h (401 + k) 5) := funext (fun k => (F2.2 (401 + k) 5 (look_hi (by omega) 5)).1)
      have oi := on_j (n := i) (by omega)
      have hf : (i : Int) < (h_i h2 17 7).toInt := by rw [e7]; omega
      refine t_X11_look_2 d h2 I2.1 (401 + j) sh2 (by omega) _ _ ⟨fun z => ?_, fun _ => Ci.mono (c_cbs d I2 hf _ _) (fun r4 h4 k4 => ?_)⟩
      · have z := q_le.mp z
        rw [e7, oi] at z
        omega
      · obtain ⟨e4, k4⟩ := k4
        subst e4
        rw [n2, show h_i h4 (401 + j) 5 = h_i h (401 + j) 5 from congrFun p2 j] at k4
        have cq : csn i (h_i h (401 + j) 5) (h_i h 0 0) (h_i h4) ↔ csn i (h_i h (401 + j) 5) (h_i h 0 0) (lkN E j (h_i h 0 0) (fun k => h_i h (401 + k) 5) i b) := by
          unfold csn
          rw [P2.2.1.1, P2.2.1.2.2.2.1, P2.1 58 (by decide), P2.1 59 (by decide), P2.1 60 (by decide)]
        refine ⟨I2.1, sh2, fun z => ?_, fun z => ?_⟩
        · rcases k4 with k4 | k4
          · rw [k4.2] at z
            exact absurd z (by decide)
          · rw [on_s (by omega)]
            refine ih (i + 1) h4 (by omega) I2 F2 ?_
            show PBl E (lk1 E j (h_i h 0 0) (fun k => h_i h (401 + k) 5) i (lkN E j (h_i h 0 0) (fun k => h_i h (401 + k) 5) i b)) h4
            unfold lk1
            rw [if_neg (fun u => k4.1 (cq.mpr u))]
            exact P2
        · rcases k4 with k4 | k4
          · refine Cv.mono (c_seeX d I2 P2 hj ⟨hc.1, hc.2.1, sh2⟩ hf n2 p2 (cq.mp k4.1)) (fun h7 k7 => ⟨k7.1.1, by rw [k7.2.1.1]; exact sh2, ?_⟩)
            rw [on_s (by omega)]
            refine ih (i + 1) h7 (by omega) k7.1 (F2.tr k7.2.1) ?_
            show PBl E (lk1 E j (h_i h 0 0) (fun k => h_i h (401 + k) 5) i (lkN E j (h_i h 0 0) (fun k => h_i h (401 + k) 5) i b)) h7
            unfold lk1
            rw [if_pos (cq.mp k4.1)]
            exact k7.2.2
          · rw [k4.2] at z
            exact absurd rfl z
  exact t_X11_look d h (401 + j) hc.2.2 (by omega) _ (lp (h_i h 17 7).toNatClampNeg 0 h (by omega) I (Fr.rf _ _) P)
theorem tnB_o {x1 x2 : Int32} {b : Bl} {a : Nat} (n : a ≠ 69) : tnB x1 x2 b a = b a := if_neg n
theorem tnK_s (i : Nat) (x1 x2 : Int32) (b : Bl) : tnK (i + 1) x1 x2 b = if b 64 i = x1 ∧ b 67 i = 1 ∧ b 69 i = -1 then up1 (tnK i x1 x2 b) i x2 else tnK i x1 x2 b := by
  funext k
  by_cases y : b 64 i = x1 ∧ b 67 i = 1 ∧ b 69 i = -1
  · rw [if_pos y]
    by_cases e : k = i
    · rw [e, up1_at]
      exact if_pos ⟨by omega, y⟩
    · rw [up1_ne e]
      unfold tnK
      by_cases z : k < i ∧ b 64 k = x1 ∧ b 67 k = 1 ∧ b 69 k = -1
      · rw [if_pos z, if_pos ⟨by omega, z.2⟩]
      · rw [if_neg z, if_neg (fun u => z ⟨by omega, u.2⟩)]
  · rw [if_neg y]
    unfold tnK
    by_cases z : k < i ∧ b 64 k = x1 ∧ b 67 k = 1 ∧ b 69 k = -1
    · rw [if_pos z, if_pos ⟨by omega, z.2⟩]
    · rw [if_neg z, if_neg (fun u => by
        by_cases e : k = i
        · exact y (e ▸ u.2)
        · exact z ⟨by omega, u.2⟩)]
theorem tnK_i (i : Nat) (x1 x2 : Int32) (b : Bl) : tnK i x1 x2 b i = b 69 i := if_neg (fun u => by omega)
theorem c_tnX (d : Nat) {E : Enl} {b : Bl} {h : Hp_} (I : Iv h) (P : PBl E b h) (x1 x2 : Int32) : Cv (m_X4_tellNoted (d + 0) 0 0) [.ref 17, .int x1, .int x2] h (fun h' => Iv h' ∧ Fr wz_X11_look h h' ∧ PBl E (tnB x1 x2 b) h') := by
  obtain ⟨pS, ⟨r17, r18, r62, r63, r64, r65, r66, r67, r68, r69, r70, r71, r72⟩, pE⟩ := P
  have r := iq17 I
  have n16 := n_nat r.2.1
  have lp : ∀ (k i : Nat) (h2 : Hp_), i + k = (h_i h 17 16).toNatClampNeg → Iv h2 → Fr [69999] h h2 → h_i h2 69 = tnK i x1 x2 b → AW (m_X4_tellNoted (d + 0) 0 0) 0 0 2 [(0, .ref 17), (1, .int x1), (2, .int x2), (3, .int (Int32.ofNat i))] [] h2 (kV (fun h' => Iv h' ∧ Fr wz_X11_look h h' ∧ PBl E (tnB x1 x2 b) h')) := by
    intro k
    induction k with
    | zero =>
      intro i h2 e I2 F2 R2
      have g : ∀ a, off [69999] a = true → h_i h2 a = h_i h a := fun a oa => funext (fun k => fr_i F2 oa k)
      refine t_X4_tellNoted_2 d h2 I2.1 x1 x2 _ _ ⟨fun _ => ⟨I2, F2.more (by decide +kernel), fun a ha => ?_, ⟨?_, ?_, ?_, ?_, ?_, ?_, ?_, ?_, ?_, ?_, ?_, ?_, ?_⟩, pE.fr F2 (by decide +kernel)⟩, fun z => ?_⟩
      · have z : lkS.all (fun a => off [69999] a && decide (a ≠ 69)) = true := by decide +kernel
        have y := List.all_eq_true.mp z a ha
        rw [Bool.and_eq_true] at y
        rw [tnB_o (of_decide_eq_true y.2), g a y.1]
        exact pS a ha
      · exact (g 17 (by decide +kernel)).trans (r17.trans (tnB_o (by decide)).symm)
      · exact (g 18 (by decide +kernel)).trans (r18.trans (tnB_o (by decide)).symm)
      · exact (g 62 (by decide +kernel)).trans (r62.trans (tnB_o (by decide)).symm)
      · exact (g 63 (by decide +kernel)).trans (r63.trans (tnB_o (by decide)).symm)
      · exact (g 64 (by decide +kernel)).trans (r64.trans (tnB_o (by decide)).symm)
      · exact (g 65 (by decide +kernel)).trans (r65.trans (tnB_o (by decide)).symm)
      · exact (g 66 (by decide +kernel)).trans (r66.trans (tnB_o (by decide)).symm)
      · exact (g 67 (by decide +kernel)).trans (r67.trans (tnB_o (by decide)).symm)
      · exact (g 68 (by decide +kernel)).trans (r68.trans (tnB_o (by decide)).symm)
      · rw [R2, show i = (h_i h 17 16).toNatClampNeg by omega, r17]
        rfl
      · exact (g 70 (by decide +kernel)).trans (r70.trans (tnB_o (by decide)).symm)
      · exact (g 71 (by decide +kernel)).trans (r71.trans (tnB_o (by decide)).symm)
      · exact (g 72 (by decide +kernel)).trans (r72.trans (tnB_o (by decide)).symm)
      · have z := q_nle z
        rw [fr_i F2 (a := 17) (by decide +kernel) 16, on_j (by omega)] at z
        omega
    | succ k ih =>
      intro i h2 e I2 F2 R2
      have oi := on_j (n := i) (by omega)
      have ki := on_k (n := i) (by omega)
      have v : vp_in (Int32.ofNat i) 300 := on_in (by omega) (by decide)
      have e64 : h_i h2 64 i = b 64 i := by rw [fr_i F2 (a := 64) (by decide +kernel) i, r64]
      have e67 : h_i h2 67 i = b 67 i := by rw [fr_i F2 (a := 67) (by decide +kernel) i, r67]
      have e69 : h_i h2 69 i = b 69 i := by rw [R2, tnK_i]
      have st := tnK_s i x1 x2 b
      refine t_X4_tellNoted_2 d h2 I2.1 x1 x2 _ _ ⟨fun z => ?_, fun _ => ⟨v, ?_⟩⟩
      · have z := q_le.mp z
        rw [fr_i F2 (a := 17) (by decide +kernel) 16, oi] at z
        omega
      · rw [ki, e64, e67, e69, on_s (by omega)]
        refine ⟨fun z => ?_, fun a1 => ⟨v, fun z => ?_, fun a2 => ⟨v, fun z => ?_, fun a3 => ⟨v, ?_⟩⟩⟩⟩
        · exact ih (i + 1) h2 (by omega) I2 F2 (by rw [st, if_neg (fun u => z u.1)]; exact R2)
        · exact ih (i + 1) h2 (by omega) I2 F2 (by rw [st, if_neg (fun u => z u.2.1)]; exact R2)
        · exact ih (i + 1) h2 (by omega) I2 F2 (by rw [st, if_neg (fun u => z u.2.2)]; exact R2)
        · exact ih (i + 1) _ (by omega) (tr_ 69 (by decide +kernel) I2 _ _ (by decide) (by decide)) (F2.im (inw_row (by decide +kernel) _)) (by rw [im_row, st, if_pos ⟨a1, a2, a3⟩, R2])
  refine t_X4_tellNoted d h x1 x2 _ (lp (h_i h 17 16).toNatClampNeg 0 h (by omega) I (Fr.rf _ _) ?_)
  rw [r69]
  exact funext (fun k => (if_neg (fun u => by omega)).symm)
theorem pbL (E : Enl) : PBok (PBl E) tnB (lXm (lPB E)) := ⟨fun b h a k x o P => P.im (by
    rcases o with o | o | o
    · exact Or.inl ⟨o.1, o.2.1, o.2.2.1⟩
    · exact Or.inr (Or.inl o)
    · exact Or.inr (Or.inr (Or.inl o))), fun b h c x hc P => (P.im (a := c) (k := 5) (x := x) (Or.inl ⟨hc.1, hc.2.1, by decide⟩)).cs (fun _ _ _ _ => rfl) (fun _ => rfl), fun d b h x1 x2 I _ P => c_tnX d I P x1 x2, fun d b h c I hc P => c_lookX d I P hc⟩
abbrev nBl : Int32 → (Nat → Int32) → Bl → Bl := fun _ _ b => b
theorem inw15 {a : Nat} (n : a ≠ 0) (k : Nat) : inw [15] a k = false := by
  refine off_inw ?_ k
  unfold off
  refine List.all_eq_true.mpr (fun w hw => ?_)
  have e : w = 15 := List.mem_singleton.mp hw
  have c : 1 ≤ cn a := by
    unfold cn
    cases Nat.ble 401 a && Nat.ble a 412 with
    | true => show 1 ≤ 401; omega
    | false => show 1 ≤ a; omega
  have b : Nat.ble (w + 1) (1000 * cn a) = true := Nat.ble_eq_true_of_le (by omega)
  rw [b, Bool.true_or]
theorem pbtL (E : Enl) : PBtk (PBl E) nBl := ⟨fun b h c N x I hc hs hn P => PBl.im (h := h_lm h c (h_i h 0 0).toNatClampNeg (h_l h 0 14)) (P.cs (fun _ _ _ _ => rfl) (fun _ => rfl)) (Or.inr (Or.inr (Or.inr ⟨rfl, rfl⟩))), fun b h h' I f z P => P.cs (fun a k o l => by
    by_cases e : a = 0
    · rw [e, z]
    · exact (f.2.2.2 a k l (inw15 e k)).1) (fun k => (f.2.2.2 15 k (by decide) (inw15 (by decide) k)).2)⟩
end
section
/-! LOOKS, the reference -/
def TM (CC : Nat → List Cl2) (nk : Nat) (h : Hp_) : Prop := ∀ k : Nat, k < nk → (∀ c ∈ CC k, clO 1 c) ∧ At_ (h_i h 231) (560 * k) (rlM (CC k)) ∧ h_i h 232 k = Int32.ofNat (rlM (CC k)).length ∧ (rlM (CC k)).length ≤ 560
def PEm (E : Enl) (b : Bl) (h : Hp_) : Prop := (∀ k : Nat, k < 40 → b 104 k = h_i h 221 k ∧ b 105 k = h_i h 222 k ∧ b 106 k = h_i h 223 k ∧ b 107 k = h_i h 224 k) ∧ (∀ j : Nat, j < 12 → h_i h 204 j = E.2.2.2 j) ∧ (∀ k : Nat, k < (b 13 5).toNatClampNeg → h_i h 233 k = b 37 k ∧ h_i h 234 k = b 38 k) ∧ (h_i h 1 7 = Int32.ofNat E.2.2.1 ∧ E.2.2.1 ≤ 12) ∧ (ExP h ∧ wI h = E.2.1) ∧ TM E.1 (b 13 5).toNatClampNeg h ∧ h_i h 1 29 = b 21 4 ∧ h_i h 235 0 = b 13 5
def PMl (E : Enl) (b : Bl) (h : Hp_) : Prop := (h_i h 1 80 = b 17 16 ∧ h_i h 1 79 = b 17 7 ∧ h_i h 1 96 = b 18 3) ∧ (∀ f : Nat, f < 80 → (f < (b 17 7).toNatClampNeg → (h_i h 249 f = b 57 f ∧ h_i h 250 f = b 58 f ∧ h_i h 251 f = b 59 f ∧ h_i h 252 f = b 60 f ∧ h_i h 253 f = b 61 f) ∧ (0 ≤ (b 58 f).toInt ∧ (b 58 f).toInt < 16)) ∧ h_i h 254 f = b 63 f ∧ b 62 f = cAt (b 65) (Int32.ofNat f) (nsB b)) ∧ (∀ i : Nat, i < nsB b → (h_i h 255 i = b 64 i ∧ h_i h 256 i = b 65 i ∧ h_i h 257 i = b 66 i ∧ h_i h 258 i = b 67 i ∧ h_i h 259 i = b 68 i ∧ h_i h 260 i = b 69 i) ∧ ∀ t : Nat, t < 9 → h_i h 261 (9 * i + t) = b 70 (9 * i + t)) ∧ (∀ i : Nat, i < (b 18 3).toNatClampNeg → h_i h 262 i = b 71 i ∧ h_i h 263 i = b 72 i) ∧ PEm E b h
def pmR : List Nat := [204, 221, 222, 223, 224, 231, 232, 233, 234, 235, 30]
def pmW : List Nat := [249, 250, 251, 252, 253, 254, 255, 256, 257, 258, 259, 260, 261, 262, 263]
theorem PEm.fr {E : Enl} {b : Bl} {ws : List Nat} {h h' : Hp_} (p : PEm E b h) (f : Fr ws h h') (o : (pmR.all (fun a => off ws a) && (!inw ws 1 7 && !inw ws 1 29)) = true) (x : ExP h → ExP h') : PEm E b h' := by
  rw [Bool.and_eq_true, Bool.and_eq_true, Bool.not_eq_true', Bool.not_eq_true'] at o
  have g : ∀ a, a ∈ pmR → h_i h' a = h_i h a := fun a ha => funext (fun k => fr_i f (List.all_eq_true.mp o.1 a ha) k)
  obtain ⟨a1, a2, a3, a4, a5, a6, a7, a8⟩ := p
  refine ⟨?_, ?_, ?_, ⟨?_, a4.2⟩, ⟨x a5.1, ?_⟩, fun k hk => ?_, ?_, ?_⟩
  · rw [g 221 (by decide), g 222 (by decide), g 223 (by decide), g 224 (by decide)]
    exact a1
  · rw [g 204 (by decide)]
    exact a2
  · rw [g 233 (by decide), g 234 (by decide)]
    exact a3
  · rw [(f.2 1 7 o.2.1).1]
    exact a4.1
  · rw [← a5.2]
    funext u v
    unfold wI
    rw [g 30 (by decide)]
  · rw [g 231 (by decide), g 232 (by decide)]
    exact a6 k hk
  · rw [(f.2 1 29 o.2.2).1]
    exact a7
  · rw [g 235 (by decide)]
    exact a8
theorem PEm.b {E : Enl} {b b' : Bl} {h : Hp_} (p : PEm E b h) (e : ∀ a ∈ lkS, b' a = b a) : PEm E b' h := by
  unfold PEm
  rw [e 104 (by decide), e 105 (by decide), e 106 (by decide), e 107 (by decide), e 37 (by decide), e 38 (by decide), e 13 (by decide), e 21 (by decide)]
  exact p
theorem PMl.fr {E : Enl} {b : Bl} {ws : List Nat} {h h' : Hp_} (p : PMl E b h) (f : Fr ws h h') (o : (pmR.all (fun a => off ws a) && (!inw ws 1 7 && !inw ws 1 29)) = true) (o2 : (pmW.all (fun a => off ws a) && (!inw ws 1 80 && !inw ws 1 79 && !inw ws 1 96)) = true) (x : ExP h → ExP h') : PMl E b h' := by
  rw [Bool.and_eq_true, Bool.and_eq_true, Bool.and_eq_true, Bool.not_eq_true', Bool.not_eq_true', Bool.not_eq_true'] at o2
  have g : ∀ a, a ∈ pmW → h_i h' a = h_i h a := fun a ha => funext (fun k => fr_i f (List.all_eq_true.mp o2.1 a ha) k)
  obtain ⟨a1, a2, a3, a4, a5⟩ := p
  refine ⟨?_, ?_, ?_, ?_, a5.fr f o x⟩
  · rw [(f.2 1 80 o2.2.1.1).1, (f.2 1 79 o2.2.1.2).1, (f.2 1 96 o2.2.2).1]
    exact a1
  · rw [g 249 (by decide), g 250 (by decide), g 251 (by decide), g 252 (by decide), g 253 (by decide), g 254 (by decide)]
    exact a2
  · rw [g 255 (by decide), g 256 (by decide), g 257 (by decide), g 258 (by decide), g 259 (by decide), g 260 (by decide), g 261 (by decide)]
    exact a3
  · rw [g 262 (by decide), g 263 (by decide)]
    exact a4
theorem hr_eq {n : Int32} (b : 0 ≤ n.toInt ∧ n.toInt ≤ 20000) : n / 60 - n / 60 / 24 * 24 = hrN n := by
  have t60 : (60 : Int32).toInt = 60 := rfl
  have t24 : (24 : Int32).toInt = 24 := rfl
  have t14 : (1440 : Int32).toInt = 1440 := rfl
  have a : (n / 60).toInt = n.toInt / 60 := by rw [ti_div b.1 (by rw [t60]; decide), t60]
  have c : (n / 60 / 24).toInt = n.toInt / 60 / 24 := by rw [ti_div (by rw [a]; omega) (by rw [t24]; decide), t24, a]
  have e : (n / 1440).toInt = n.toInt / 1440 := by rw [ti_div b.1 (by rw [t14]; decide), t14]
  have f : (n / 60 / 24 * 24).toInt = n.toInt / 60 / 24 * 24 := by rw [tx_mul (by rw [c, t24]; omega) (by rw [c, t24]; omega), c, t24]
  have g : (n / 1440 * 1440).toInt = n.toInt / 1440 * 1440 := by rw [tx_mul (by rw [e, t14]; omega) (by rw [e, t14]; omega), e, t14]
  have k : (n - n / 1440 * 1440).toInt = n.toInt - n.toInt / 1440 * 1440 := by rw [tx_sub (by rw [g]; omega) (by rw [g]; omega), g]
  refine Int32.toInt_inj.mp ?_
  unfold hrN
  rw [ti_div (by rw [k]; omega) (by rw [t60]; decide), t60, k, tx_sub (by rw [a, f]; omega) (by rw [a, f]; omega), a, f]
  omega
theorem lt9v (v e : Nat → Int32) {c : Int32} (o : ltb 1 c = true) : ltN v 9 e c.toNatClampNeg = v (ixq 1 (xch c)).toNatClampNeg := by
  have o : c = 107 ∨ c = 119 ∨ c = 112 ∨ c = 104 ∨ c = 100 ∨ c = 99 ∨ c = 110 ∨ c = 101 ∨ c = 116 := of_decide_eq_true o
  rcases o with u | u | u | u | u | u | u | u | u <;> subst u
  · rw [show (107 : Int32).toNatClampNeg = 107 by simp, show (ixq 1 (xch 107)).toNatClampNeg = 0 by decide +kernel]; rfl
  · rw [show (119 : Int32).toNatClampNeg = 119 by simp, show (ixq 1 (xch 119)).toNatClampNeg = 1 by decide +kernel]; rfl
  · rw [show (112 : Int32).toNatClampNeg = 112 by simp, show (ixq 1 (xch 112)).toNatClampNeg = 2 by decide +kernel]; rfl
  · rw [show (104 : Int32).toNatClampNeg = 104 by simp, show (ixq 1 (xch 104)).toNatClampNeg = 3 by decide +kernel]; rfl
  · rw [show (100 : Int32).toNatClampNeg = 100 by simp, show (ixq 1 (xch 100)).toNatClampNeg = 4 by decide +kernel]; rfl
  · rw [show (99 : Int32).toNatClampNeg = 99 by simp, show (ixq 1 (xch 99)).toNatClampNeg = 5 by decide +kernel]; rfl
  · rw [show (110 : Int32).toNatClampNeg = 110 by simp, show (ixq 1 (xch 110)).toNatClampNeg = 6 by decide +kernel]; rfl
  · rw [show (101 : Int32).toNatClampNeg = 101 by simp, show (ixq 1 (xch 101)).toNatClampNeg = 7 by decide +kernel]; rfl
  · rw [show (116 : Int32).toNatClampNeg = 116 by simp, show (ixq 1 (xch 116)).toNatClampNeg = 8 by decide +kernel]; rfl
theorem i20 {h : Hp_} (I : Iv h) : 0 ≤ (h_i h 235 0).toInt ∧ (h_i h 235 0).toInt ≤ 20 := by
  have c13 := dp_rg I 235 0 (show tfa 235 = some (0, 20) by decide +kernel)
  exact ⟨c13.1, c13.2⟩
theorem foB_b {dy q : Int32} {b : Bl} (c : 0 ≤ (b 13 5).toInt ∧ (b 13 5).toInt ≤ 20) : foB dy q b = -1 ∨ (0 ≤ (foB dy q b).toInt ∧ (foB dy q b).toInt < (b 13 5).toInt) := by
  have n := n_nat c.1
  rcases fob_b (b 37) (b 38) dy q (b 13 5).toNatClampNeg (by omega) with e | e
  · exact Or.inl e
  · exact Or.inr ⟨e.1, by have := e.2; unfold foB; omega⟩
/-- lets, with its answer -/
theorem c_letM (d : Nat) {E : Enl} {b : Bl} {h : Hp_} (I : Iv h) (P : PEm E b h) (i : Nat) (hi : i < 300) (q : Int32) : Ci (m_X12_lets (d + 6) 0 0) [.ref 1, .int (Int32.ofNat i), .int q] h (fun r h' => Iv h' ∧ Fr wzL h h' ∧ r = evB E (h_i h 257 i / 1440) q (h_i h 261) i b) := by
  have vi : vp_in (Int32.ofNat i) 300 := on_in hi (by decide)
  have ki : (Int32.ofNat i).toNatClampNeg = i := on_k (by omega)
  have oi := on_j (n := i) (by omega)
  have t9 : (9 : Int32).toInt = 9 := rfl
  have c20 := i20 I
  rw [P.2.2.2.2.2.2.2] at c20
  have n13 := n_nat c20.1
  refine t_X12_lets d h _ q _ ?_
  have lp : ∀ (n k : Nat) (h3 : Hp_), k + n = 9 → Iv h3 → Fr wzL h h3 → h_i h3 236 = ltN (fun k => h_i h 261 (9 * i + k)) k (h_i h 236) → AW (m_X12_lets (d + 6) 0 0) 0 0 2 [(0, .ref 1), (1, .int (Int32.ofNat i)), (2, .int q), (3, .int (Int32.ofNat k))] [] h3 (kI (fun r h' => Iv h' ∧ Fr wzL h h' ∧ r = evB E (h_i h 257 i / 1440) q (h_i h 261) i b)) := by
    intro n
    induction n with
    | zero =>
      intro k h3 e I3 F3 L3
      have ok := on_j (n := k) (by omega)
      refine t_X12_lets_2 d h3 I3.1 _ q _ _ ⟨fun _ => ⟨vi, ?_⟩, fun z => ?_⟩
      · rw [ki, fr_i F3 (a := 257) (by decide +kernel) i]
        refine Ci.mono (c_fof d I3 _ _) (fun r4 h4 k4 => ?_)
        obtain ⟨e4, er⟩ := k4
        subst e4
        have fe : r4 = foB (h_i h 257 i / 1440) q b := by
          rw [er, fr_i F3 (a := 235) (by decide +kernel) 0, P.2.2.2.2.2.2.2]
          refine fob_c _ (by omega) (fun k hk => ?_)
          rw [fr_i F3 (a := 233) (by decide +kernel) k, fr_i F3 (a := 234) (by decide +kernel) k]
          exact P.2.2.1 k hk
        have fb := foB_b (dy := h_i h 257 i / 1440) (q := q) c20
        rw [← fe] at fb
        refine ⟨I3.1, Ci.mono (c_tell2 d 0 (by decide) I3 r4 ?_) (fun r5 h5 k5 => ⟨k5.1.1, k5.1, F3.tr (k5.2.1.more (by decide +kernel)), ?_⟩)⟩
        · rcases fb with e | e
          · rw [e]
            exact ⟨by decide, by decide⟩
          · exact ⟨by show (-1 : Int) ≤ _; omega, by show _ ≤ (19 : Int); omega⟩
        · unfold evB
          rw [← fe]
          rcases k5.2.2 with ⟨e, e5⟩ | ⟨ne, f, pc, te⟩
          · rw [if_pos e, e5]
          · rw [if_neg ne]
            rcases fb with e | e
            · exact absurd e ne
            · have nk := n_nat e.1
              have t := P.2.2.2.2.2.1 r4.toNatClampNeg (by omega)
              rw [show 20 * 0 + r4.toNatClampNeg = r4.toNatClampNeg by omega] at pc te
              have l32 : (h_i h4 232 r4.toNatClampNeg).toNatClampNeg = (rlM (E.1 r4.toNatClampNeg)).length := by
                rw [fr_i F3 (a := 232) (by decide +kernel) _, t.2.2.1]
                exact on_k (by have := t.2.2.2; omega)
              have a := tel_ev (E.1 r4.toNatClampNeg) f _ _ r5 pc te (fun k v e => by rw [fr_i F3 (a := 231) (by decide +kernel) _]; exact t.2.1 k v e) (by rw [l32]) t.1
              rw [a]
              refine evC_v (s := 1) (fun c hc => ?_) _ t.1
              rw [L3, show k = 9 by omega]
              exact lt9v _ _ hc
      · have z := q_nle z
        omega
    | succ n ih =>
      intro k h3 e I3 F3 L3
      have ok := on_j (n := k) (by omega)
      obtain ⟨lk, lv⟩ := tl9 (k := k) (by omega)
      have m1 : (9 * Int32.ofNat i).toInt = 9 * (i : Int) := by rw [tx_mul (by rw [t9, oi]; omega) (by rw [t9, oi]; omega), t9, oi]
      have m2 : (9 * Int32.ofNat i + Int32.ofNat k).toInt = 9 * (i : Int) + k := by rw [tx_add (by omega) (by omega), m1, ok]
      have nn := n_nat (x := 9 * Int32.ofNat i + Int32.ofNat k) (by omega)
      have jn : (9 * Int32.ofNat i + Int32.ofNat k).toNatClampNeg = 9 * i + k := by omega
      refine t_X12_lets_2 d h3 I3.1 _ q _ _ ⟨fun z => ?_, fun _ => ?_⟩
      · have z := q_le.mp z
        omega
      · refine Ci.mono (c_letterFor (d + 1) k (by omega) h3) (fun r4 h4 k4 => ?_)
        rw [k4.1, k4.2]
        refine ⟨I3.1, dp_in (lo := 0) (hi := 2699) ⟨by show (0 : Int) ≤ _; omega, by show _ ≤ (2699 : Int); omega⟩ (by decide) (by decide), lv, ?_⟩
        rw [jn, lk, on_s (by omega), fr_i F3 (a := 261) (by decide +kernel) _]
        refine ih (k + 1) _ (by omega) (i236 I3 _ _) (F3.im (inw_row (by decide +kernel) _)) ?_
        rw [lr_is, L3]
        rfl
  exact lp 9 0 h rfl I (Fr.rf _ _) rfl
theorem evB_c {E : Enl} {dy q : Int32} {L L' : Nat → Int32} {i : Nat} {b : Bl} (c : 0 ≤ (b 13 5).toInt ∧ (b 13 5).toInt ≤ 20) (o : ∀ k : Nat, k < (b 13 5).toNatClampNeg → ∀ x ∈ E.1 k, clO 1 x) (e : ∀ t, t < 9 → L (9 * i + t) = L' (9 * i + t)) : evB E dy q L i b = evB E dy q L' i b := by
  have n := n_nat c.1
  unfold evB
  rcases foB_b (dy := dy) (q := q) c with z | z
  · rw [if_pos z, if_pos z]
  · have nz : ¬ foB dy q b = -1 := fun y => by
      rw [y] at z
      exact absurd z.1 (by decide)
    have nk := n_nat z.1
    rw [if_neg nz, if_neg nz]
    refine evC_v (s := 1) (fun x hx => ?_) _ (o _ (by omega))
    have b9 := ix_in (Or.inl rfl) hx
    have b8 : (ixq 1 (xch x)).toInt ≤ 8 := b9.2
    have nb := n_nat b9.1
    exact e _ (by omega)
theorem c_rkM (d : Nat) {h : Hp_} (I : Iv h) {x1 : Int32} (v : vp_in x1 12) (x2 x3 : Int32) : Ci (m_X12_rankOn (d + 0) 0 0) [.ref 1, .int x1, .int x2, .int x3] h (fun r h' => r = rkv (h_i h 221) (h_i h 222) (h_i h 223) (h_i h 224) x1 x2 x3 (h_i h 1 29).toNatClampNeg 0 (h_i h 204 x1.toNatClampNeg) (-1) ∧ h' = h) := by
  have a := I.2.1 1 29
  rw [show tf 1 29 = (0, 40) by decide +kernel] at a
  have n := n_nat a.1
  exact t_X12_rankOn d h I.1 x1 x2 x3 _ ⟨v, rk_M d I x1 x2 x3 _ 0 _ _ 0 rfl (by omega)⟩
theorem iq262 {h : Hp_} (I : Iv h) (k : Nat) {x : Int32} (b : rin x.toInt (0, 9)) : Iv (h_im h 262 k x) := I.im (by rw [tfa_tf (show tfa 262 = some (0, 9) by decide +kernel)]; exact b) (jw_jr (by decide) (by decide) _)
theorem iq254 {h : Hp_} (I : Iv h) (k : Nat) {x : Int32} (b : rin x.toInt (0, 1)) : Iv (h_im h 254 k x) := I.im (by rw [tfa_tf (show tfa 254 = some (0, 1) by decide +kernel)]; exact b) (jw_jr (by decide) (by decide) _)
theorem iq180 {h : Hp_} (I : Iv h) {x : Int32} (b : rin x.toInt (0, 300)) : Iv (h_im h 1 80 x) := I.im (by rw [show tf 1 80 = (0, 300) by decide +kernel]; exact b) (jw_jr (by decide) (by decide) _)
theorem iq196 {h : Hp_} (I : Iv h) {x : Int32} (b : rin x.toInt (0, 30)) : Iv (h_im h 1 96 x) := I.im (by rw [show tf 1 96 = (0, 30) by decide +kernel]; exact b) (jw_jr (by decide) (by decide) _)
theorem iq1 {h : Hp_} (I : Iv h) : (0 ≤ (h_i h 1 79).toInt ∧ (h_i h 1 79).toInt ≤ 80) ∧ (0 ≤ (h_i h 1 80).toInt ∧ (h_i h 1 80).toInt ≤ 300) ∧ (0 ≤ (h_i h 1 96).toInt ∧ (h_i h 1 96).toInt ≤ 30) ∧ (0 ≤ (h_i h 1 0).toInt ∧ (h_i h 1 0).toInt ≤ 20000) := by
  have a := I.2.1 1 79
  have b := I.2.1 1 80
  have c := I.2.1 1 96
  have e := I.2.1 1 0
  rw [show tf 1 79 = (0, 80) by decide +kernel] at a
  rw [show tf 1 80 = (0, 300) by decide +kernel] at b
  rw [show tf 1 96 = (0, 30) by decide +kernel] at c
  rw [show tf 1 0 = (0, 20000) by decide +kernel] at e
  exact ⟨⟨a.1, a.2⟩, ⟨b.1, b.2⟩, ⟨c.1, c.2⟩, e.1, e.2⟩
def Opq (x1 : Int32) (h : Hp_) (r : Int32) (h' : Hp_) : Prop := Iv h' ∧ Fr [1096, 262999, 263999] h h' ∧ r = h_i h 1 96 ∧ h_i h' 262 = up1 (h_i h 262) (h_i h 1 96).toNatClampNeg x1 ∧ h_i h' 263 = up1 (h_i h 263) (h_i h 1 96).toNatClampNeg (h_i h 1 0) ∧ h_i h' 1 96 = h_i h 1 96 + 1
theorem c_opn (d : Nat) {h : Hp_} (I : Iv h) (n : ¬ 30 ≤ h_i h 1 96) {x1 : Int32} (b : rin x1.toInt (0, 9)) : Ci (m_X12_opened (d + 0) 0 0) [.ref 1, .int x1] h (Opq x1 h) := by
  have r := (iq1 I).2.2.1
  have t1 : (1 : Int32).toInt = 1 := rfl
  have n' := q_nle n
  rw [show (30 : Int32).toInt = 30 from rfl] at n'
  have v : vp_in (h_i h 1 96) 30 := dp_in (lo := 0) (hi := 29) ⟨r.1, by show _ ≤ (29 : Int); omega⟩ (by decide) (by decide)
  have e1 : (h_i h 1 96 + 1).toInt = (h_i h 1 96).toInt + 1 := by rw [tx_add (by rw [t1]; omega) (by rw [t1]; omega), t1]
  refine t_X12_opened d h I.1 x1 _ ⟨v, v, iq196 (tr_ 263 (by decide +kernel) (iq262 I _ b) _ _ (by decide) (by decide)) ⟨by rw [e1]; show (0 : Int) ≤ _; omega, by rw [e1]; show _ ≤ (30 : Int); omega⟩, (((Fr.rf _ _).im (inw_row (by decide +kernel) _)).im (inw_row (by decide +kernel) _)).im (by decide +kernel), ?_, ?_, ?_, ?_⟩
  · rw [Int32.add_sub_cancel]
  · repeat first | rw [im_row] | rw [im_oth (by decide)]
  · repeat first | rw [im_row] | rw [im_oth (by decide)]
  · rw [im_row, up1_at]
/-! LOOKS, the reference: see -/
def ltM (r : Nat → Int32) (i : Nat) (v0 v1 v2 v3 v4 v5 v6 v7 v8 : Int32) : Nat → Int32 := up1 (up1 (up1 (up1 (up1 (up1 (up1 (up1 (up1 r (9 * i) v0) (9 * i + 1) v1) (9 * i + 2) v2) (9 * i + 3) v3) (9 * i + 4) v4) (9 * i + 5) v5) (9 * i + 6) v6) (9 * i + 7) v7) (9 * i + 8) v8
theorem lt_MR {r r' : Nat → Int32} {i : Nat} {v0 v1 v2 v3 v4 v5 v6 v7 v8 : Int32} {t : Nat} (ht : t < 9) : ltM r i v0 v1 v2 v3 v4 v5 v6 v7 v8 (9 * i + t) = ltR r' i v0 v1 v2 v3 v4 v5 v6 v7 v8 (9 * i + t) := by
  unfold ltM ltR up1
  match t, ht with
  | 0, _ => simp
  | 1, _ => simp
  | 2, _ => simp
  | 3, _ => simp
  | 4, _ => simp
  | 5, _ => simp
  | 6, _ => simp
  | 7, _ => simp
  | 8, _ => simp
  | t + 9, h => exact absurd h (by omega)
theorem ltM_o {r : Nat → Int32} {i : Nat} {v0 v1 v2 v3 v4 v5 v6 v7 v8 : Int32} {k : Nat} (hk : k < 9 * i) : ltM r i v0 v1 v2 v3 v4 v5 v6 v7 v8 k = r k := by
  unfold ltM
  rw [up1_ne (by omega), up1_ne (by omega), up1_ne (by omega), up1_ne (by omega), up1_ne (by omega), up1_ne (by omega), up1_ne (by omega), up1_ne (by omega), up1_ne (by omega)]
theorem ltR_o {r : Nat → Int32} {i : Nat} {v0 v1 v2 v3 v4 v5 v6 v7 v8 : Int32} {k : Nat} (hk : k < 9 * i) : ltR r i v0 v1 v2 v3 v4 v5 v6 v7 v8 k = r k := by
  unfold ltR
  rw [up1_ne (by omega), up1_ne (by omega), up1_ne (by omega), up1_ne (by omega), up1_ne (by omega), up1_ne (by omega), up1_ne (by omega), up1_ne (by omega), up1_ne (by omega)]
theorem cAt_c {f g : Nat → Int32} {p : Int32} : ∀ n, (∀ k, k < n → f k = g k) → cAt f p n = cAt g p n
  | 0, _ => rfl
  | n + 1, e => by
    unfold cAt
    rw [cAt_c n (fun k hk => e k (by omega)), e n (by omega)]
/-- the reference's rows with a sighting more -/
def Smq (i f : Nat) (x1 n D kn : Int32) (L : Nat → Int32) (h h' : Hp_) : Prop := Iv h' ∧ Fr wz_X12_see h h' ∧ h_i h' 255 = up1 (h_i h 255) i x1 ∧ h_i h' 256 = up1 (h_i h 256) i (Int32.ofNat f) ∧ h_i h' 257 = up1 (h_i h 257) i n ∧ h_i h' 258 = up1 (h_i h 258) i D ∧ h_i h' 259 = up1 (h_i h 259) i (if D = 3 ∧ h_i h 1 96 < 30 then h_i h 1 96 else -1) ∧ h_i h' 260 = up1 (h_i h 260) i kn ∧ h_i h' 261 = L ∧ h_i h' 254 = (if D = 3 then up1 (h_i h 254) f 1 else h_i h 254) ∧ h_i h' 1 80 = h_i h 1 80 + 1 ∧ h_i h' 262 = (if D = 3 ∧ h_i h 1 96 < 30 then up1 (h_i h 262) (h_i h 1 96).toNatClampNeg (h_i h 249 f) else h_i h 262) ∧ h_i h' 263 = (if D = 3 ∧ h_i h 1 96 < 30 then up1 (h_i h 263) (h_i h 1 96).toNatClampNeg n else h_i h 263) ∧ h_i h' 1 96 = (if D = 3 ∧ h_i h 1 96 < 30 then h_i h 1 96 + 1 else h_i h 1 96)
theorem sg1_16 {E : Enl} {j : Nat} {n : Int32} {pl : Nat → Int32} {f : Nat} {b : Bl} : sg1 E j n pl f b 17 16 = b 17 16 + 1 := by
  show (if dnB E j n pl f b = 3 then up1 (up1 (b 17) 16 (b 17 16 + 1)) 8 (b 17 8 + 1) else up1 (b 17) 16 (b 17 16 + 1)) 16 = b 17 16 + 1
  by_cases y : dnB E j n pl f b = 3
  · rw [if_pos y, up1_ne (by decide), up1_at]
  · rw [if_neg y, up1_at]
theorem PMl.sg {E : Enl} {b : Bl} {h h' : Hp_} (I : Iv h) (p : PMl E b h) {j f : Nat} {n : Int32} {pl : Nat → Int32} (hf : f < (b 17 7).toNatClampNeg) (h3 : nsB b < 300) {L : Nat → Int32} (l1 : ∀ t, t < 9 → L (9 * nsB b + t) = lrB E j n pl f b (9 * nsB b + t)) (l2 : ∀ k, k < 9 * nsB b → L k = h_i h 261 k) (s : Smq (nsB b) f (Int32.ofNat j) n (dnB E j n pl f b) (if ¬ dnB E j n pl f b ≤ 1 ∧ ¬ E.2.1 (pl j) 0 = -1 then n + E.2.1 (pl j) 0 else -1) L h h') : PMl E (sg1 E j n pl f b) h' := by
  obtain ⟨a1, a2, a3, a4, a5⟩ := p
  obtain ⟨I', F, s255, s256, s257, s258, s259, s260, s261, s254, s80, s262, s263, s96⟩ := s
  have r := iq1 I
  rw [a1.1, a1.2.1, a1.2.2] at r
  have t1 : (1 : Int32).toInt = 1 := rfl
  have nn := n_nat r.2.1.1
  have n7 := n_nat r.1.1
  have n18 := n_nat r.2.2.1.1
  have e17 : sg1 E j n pl f b 17 7 = b 17 7 := sg1_17
  have e16 : sg1 E j n pl f b 17 16 = b 17 16 + 1 := sg1_16
  have f16 : (b 17 16 + 1).toInt = (b 17 16).toInt + 1 := by rw [tx_add (by rw [t1]; omega) (by rw [t1]; omega), t1]
  have ns1 : nsB (sg1 E j n pl f b) = nsB b + 1 := by
    show (sg1 E j n pl f b 17 16).toNatClampNeg = nsB b + 1
    rw [e16]
    have := n_nat (x := b 17 16 + 1) (by omega)
    show _ = (b 17 16).toNatClampNeg + 1
    omega
  rw [a1.2.2] at s259 s262 s263 s96
  refine ⟨⟨?_, ?_, ?_⟩, fun g hg => ?_, fun i hi => ?_, fun i hi => ?_, (a5.fr F (by decide +kernel) (fun x => x.fr F (by decide +kernel))).b (fun a ha => sg1_s ha)⟩
  · rw [s80, e16, a1.1]
  · rw [(F.2 1 79 (by decide +kernel)).1, e17]
    exact a1.2.1
  · rw [s96]
    show _ = (if dnB E j n pl f b = 3 ∧ b 18 3 < 30 then up1 (b 18) 3 (b 18 3 + 1) else b 18) 3
    by_cases y : dnB E j n pl f b = 3 ∧ b 18 3 < 30
    · rw [if_pos y, if_pos y, up1_at]
    · rw [if_neg y, if_neg y]
  · have q := a2 g hg
    refine ⟨fun hg' => ?_, ?_, ?_⟩
    · rw [e17] at hg'
      have q' := q.1 hg'
      refine ⟨⟨?_, ?_, ?_, ?_, ?_⟩, q'.2⟩
      · rw [fr_i F (a := 249) (by decide +kernel) g]; exact q'.1.1
      · rw [fr_i F (a := 250) (by decide +kernel) g]; exact q'.1.2.1
      · rw [fr_i F (a := 251) (by decide +kernel) g]; exact q'.1.2.2.1
      · rw [fr_i F (a := 252) (by decide +kernel) g]; exact q'.1.2.2.2.1
      · rw [fr_i F (a := 253) (by decide +kernel) g]; exact q'.1.2.2.2.2
    · rw [s254]
      show _ = (if dnB E j n pl f b = 3 then up1 (b 63) f 1 else b 63) g
      by_cases y : dnB E j n pl f b = 3
      · rw [if_pos y, if_pos y]
        by_cases e : g = f
        · rw [e, up1_at, up1_at]
        · rw [up1_ne e, up1_ne e]
          exact q.2.1
      · rw [if_neg y, if_neg y]
        exact q.2.1
    · rw [ns1]
      show up1 (b 62) f (b 62 f + 1) g = (if up1 (b 65) (nsB b) (Int32.ofNat f) (nsB b) = Int32.ofNat g then cAt (up1 (b 65) (nsB b) (Int32.ofNat f)) (Int32.ofNat g) (nsB b) + 1 else cAt (up1 (b 65) (nsB b) (Int32.ofNat f)) (Int32.ofNat g) (nsB b))
      rw [cAt_c (g := b 65) (nsB b) (fun k hk => up1_ne (by omega)), up1_at, ← q.2.2]
      by_cases e : g = f
      · rw [if_pos (by rw [e]), e, up1_at]
      · rw [if_neg (fun u => e (by
          have := congrArg Int32.toNatClampNeg u
          rw [on_k (by omega), on_k (by omega)] at this
          exact this.symm)), up1_ne e]
  · rw [ns1] at hi
    rcases Nat.lt_or_ge i (nsB b) with l | l
    · have q := a3 i l
      have ni : i ≠ nsB b := by omega
      refine ⟨⟨?_, ?_, ?_, ?_, ?_, ?_⟩, fun t ht => ?_⟩
      · rw [s255, up1_ne ni]; exact q.1.1.trans (up1_ne ni).symm
      · rw [s256, up1_ne ni]; exact q.1.2.1.trans (up1_ne ni).symm
      · rw [s257, up1_ne ni]; exact q.1.2.2.1.trans (up1_ne ni).symm
      · rw [s258, up1_ne ni]; exact q.1.2.2.2.1.trans (up1_ne ni).symm
      · rw [s259, up1_ne ni]; exact q.1.2.2.2.2.1.trans (up1_ne ni).symm
      · rw [s260, up1_ne ni]; exact q.1.2.2.2.2.2.trans (up1_ne ni).symm
      · rw [s261, l2 _ (by omega), q.2 t ht]
        exact (ltR_o (by omega)).symm
    · have ei : i = nsB b := by omega
      subst ei
      refine ⟨⟨?_, ?_, ?_, ?_, ?_, ?_⟩, fun t ht => ?_⟩
      · rw [s255, up1_at]; exact up1_at.symm
      · rw [s256, up1_at]; exact up1_at.symm
      · rw [s257, up1_at]; exact up1_at.symm
      · rw [s258, up1_at]; exact up1_at.symm
      · rw [s259, up1_at]; exact up1_at.symm
      · rw [s260, up1_at]; exact up1_at.symm
      · rw [s261, l1 t ht]
        rfl
  · have hi : i < ((if dnB E j n pl f b = 3 ∧ b 18 3 < 30 then up1 (b 18) 3 (b 18 3 + 1) else b 18) 3).toNatClampNeg := hi
    rw [s262, s263]
    show _ = (if dnB E j n pl f b = 3 ∧ b 18 3 < 30 then up1 (b 71) (b 18 3).toNatClampNeg (b 57 f) else b 71) i ∧ _ = (if dnB E j n pl f b = 3 ∧ b 18 3 < 30 then up1 (b 72) (b 18 3).toNatClampNeg n else b 72) i
    by_cases y : dnB E j n pl f b = 3 ∧ b 18 3 < 30
    · rw [if_pos y, up1_at] at hi
      have y2 := q_lt.mp y.2
      rw [show (30 : Int32).toInt = 30 from rfl] at y2
      have f18 : (b 18 3 + 1).toInt = (b 18 3).toInt + 1 := by rw [tx_add (by rw [t1]; omega) (by rw [t1]; omega), t1]
      have n18' := n_nat (x := b 18 3 + 1) (by omega)
      rw [if_pos y, if_pos y, if_pos y, if_pos y, ((a2 f (by omega)).1 hf).1.1]
      by_cases e : i = (b 18 3).toNatClampNeg
      · rw [e, up1_at, up1_at, up1_at, up1_at]
        exact ⟨rfl, rfl⟩
      · rw [up1_ne e, up1_ne e, up1_ne e, up1_ne e]
        exact a4 i (by omega)
    · rw [if_neg y] at hi
      rw [if_neg y, if_neg y, if_neg y, if_neg y]
      exact a4 i hi
/-- before it is settled whether a case is opened -/
def Gmq (i f : Nat) (x1 n D kn : Int32) (L : Nat → Int32) (h g : Hp_) : Prop := Iv g ∧ Fr wz_X12_see h g ∧ h_i g 255 = up1 (h_i h 255) i x1 ∧ h_i g 256 = up1 (h_i h 256) i (Int32.ofNat f) ∧ h_i g 257 = up1 (h_i h 257) i n ∧ h_i g 258 = up1 (h_i h 258) i D ∧ h_i g 259 = up1 (h_i h 259) i (-1) ∧ h_i g 260 = up1 (h_i h 260) i kn ∧ h_i g 261 = L ∧ h_i g 254 = h_i h 254 ∧ h_i g 1 80 = h_i h 1 80 ∧ h_i g 262 = h_i h 262 ∧ h_i g 263 = h_i h 263 ∧ h_i g 1 96 = h_i h 1 96
theorem gm_1 {i f : Nat} {x1 n D kn : Int32} {L : Nat → Int32} {h g : Hp_} (s : Gmq i f x1 n D kn L h g) (h3 : (h_i h 1 80).toInt < 300) (I : Iv h) (d3 : ¬ D = 3) {x : Int32} (ex : x = h_i h 1 80 + 1) : Smq i f x1 n D kn L h (h_im g 1 80 x) := by
  obtain ⟨I', F, s255, s256, s257, s258, s259, s260, s261, s254, s80, s262, s263, s96⟩ := s
  have r := (iq1 I).2.1
  have t1 : (1 : Int32).toInt = 1 := rfl
  have ef : (h_i h 1 80 + 1).toInt = (h_i h 1 80).toInt + 1 := by rw [tx_add (by rw [t1]; omega) (by rw [t1]; omega), t1]
  have nd : ¬ (D = 3 ∧ h_i h 1 96 < 30) := fun u => d3 u.1
  subst ex
  refine ⟨iq180 I' ⟨by rw [ef]; show (0 : Int) ≤ _; omega, by rw [ef]; show _ ≤ (300 : Int); omega⟩, F.im (by decide +kernel), ?_, ?_, ?_, ?_, ?_, ?_, ?_, ?_, ?_, ?_, ?_, ?_⟩
  · rw [im_oth (by decide)]; exact s255
  · rw [im_oth (by decide)]; exact s256
  · rw [im_oth (by decide)]; exact s257
  · rw [im_oth (by decide)]; exact s258
  · rw [im_oth (by decide), if_neg nd]; exact s259
  · rw [im_oth (by decide)]; exact s260
  · rw [im_oth (by decide)]; exact s261
  · rw [im_oth (by decide), if_neg d3]; exact s254
  · rw [im_row, up1_at]
  · rw [im_oth (by decide), if_neg nd]; exact s262
  · rw [im_oth (by decide), if_neg nd]; exact s263
  · rw [im_row, up1_ne (by decide), if_neg nd]; exact s96
theorem gm_2 {i f : Nat} {x1 n D kn : Int32} {L : Nat → Int32} {h g : Hp_} (s : Gmq i f x1 n D kn L h g) (h3 : (h_i h 1 80).toInt < 300) (I : Iv h) (d3 : D = 3) (c : 30 ≤ h_i h 1 96) {x : Int32} (ex : x = h_i h 1 80 + 1) : Smq i f x1 n D kn L h (h_im (h_im g 254 f 1) 1 80 x) := by
  obtain ⟨I', F, s255, s256, s257, s258, s259, s260, s261, s254, s80, s262, s263, s96⟩ := s
  have r := (iq1 I).2.1
  have t1 : (1 : Int32).toInt = 1 := rfl
  have ef : (h_i h 1 80 + 1).toInt = (h_i h 1 80).toInt + 1 := by rw [tx_add (by rw [t1]; omega) (by rw [t1]; omega), t1]
  have nd : ¬ (D = 3 ∧ h_i h 1 96 < 30) := fun u => by
    have a := q_le.mp c
    have b := q_lt.mp u.2
    omega
  subst ex
  refine ⟨iq180 (iq254 I' _ ⟨by decide, by decide⟩) ⟨by rw [ef]; show (0 : Int) ≤ _; omega, by rw [ef]; show _ ≤ (300 : Int); omega⟩, (F.im (inw_row (by decide +kernel) _)).im (by decide +kernel), ?_, ?_, ?_, ?_, ?_, ?_, ?_, ?_, ?_, ?_, ?_, ?_⟩
  · rw [im_oth (by decide), im_oth (by decide)]; exact s255
  · rw [im_oth (by decide), im_oth (by decide)]; exact s256
  · rw [im_oth (by decide), im_oth (by decide)]; exact s257
  · rw [im_oth (by decide), im_oth (by decide)]; exact s258
  · rw [im_oth (by decide), im_oth (by decide), if_neg nd]; exact s259
  · rw [im_oth (by decide), im_oth (by decide)]; exact s260
  · rw [im_oth (by decide), im_oth (by decide)]; exact s261
  · rw [im_oth (by decide), im_row, if_pos d3, s254]
  · rw [im_row, up1_at]
  · rw [im_oth (by decide), im_oth (by decide), if_neg nd]; exact s262
  · rw [im_oth (by decide), im_oth (by decide), if_neg nd]; exact s263
  · rw [im_row, up1_ne (by decide), im_oth (by decide), if_neg nd]; exact s96
theorem gm_3 {i f : Nat} {x1 n D kn : Int32} {L : Nat → Int32} {h g h6 : Hp_} (s : Gmq i f x1 n D kn L h g) (h3 : (h_i h 1 80).toInt < 300) (I : Iv h) (en : h_i h 1 0 = n) (d3 : D = 3) (c : ¬ 30 ≤ h_i h 1 96) {r : Int32} (o : Opq (h_i h 249 f) (h_im g 254 f 1) r h6) {x : Int32} (ex : x = h_i h 1 80 + 1) : Smq i f x1 n D kn L h (h_im (h_im h6 259 i r) 1 80 x) := by
  obtain ⟨I', F, s255, s256, s257, s258, s259, s260, s261, s254, s80, s262, s263, s96⟩ := s
  obtain ⟨I6, F6, er, o262, o263, o96⟩ := o
  have r80 := (iq1 I).2.1
  have t1 : (1 : Int32).toInt = 1 := rfl
  have ef : (h_i h 1 80 + 1).toInt = (h_i h 1 80).toInt + 1 := by rw [tx_add (by rw [t1]; omega) (by rw [t1]; omega), t1]
  have c' := q_nle c
  have yd : D = 3 ∧ h_i h 1 96 < 30 := ⟨d3, q_lt.mpr c'⟩
  have z96 : h_i (h_im g 254 f 1) 1 96 = h_i h 1 96 := by rw [im_oth (by decide)]; exact s96
  have z0 : h_i (h_im g 254 f 1) 1 0 = n := by rw [im_oth (by decide), (F.2 1 0 (by decide +kernel)).1]; exact en
  rw [z96] at er o262 o263 o96
  rw [z0] at o263
  have k6 : ∀ a, off [1096, 262999, 263999] a = true → a ≠ 254 → h_i h6 a = h_i g a := fun a oa na => by rw [show h_i h6 a = h_i (h_im g 254 f 1) a from funext (fun k => fr_i F6 oa k), im_oth na]
  subst ex
  have Fh : Fr wz_X12_see h h6 := (F.im (inw_row (by decide +kernel) _)).tr (F6.more (by decide +kernel))
  refine ⟨iq180 (tr_ 259 (by decide +kernel) I6 _ _ (by decide) (by decide)) ⟨by rw [ef]; show (0 : Int) ≤ _; omega, by rw [ef]; show _ ≤ (300 : Int); omega⟩, (Fh.im (inw_row (by decide +kernel) _)).im (by decide +kernel), ?_, ?_, ?_, ?_, ?_, ?_, ?_, ?_, ?_, ?_, ?_, ?_⟩
  · rw [im_oth (by decide), im_oth (by decide), k6 255 (by decide +kernel) (by decide)]; exact s255
  · rw [im_oth (by decide), im_oth (by decide), k6 256 (by decide +kernel) (by decide)]; exact s256
  · rw [im_oth (by decide), im_oth (by decide), k6 257 (by decide +kernel) (by decide)]; exact s257
  · rw [im_oth (by decide), im_oth (by decide), k6 258 (by decide +kernel) (by decide)]; exact s258
  · rw [im_oth (by decide), im_row, k6 259 (by decide +kernel) (by decide), s259, up1_2, if_pos yd, er]
  · rw [im_oth (by decide), im_oth (by decide), k6 260 (by decide +kernel) (by decide)]; exact s260
  · rw [im_oth (by decide), im_oth (by decide), k6 261 (by decide +kernel) (by decide)]; exact s261
  · rw [im_oth (by decide), im_oth (by decide), show h_i h6 254 = h_i (h_im g 254 f 1) 254 from funext (fun k => fr_i F6 (by decide +kernel) k), im_row, if_pos d3, s254]
  · rw [im_row, up1_at]
  · rw [im_oth (by decide), im_oth (by decide), o262, im_oth (by decide), s262, if_pos yd]
  · rw [im_oth (by decide), im_oth (by decide), o263, im_oth (by decide), s263, if_pos yd]
  · rw [im_row, up1_ne (by decide), im_oth (by decide), o96, if_pos yd]
theorem ix9m {i : Nat} (hi : i < 300) {y : Int32} {t : Nat} (ey : y.toInt = (t : Int)) (ht : t ≤ 8) : vp_in (9 * Int32.ofNat i + y) 2700 ∧ (9 * Int32.ofNat i + y).toNatClampNeg = 9 * i + t := by
  have oi := on_j (n := i) (by omega)
  have a := ix9 (x := Int32.ofNat i) (y := y) (by rw [oi]; omega) ey ht
  rw [on_k (by omega)] at a
  rw [Int32.mul_comm]
  exact ⟨a.1, a.2.1⟩
theorem ix90m {i : Nat} (hi : i < 300) : vp_in (9 * Int32.ofNat i) 2700 ∧ (9 * Int32.ofNat i).toNatClampNeg = 9 * i := by
  have oi := on_j (n := i) (by omega)
  have a := ix90 (x := Int32.ofNat i) (by rw [oi]; omega)
  rw [on_k (by omega)] at a
  rw [Int32.mul_comm]
  exact a
theorem see_st (d : Nat) {E : Enl} {b : Bl} {h : Hp_} (I : Iv h) (P : PMl E b h) {j : Nat} (hj : j < 12) {f : Nat} (hf : f < (b 17 7).toNatClampNeg) {n : Int32} (en : h_i h 1 0 = n) {pl : Nat → Int32} (ep : (fun k => h_i h 209 k) = pl) (cs : csn f (pl j) n b) {x4 x5 : Int32} (e4 : x4 = b 62 f) (e5 : h_i h 1 80 ≤ x5) {K : Hp_ → Prop}
    (k : ∀ h', Iv h' → Fr wz_X12_see h h' → PMl E (sg1 E j n pl f b) h' → AW (m_X12_see (d + 7) 0 0) 0 0 43 [(0, .ref 1), (1, .int (Int32.ofNat j)), (2, .int (cAt pl (pl j) E.2.2.1)), (3, .int (Int32.ofNat f + 1))] [] h' (kV K)) :
    AW (m_X12_see (d + 7) 0 0) 0 0 116 [(0, .ref 1), (1, .int (Int32.ofNat j)), (2, .int (cAt pl (pl j) E.2.2.1)), (3, .int (Int32.ofNat f)), (4, .int x4), (5, .int x5)] [] h (kV K) := by
  have r := iq1 I
  have m12 := P.2.2.2.2.2.2.2.1.2
  have kj := on_k (n := j) (by omega)
  have vj : vp_in (Int32.ofNat j) 12 := on_in (by omega) (by decide)
  have r7 := r.1
  rw [P.1.2.1] at r7
  have n7 := n_nat r7.1
  have kf := on_k (n := f) (by omega)
  have of := on_j (n := f) (by omega)
  have vf : vp_in (Int32.ofNat f) 80 := on_in (by omega) (by decide)
  have rb := r.2.1
  rw [P.1.1] at rb
  have nn := n_nat rb.1
  have c1 := q_nle cs.1
  rw [show (300 : Int32).toInt = 300 from rfl] at c1
  obtain ⟨i, hi⟩ : ∃ i, i = nsB b := ⟨_, rfl⟩
  have nb : nsB b = (b 17 16).toNatClampNeg := rfl
  have i3 : i < 300 := by omega
  have ei : h_i h 1 80 = Int32.ofNat i := by
    rw [P.1.1, hi]
    exact (of_nat32 rb.1).symm
  have ki := on_k (n := i) (by omega)
  have oi := on_j (n := i) (by omega)
  have vi : vp_in (Int32.ofNat i) 300 := on_in i3 (by decide)
  have h80 : (h_i h 1 80).toInt < 300 := by rw [P.1.1]; exact c1
  have j0 := ix90m i3
  have j1 := ix9m i3 (y := 1) (t := 1) rfl (by decide)
  have j2 := ix9m i3 (y := 2) (t := 2) rfl (by decide)
  have j3 := ix9m i3 (y := 3) (t := 3) rfl (by decide)
  have j4 := ix9m i3 (y := 4) (t := 4) rfl (by decide)
  have j5 := ix9m i3 (y := 5) (t := 5) rfl (by decide)
  have j6 := ix9m i3 (y := 6) (t := 6) rfl (by decide)
  have j7 := ix9m i3 (y := 7) (t := 7) rfl (by decide)
  have j8 := ix9m i3 (y := 8) (t := 8) rfl (by decide)
  have q0 := P.2.1 f (by omega)
  have q := q0.1 hf
  have hn : 0 ≤ n.toInt ∧ n.toInt ≤ 20000 := by rw [← en]; exact r.2.2.2
  have nbl : vp_nar .boolean 1 = (1 : Int32) := by decide
  refine t_X12_see_116 d h I.1 _ _ _ x4 x5 _ ⟨fun _ => ?_, fun z => absurd e5 z⟩
  rw [ei]
  refine ⟨vi, vi, vi, vf, j0.1, vf, j1.1, vf, j2.1, j3.1, j4.1, ?_⟩
  rw [ki, kf, en, j0.2, j1.2, j2.2, j3.2, j4.2, hr_eq hn, q.1.1, q.1.2.2.2.2, q.1.2.1]
  refine Ci.mono (c_rkM d ?_ vj _ _) (fun r31 h29 k29 => ?_)
  · exact tr_ 261 (by decide +kernel) (tr_ 261 (by decide +kernel) (tr_ 261 (by decide +kernel) (tr_ 261 (by decide +kernel) (tr_ 261 (by decide +kernel) (tr_ 257 (by decide +kernel) (tr_ 256 (by decide +kernel) (tr_ 255 (by decide +kernel) I _ _ (by decide) (by decide)) _ _ (by decide) (by decide)) _ _ (by decide) (by decide)) _ _ (by decide) (by decide)) _ _ (by decide) (by decide)) _ _ (by decide) (by decide)) _ _ (by decide) (by decide)) _ _ (by decide) (by decide)
  obtain ⟨e31, e29⟩ := k29
  rw [← e29] at e31
  have I29 : Iv h29 := by
    rw [e29]
    exact tr_ 261 (by decide +kernel) (tr_ 261 (by decide +kernel) (tr_ 261 (by decide +kernel) (tr_ 261 (by decide +kernel) (tr_ 261 (by decide +kernel) (tr_ 257 (by decide +kernel) (tr_ 256 (by decide +kernel) (tr_ 255 (by decide +kernel) I _ _ (by decide) (by decide)) _ _ (by decide) (by decide)) _ _ (by decide) (by decide)) _ _ (by decide) (by decide)) _ _ (by decide) (by decide)) _ _ (by decide) (by decide)) _ _ (by decide) (by decide)) _ _ (by decide) (by decide)
  have F29 : Fr wz_X12_see h h29 := by
    rw [e29]
    exact (((((((((Fr.rf _ _).im (inw_row (by decide +kernel) _)).im (inw_row (by decide +kernel) _)).im (inw_row (by decide +kernel) _)).im (inw_row (by decide +kernel) _)).im (inw_row (by decide +kernel) _)).im (inw_row (by decide +kernel) _)).im (inw_row (by decide +kernel) _)).im (inw_row (by decide +kernel) _))
  have w255 : h_i h29 255 = up1 (h_i h 255) i (Int32.ofNat j) := by
    rw [e29]
    repeat first | rw [im_row] | rw [im_oth (by decide)]
  have w256 : h_i h29 256 = up1 (h_i h 256) i (Int32.ofNat f) := by
    rw [e29]
    repeat first | rw [im_row] | rw [im_oth (by decide)]
  have w257 : h_i h29 257 = up1 (h_i h 257) i n := by
    rw [e29]
    repeat first | rw [im_row] | rw [im_oth (by decide)]
  have w261 : h_i h29 261 = up1 (up1 (up1 (up1 (up1 (h_i h 261) (9 * i) (b 57 f)) (9 * i + 1) (b 61 f)) (9 * i + 2) (b 58 f)) (9 * i + 3) (hrN n)) (9 * i + 4) (n / 1440) := by
    rw [e29]
    repeat first | rw [im_row] | rw [im_oth (by decide)]
  have st29 : ∀ a, a = 254 ∨ a = 258 ∨ a = 259 ∨ a = 260 ∨ a = 262 ∨ a = 263 ∨ a = 1 → h_i h29 a = h_i h a := fun a ha => by
    rw [e29]
    rcases ha with e | e | e | e | e | e | e <;> subst e <;> (repeat rw [im_oth (by decide)])
  clear e29
  have PE29 : PEm E b h29 := P.2.2.2.2.fr F29 (by decide +kernel) (fun x => x.fr F29 (by decide +kernel))
  have q31 : r31 = rkB E j n b := by
    rw [e31, kj, PE29.2.1 j hj, PE29.2.2.2.2.2.2.1]
    exact (rkv_eq PE29.1 _ 0 _ _ (by
      have a := I29.2.1 1 29
      rw [show tf 1 29 = (0, 40) by decide +kernel, PE29.2.2.2.2.2.2.1] at a
      have a1 : (b 21 4).toInt ≤ 40 := a.2
      have na := n_nat a.1
      omega)).symm
  refine ⟨I29.1, j5.1, j6.1, j7.1, vf, j8.1, ?_⟩
  rw [j5.2, j6.2, j7.2, j8.2, show h_i h29 1 0 = n by rw [st29 1 (by omega)]; exact en, fr_i F29 (a := 251) (by decide +kernel) f, q.1.2.2.1]
  have L0 : up1 (up1 (up1 (up1 (h_i h29 261) (9 * i + 5) r31) (9 * i + 6) (cAt pl (pl j) E.2.2.1)) (9 * i + 7) x4) (9 * i + 8) (n - b 59 f) = ltM (h_i h 261) i (b 57 f) (b 61 f) (b 58 f) (hrN n) (n / 1440) (rkB E j n b) (cAt pl (pl j) E.2.2.1) (b 62 f) (n - b 59 f) := by
    rw [w261, q31, e4]
    rfl
  have F33 : Fr wz_X12_see h (h_im (h_im (h_im (h_im h29 261 (9 * i + 5) r31) 261 (9 * i + 6) (cAt pl (pl j) E.2.2.1)) 261 (9 * i + 7) x4) 261 (9 * i + 8) (n - b 59 f)) := (((F29.im (inw_row (by decide +kernel) _)).im (inw_row (by decide +kernel) _)).im (inw_row (by decide +kernel) _)).im (inw_row (by decide +kernel) _)
  refine Ci.mono (c_letM d (tr_ 261 (by decide +kernel) (tr_ 261 (by decide +kernel) (tr_ 261 (by decide +kernel) (tr_ 261 (by decide +kernel) I29 _ _ (by decide) (by decide)) _ _ (by decide) (by decide)) _ _ (by decide) (by decide)) _ _ (by decide) (by decide)) (P.2.2.2.2.fr F33 (by decide +kernel) (fun x => x.fr F33 (by decide +kernel))) i i3 _) (fun r39 h37 k37 => ?_)
  obtain ⟨I37, F37, e39⟩ := k37
  have o33 : ∀ a, a ≠ 261 → h_i (h_im (h_im (h_im (h_im h29 261 (9 * i + 5) r31) 261 (9 * i + 6) (cAt pl (pl j) E.2.2.1)) 261 (9 * i + 7) x4) 261 (9 * i + 8) (n - b 59 f)) a = h_i h29 a := fun a na => by rw [im_oth na, im_oth na, im_oth na, im_oth na]
  have l33 : h_i (h_im (h_im (h_im (h_im h29 261 (9 * i + 5) r31) 261 (9 * i + 6) (cAt pl (pl j) E.2.2.1)) 261 (9 * i + 7) x4) 261 (9 * i + 8) (n - b 59 f)) 261 = ltM (h_i h 261) i (b 57 f) (b 61 f) (b 58 f) (hrN n) (n / 1440) (rkB E j n b) (cAt pl (pl j) E.2.2.1) (b 62 f) (n - b 59 f) := by rw [im_row, im_row, im_row, im_row, L0]
  rw [o33 257 (by decide), w257, up1_at, l33] at e39
  have F37' : Fr wz_X12_see h h37 := F33.tr (F37.more (by decide +kernel))
  have g37 : ∀ a, off wzL a = true → a ≠ 261 → h_i h37 a = h_i h29 a := fun a oa na => (funext (fun k => fr_i F37 oa k)).trans (o33 a na)
  have l37 : h_i h37 261 = ltM (h_i h 261) i (b 57 f) (b 61 f) (b 58 f) (hrN n) (n / 1440) (rkB E j n b) (cAt pl (pl j) E.2.2.1) (b 62 f) (n - b 59 f) := (funext (fun k => fr_i F37 (by decide +kernel) k)).trans l33
  have z37 : ∀ k, inw wzL 1 k = false → h_i h37 1 k = h_i h 1 k := fun k ok => by rw [(F37.2 1 k ok).1, o33 1 (by decide), st29 1 (by omega)]
  clear F37 o33 l33
  have b13 : 0 ≤ (b 13 5).toInt ∧ (b 13 5).toInt ≤ 20 := by
    have := i20 I
    rw [P.2.2.2.2.2.2.2.2.2.2.2] at this
    exact this
  have lM : ∀ t, t < 9 → ltM (h_i h 261) i (b 57 f) (b 61 f) (b 58 f) (hrN n) (n / 1440) (rkB E j n b) (cAt pl (pl j) E.2.2.1) (b 62 f) (n - b 59 f) (9 * i + t) = lrB E j n pl f b (9 * i + t) := fun t ht => by
    unfold lrB
    rw [← hi]
    exact lt_MR ht
  have q39 : r39 = dnB E j n pl f b := by
    rw [e39]
    unfold dnB
    rw [← hi]
    exact evB_c b13 (fun k hk => (P.2.2.2.2.2.2.2.2.2.1 k hk).1) lM
  have e1 : Fr wz_X12_see h h37 := F37'
  generalize hL : ltM (h_i h 261) i (b 57 f) (b 61 f) (b 58 f) (hrN n) (n / 1440) (rkB E j n b) (cAt pl (pl j) E.2.2.1) (b 62 f) (n - b 59 f) = L at l37 lM
  have lo : ∀ k, k < 9 * i → L k = h_i h 261 k := fun k hk => by rw [← hL]; exact ltM_o hk
  -- the end, alike in all cases
  have fin : ∀ (kn : Int32) (h' : Hp_), kn = (if ¬ dnB E j n pl f b ≤ 1 ∧ ¬ E.2.1 (pl j) 0 = -1 then n + E.2.1 (pl j) 0 else -1) → Smq i f (Int32.ofNat j) n r39 kn L h h' → AW (m_X12_see (d + 7) 0 0) 0 0 43 [(0, .ref 1), (1, .int (Int32.ofNat j)), (2, .int (cAt pl (pl j) E.2.2.1)), (3, .int (Int32.ofNat f + 1))] [] h' (kV K) := fun kn h' ek s => by
    rw [ek, q39, hi] at s
    rw [hi] at lM lo
    exact k h' s.1 s.2.1 (P.sg I hf (by omega) lM lo s)
  have G0 : Gmq i f (Int32.ofNat j) n r39 (-1) L h (h_im (h_im (h_im h37 258 i r39) 259 i (-1)) 260 i (-1)) := by
    refine ⟨tr_ 260 (by decide +kernel) (tr_ 259 (by decide +kernel) (tr_ 258 (by decide +kernel) I37 _ _ (by decide) (by decide)) _ _ (by decide) (by decide)) _ _ (by decide) (by decide), ((e1.im (inw_row (by decide +kernel) _)).im (inw_row (by decide +kernel) _)).im (inw_row (by decide +kernel) _), ?_, ?_, ?_, ?_, ?_, ?_, ?_, ?_, ?_, ?_, ?_, ?_⟩
    · rw [im_oth (by decide), im_oth (by decide), im_oth (by decide), g37 255 (by decide +kernel) (by decide)]; exact w255
    · rw [im_oth (by decide), im_oth (by decide), im_oth (by decide), g37 256 (by decide +kernel) (by decide)]; exact w256
    · rw [im_oth (by decide), im_oth (by decide), im_oth (by decide), g37 257 (by decide +kernel) (by decide)]; exact w257
    · rw [im_oth (by decide), im_oth (by decide), im_row, g37 258 (by decide +kernel) (by decide), st29 258 (by omega)]
    · rw [im_oth (by decide), im_row, im_oth (by decide), g37 259 (by decide +kernel) (by decide), st29 259 (by omega)]
    · rw [im_row, im_oth (by decide), im_oth (by decide), g37 260 (by decide +kernel) (by decide), st29 260 (by omega)]
    · rw [im_oth (by decide), im_oth (by decide), im_oth (by decide)]; exact l37
    · rw [im_oth (by decide), im_oth (by decide), im_oth (by decide), g37 254 (by decide +kernel) (by decide), st29 254 (by omega)]
    · rw [im_oth (by decide), im_oth (by decide), im_oth (by decide)]; exact z37 80 (by decide +kernel)
    · rw [im_oth (by decide), im_oth (by decide), im_oth (by decide), g37 262 (by decide +kernel) (by decide), st29 262 (by omega)]
    · rw [im_oth (by decide), im_oth (by decide), im_oth (by decide), g37 263 (by decide +kernel) (by decide), st29 263 (by omega)]
    · rw [im_oth (by decide), im_oth (by decide), im_oth (by decide)]; exact z37 96 (by decide +kernel)
  have e80 : h_i h37 1 80 + 1 = h_i h 1 80 + 1 := by rw [z37 80 (by decide +kernel)]
  have k249 : ∀ g, Fr wz_X12_see h g → h_i g 249 f = h_i h 249 f := fun g F => fr_i F (by decide +kernel) f
  have rk9 : rin (h_i h 249 f).toInt (0, 9) := dp_rg I 249 f (show tfa 249 = some (0, 9) by decide +kernel)
  refine ⟨I37.1, vi, vi, vi, vi, fun y => ⟨vi, fun n3 => ?_, fun y3 => ?_⟩, fun ny => ⟨vj, ?_⟩⟩
  · exact fin (-1) _ (if_neg (fun u => u.1 (q39 ▸ y))).symm (gm_1 G0 h80 I n3 e80)
  · rw [y3] at y
    exact absurd y (by decide)
  · have hp : h_i h37 209 (Int32.ofNat j).toNatClampNeg = pl j := by rw [kj, fr_i e1 (a := 209) (by decide +kernel) j, ← ep]
    have pb : 0 ≤ (pl j).toInt ∧ (pl j).toInt < 16 := by rw [← cs.2.2.1]; exact q.2
    rw [hp]
    have xp : ExP (h_im (h_im (h_im h37 258 i r39) 259 i (-1)) 260 i (-1)) := P.2.2.2.2.2.2.2.2.1.1.fr G0.2.1 (by decide +kernel)
    refine Ci.mono (c_woI d G0.1 xp (pl j) 0 pb ⟨by decide, by decide⟩) (fun r57 h55 k57 => ?_)
    obtain ⟨I55, F55, e57⟩ := k57
    have w57 : r57 = E.2.1 (pl j) 0 := by
      rw [e57, ← P.2.2.2.2.2.2.2.2.1.2]
      unfold wI
      rw [fr_i G0.2.1 (a := 30) (by decide +kernel) _]
    have F55' : Fr wz_X12_see h h55 := G0.2.1.tr (F55.more (by decide +kernel))
    have g55 : ∀ a, off [203999] a = true → h_i h55 a = h_i (h_im (h_im (h_im h37 258 i r39) 259 i (-1)) 260 i (-1)) a := fun a oa => funext (fun k => fr_i F55 oa k)
    have G1 : ∀ kn, Gmq i f (Int32.ofNat j) n r39 kn L h (h_im h55 260 i kn) := fun kn => by
      obtain ⟨_, _, a255, a256, a257, a258, a259, a260, a261, a254, a80, a262, a263, a96⟩ := G0
      refine ⟨tr_ 260 (by decide +kernel) I55 _ _ (by decide) (by decide), F55'.im (inw_row (by decide +kernel) _), ?_, ?_, ?_, ?_, ?_, ?_, ?_, ?_, ?_, ?_, ?_, ?_⟩
      · rw [im_oth (by decide), g55 255 (by decide +kernel)]; exact a255
      · rw [im_oth (by decide), g55 256 (by decide +kernel)]; exact a256
      · rw [im_oth (by decide), g55 257 (by decide +kernel)]; exact a257
      · rw [im_oth (by decide), g55 258 (by decide +kernel)]; exact a258
      · rw [im_oth (by decide), g55 259 (by decide +kernel)]; exact a259
      · rw [im_row, g55 260 (by decide +kernel), a260, up1_2]
      · rw [im_oth (by decide), g55 261 (by decide +kernel)]; exact a261
      · rw [im_oth (by decide), g55 254 (by decide +kernel)]; exact a254
      · rw [im_oth (by decide), g55 1 (by decide +kernel)]; exact a80
      · rw [im_oth (by decide), g55 262 (by decide +kernel)]; exact a262
      · rw [im_oth (by decide), g55 263 (by decide +kernel)]; exact a263
      · rw [im_oth (by decide), g55 1 (by decide +kernel)]; exact a96
    have s258 : h_i h55 258 i = r39 := by rw [g55 258 (by decide +kernel), G0.2.2.2.2.2.1, up1_at]
    have s80 : h_i h55 1 80 + 1 = h_i h 1 80 + 1 := by rw [g55 1 (by decide +kernel), G0.2.2.2.2.2.2.2.2.2.2.1]
    have s96 : h_i h55 1 96 = h_i h 1 96 := by rw [g55 1 (by decide +kernel)]; exact G0.2.2.2.2.2.2.2.2.2.2.2.2.2
    have s0 : h_i h55 1 0 = n := by rw [(F55'.2 1 0 (by decide +kernel)).1]; exact en
    -- both ways on
    have go : ∀ kn, kn = (if ¬ dnB E j n pl f b ≤ 1 ∧ ¬ E.2.1 (pl j) 0 = -1 then n + E.2.1 (pl j) 0 else -1) → (¬ r39 = 3 → AW (m_X12_see (d + 7) 0 0) 0 0 43 [(0, .ref 1), (1, .int (Int32.ofNat j)), (2, .int (cAt pl (pl j) E.2.2.1)), (3, .int (Int32.ofNat f + 1))] [] (h_im (h_im h55 260 i kn) 1 80 (h_i h55 1 80 + 1)) (kV K)) ∧ (r39 = 3 → vp_in (Int32.ofNat f) 80 ∧ ((30 ≤ h_i h55 1 96 → AW (m_X12_see (d + 7) 0 0) 0 0 43 [(0, .ref 1), (1, .int (Int32.ofNat j)), (2, .int (cAt pl (pl j) E.2.2.1)), (3, .int (Int32.ofNat f + 1))] [] (h_im (h_im (h_im h55 260 i kn) 254 f 1) 1 80 (h_i h55 1 80 + 1)) (kV K)) ∧ (¬ 30 ≤ h_i h55 1 96 → vp_in (Int32.ofNat f) 80 ∧ Ci (m_X12_opened (d + 0) 0 0) [.ref 1, .int (h_i h55 249 f)] (h_im (h_im h55 260 i kn) 254 f 1) (fun r67 h65 => Wf h65 ∧ (vp_in (Int32.ofNat i) 300 ∧ AW (m_X12_see (d + 7) 0 0) 0 0 43 [(0, .ref 1), (1, .int (Int32.ofNat j)), (2, .int (cAt pl (pl j) E.2.2.1)), (3, .int (Int32.ofNat f + 1))] [] (h_im (h_im h65 259 i r67) 1 80 (h_i h65 1 80 + 1)) (kV K)))))) := fun kn ek => by
      refine ⟨fun n3 => fin kn _ ek (gm_1 (G1 kn) h80 I n3 s80), fun y3 => ⟨vf, fun c => fin kn _ ek (gm_2 (G1 kn) h80 I y3 (by rw [← s96]; exact c) s80), fun c => ⟨vf, ?_⟩⟩⟩
      have IG := (G1 kn).1
      have c' : ¬ 30 ≤ h_i (h_im (h_im h55 260 i kn) 254 f 1) 1 96 := by rw [im_oth (by decide), im_oth (by decide)]; exact c
      rw [k249 h55 F55']
      refine Ci.mono (c_opn d (iq254 IG _ ⟨by decide, by decide⟩) c' rk9) (fun r67 h65 o => ⟨o.1.1, vi, ?_⟩)
      have e65 : h_i h65 1 80 + 1 = h_i h 1 80 + 1 := by rw [(o.2.1.2 1 80 (by decide +kernel)).1, im_oth (by decide), im_oth (by decide), s80]
      exact fin kn _ ek (gm_3 (G1 kn) h80 I en y3 (by rw [← s96]; exact c) o e65)
    rw [s258, s0, nbl]
    refine ⟨I55.1, fun nw => ⟨vi, vi, ?_⟩, fun yw => ⟨vi, vi, ?_⟩⟩
    · exact go (n + r57) (by rw [w57] at nw ⊢; rw [if_pos ⟨q39 ▸ ny, nw⟩])
    · exact go (-1) (by rw [w57] at yw; rw [if_neg (fun u => u.2 yw)])
end
section
/-! LOOKS, the reference: the loops; what the men's machine wants of it -/
theorem see_116 (d : Nat) {E : Enl} {b : Bl} {h : Hp_} (I : Iv h) (P : PMl E b h) {j : Nat} (hj : j < 12) {f : Nat} (hf : f < (b 17 7).toNatClampNeg) {n : Int32} (en : h_i h 1 0 = n) {pl : Nat → Int32} (ep : (fun k => h_i h 209 k) = pl) (cs : csn f (pl j) n b) {K : Hp_ → Prop}
    (k : ∀ h', Iv h' → Fr wz_X12_see h h' → PMl E (sg1 E j n pl f b) h' → AW (m_X12_see (d + 7) 0 0) 0 0 43 [(0, .ref 1), (1, .int (Int32.ofNat j)), (2, .int (cAt pl (pl j) E.2.2.1)), (3, .int (Int32.ofNat f + 1))] [] h' (kV K)) :
    AW (m_X12_see (d + 7) 0 0) 0 0 116 [(0, .ref 1), (1, .int (Int32.ofNat j)), (2, .int (cAt pl (pl j) E.2.2.1)), (3, .int (Int32.ofNat f)), (4, .int 0), (5, .int 0)] [] h (kV K) := by
  have r := iq1 I
  have rb := r.2.1
  rw [P.1.1] at rb
  have nn := n_nat rb.1
  have r7 := r.1
  rw [P.1.2.1] at r7
  have n7 := n_nat r7.1
  have q0 := P.2.1 f (by omega)
  have q := q0.1 hf
  have nb : nsB b = (b 17 16).toNatClampNeg := rfl
  have lp : ∀ (t i : Nat), i + t = nsB b → AW (m_X12_see (d + 7) 0 0) 0 0 116 [(0, .ref 1), (1, .int (Int32.ofNat j)), (2, .int (cAt pl (pl j) E.2.2.1)), (3, .int (Int32.ofNat f)), (4, .int (cAt (b 65) (Int32.ofNat f) i)), (5, .int (Int32.ofNat i))] [] h (kV K) := by
    intro t
    induction t with
    | zero =>
      intro i e
      refine see_st d I P hj hf en ep cs ?_ ?_ k
      · rw [q0.2.2, show i = nsB b by omega]
      · rw [P.1.1]
        refine q_le.mpr ?_
        rw [on_j (by omega)]
        omega
    | succ t ih =>
      intro i e
      have ki := on_k (n := i) (by omega)
      have oi := on_j (n := i) (by omega)
      have vi : vp_in (Int32.ofNat i) 300 := on_in (by omega) (by decide)
      have y := ih (i + 1) (by omega)
      rw [← on_s (by omega)] at y
      have s := (P.2.2.1 i (by omega)).1.2.1
      refine t_X12_see_116 d h I.1 _ _ _ _ _ _ ⟨fun z => ?_, fun _ => ⟨vi, ?_⟩⟩
      · have z := q_le.mp z
        rw [P.1.1, oi] at z
        omega
      · rw [ki, s]
        refine ⟨fun z => ?_, fun z => ?_⟩
        · rw [show cAt (b 65) (Int32.ofNat f) (i + 1) = cAt (b 65) (Int32.ofNat f) i from if_neg z] at y
          rw [Int32.add_zero]
          exact y
        · rw [show cAt (b 65) (Int32.ofNat f) (i + 1) = cAt (b 65) (Int32.ofNat f) i + 1 from if_pos z] at y
          exact y
  exact lp (nsB b) 0 (by omega)
theorem c_seeM (d : Nat) {E : Enl} {b : Bl} {h : Hp_} (I : Iv h) (P : PMl E b h) {x1 : Int32} (p : 0 ≤ x1.toInt ∧ x1.toInt ≤ 11) : Cv (m_X12_see (d + 7) 0 0) [.ref 1, .int x1] h (fun h' => Iv h' ∧ Fr wz_X12_see h h' ∧ PMl E (lR (lPB E) x1.toNatClampNeg h b) h') := by
  have n1 := n_nat p.1
  obtain ⟨j, hj⟩ : ∃ j, j = x1.toNatClampNeg := ⟨_, rfl⟩
  have ex : x1 = Int32.ofNat j := by rw [hj]; exact (of_nat32 p.1).symm
  have pm : j < 12 := by omega
  have kj := on_k (n := j) (by omega)
  have vj : vp_in (Int32.ofNat j) 12 := on_in (by omega) (by decide)
  rw [← hj, ex]
  have r := iq1 I
  have n79 := n_nat r.1.1
  have m12 := P.2.2.2.2.2.2.2.1
  have fn : ∀ (t i : Nat) (h2 : Hp_), i + t = (b 17 7).toNatClampNeg → Iv h2 → Fr wz_X12_see h h2 → PMl E (lkN E j (h_i h 1 0) (fun k => h_i h 209 k) i b) h2 → AW (m_X12_see (d + 7) 0 0) 0 0 43 [(0, .ref 1), (1, .int (Int32.ofNat j)), (2, .int (cAt (fun k => h_i h 209 k) (h_i h 209 j) E.2.2.1)), (3, .int (Int32.ofNat i))] [] h2 (kV (fun h' => Iv h' ∧ Fr wz_X12_see h h' ∧ PMl E (lR (lPB E) j h b) h')) := by
    intro t
    induction t with
    | zero =>
      intro i h2 e I2 F2 P2
      have e79 : h_i h2 1 79 = h_i h 1 79 := (F2.2 1 79 (by decide +kernel)).1
      refine t_X12_see_43 d h2 I2.1 _ _ _ _ ⟨fun _ => ⟨I2, F2, ?_⟩, fun z => ?_⟩
      · unfold lR lPB
        rw [← e]
        exact P2
      · have z := q_nle z
        rw [P.1.2.1] at n79 r e79
        rw [e79, on_j (by omega)] at z
        omega
    | succ t ih =>
      intro i h2 e I2 F2 P2
      have e79 : h_i h2 1 79 = h_i h 1 79 := (F2.2 1 79 (by decide +kernel)).1
      have n2 : h_i h2 1 0 = h_i h 1 0 := (F2.2 1 0 (by decide +kernel)).1
      have p2 : (fun k => h_i h2 209 k) = (fun k => h_i h 209 k) := funext (fun k => fr_i F2 (by decide +kernel) k)
      rw [P.1.2.1] at n79 r e79
      have oi := on_j (n := i) (by omega)
      have ki := on_k (n := i) (by omega)
      have vi : vp_in (Int32.ofNat i) 80 := on_in (by omega) (by decide)
      have b7 : lkN E j (h_i h 1 0) (fun k => h_i h 209 k) i b 17 7 = b 17 7 := lkN_17 i
      have hf : i < (lkN E j (h_i h 1 0) (fun k => h_i h 209 k) i b 17 7).toNatClampNeg := by rw [b7]; omega
      have q0 := P2.2.1 i (by omega)
      have q := q0.1 hf
      have nxt := ih (i + 1)
      rw [← on_s (by omega)] at nxt
      have stay : ¬ csn i (h_i h 209 j) (h_i h 1 0) (lkN E j (h_i h 1 0) (fun k => h_i h 209 k) i b) → AW (m_X12_see (d + 7) 0 0) 0 0 43 [(0, .ref 1), (1, .int (Int32.ofNat j)), (2, .int (cAt (fun k => h_i h 209 k) (h_i h 209 j) E.2.2.1)), (3, .int (Int32.ofNat i + 1))] [] h2 (kV (fun h' => Iv h' ∧ Fr wz_X12_see h h' ∧ PMl E (lR (lPB E) j h b) h')) := fun nc => by
        refine nxt h2 (by omega) I2 F2 ?_
        show PMl E (lk1 E j (h_i h 1 0) (fun k => h_i h 209 k) i (lkN E j (h_i h 1 0) (fun k => h_i h 209 k) i b)) h2
        unfold lk1
        rw [if_neg nc]
        exact P2
      refine t_X12_see_43 d h2 I2.1 _ _ _ _ ⟨fun z => ?_, fun _ => ⟨vi, vj, ?_⟩⟩
      · have z := q_le.mp z
        rw [e79, oi] at z
        omega
      · rw [ki, kj, n2, show h_i h2 209 j = h_i h 209 j from congrFun p2 j, q.1.2.1, q.1.2.2.1, q.1.2.2.2.1, q0.2.1, P2.1.1]
        refine ⟨fun z => stay (fun u => z u.2.2.1), fun a3 => ⟨vi, vi, fun z => stay (fun u => z u.2.2.2), fun a4 => ⟨vi, fun z => stay (fun u => z u.2.1), fun a2 => ⟨fun z => ?_, fun z => stay (fun u => u.1 (by rw [z]; decide))⟩⟩⟩⟩
        have c : csn i (h_i h 209 j) (h_i h 1 0) (lkN E j (h_i h 1 0) (fun k => h_i h 209 k) i b) := by
          refine ⟨fun u => z (Int32.toInt_inj.mp ?_), a2, a3, a4⟩
          have u := q_le.mp u
          have r2 := (iq1 I2).2.1
          rw [P2.1.1] at r2
          rw [show (300 : Int32).toInt = 300 from rfl] at u ⊢
          omega
        refine see_116 d I2 P2 pm hf n2 p2 c (fun h7 I7 F7 P7 => ?_)
        refine nxt h7 (by omega) I7 (F2.tr F7) ?_
        show PMl E (lk1 E j (h_i h 1 0) (fun k => h_i h 209 k) i (lkN E j (h_i h 1 0) (fun k => h_i h 209 k) i b)) h7
        unfold lk1
        rw [if_pos c]
        exact P7
  have lp : ∀ (t i : Nat), i + t = E.2.2.1 → AW (m_X12_see (d + 7) 0 0) 0 0 4 [(0, .ref 1), (1, .int (Int32.ofNat j)), (2, .int (cAt (fun k => h_i h 209 k) (h_i h 209 j) i)), (3, .int (Int32.ofNat i))] [] h (kV (fun h' => Iv h' ∧ Fr wz_X12_see h h' ∧ PMl E (lR (lPB E) j h b) h')) := by
    intro t
    induction t with
    | zero =>
      intro i e
      refine t_X12_see_4 d h I.1 _ _ _ _ ⟨fun _ => ?_, fun z => ?_⟩
      · have y := fn (b 17 7).toNatClampNeg 0 h (by omega) I (Fr.rf _ _) P
        rw [show i = E.2.2.1 by omega]
        exact y
      · have z := q_nle z
        rw [m12.1, on_j (by have := m12.2; omega), on_j (by have := m12.2; omega)] at z
        omega
    | succ t ih =>
      intro i e
      have ki := on_k (n := i) (by have := m12.2; omega)
      have vi : vp_in (Int32.ofNat i) 12 := on_in (by have := m12.2; omega) (by decide)
      have y := ih (i + 1) (by omega)
      rw [← on_s (by have := m12.2; omega)] at y
      refine t_X12_see_4 d h I.1 _ _ _ _ ⟨fun z => ?_, fun _ => ⟨vi, vj, ?_⟩⟩
      · have z := q_le.mp z
        rw [m12.1, on_j (by have := m12.2; omega), on_j (by have := m12.2; omega)] at z
        omega
      · rw [ki, kj]
        refine ⟨fun z => ?_, fun z => ?_⟩
        · rw [show cAt (fun k => h_i h 209 k) (h_i h 209 j) (i + 1) = cAt (fun k => h_i h 209 k) (h_i h 209 j) i from if_neg z] at y
          rw [Int32.add_zero]
          exact y
        · rw [show cAt (fun k => h_i h 209 k) (h_i h 209 j) (i + 1) = cAt (fun k => h_i h 209 k) (h_i h 209 j) i + 1 from if_pos z] at y
          exact y
  exact t_X12_see d h _ _ (lp E.2.2.1 0 (by omega))
/-- one who is free tells what he noted, the reference -/
theorem PMl.tn {E : Enl} {b : Bl} {h h' : Hp_} (P : PMl E b h) {x1 x2 : Int32} (F : Fr [260999] h h') (e : ∀ i, i < nsB b → h_i h' 260 i = tnK (nsB b) x1 x2 b i) : PMl E (tnB x1 x2 b) h' := by
  obtain ⟨a1, a2, a3, a4, a5⟩ := P
  have g : ∀ a, off [260999] a = true → h_i h' a = h_i h a := fun a oa => funext (fun k => fr_i F oa k)
  refine ⟨?_, ?_, fun i hi => ?_, ?_, (a5.fr F (by decide +kernel) (fun x => x.fr F (by decide +kernel))).b (fun a ha => tnB_o ?_)⟩
  · rw [g 1 (by decide +kernel)]
    exact a1
  · rw [g 249 (by decide +kernel), g 250 (by decide +kernel), g 251 (by decide +kernel), g 252 (by decide +kernel), g 253 (by decide +kernel), g 254 (by decide +kernel)]
    exact a2
  · have q := a3 i hi
    rw [g 255 (by decide +kernel), g 256 (by decide +kernel), g 257 (by decide +kernel), g 258 (by decide +kernel), g 259 (by decide +kernel), g 261 (by decide +kernel)]
    exact ⟨⟨q.1.1, q.1.2.1, q.1.2.2.1, q.1.2.2.2.1, q.1.2.2.2.2.1, e i hi⟩, q.2⟩
  · rw [g 262 (by decide +kernel), g 263 (by decide +kernel)]
    exact a4
  · have z : lkS.all (fun a => decide (a ≠ 69)) = true := by decide
    exact of_decide_eq_true (List.all_eq_true.mp z a ha)
theorem c_freeM (d : Nat) {E : Enl} {b : Bl} {h : Hp_} (I : Iv h) (P : PMl E b h) (x1 : Int32) : AW (m_X12_free (d + 0) 0 0) 0 0 42 [(0, .ref 1), (1, .int x1), (2, .int 0)] [] h (kV (fun h' => Iv h' ∧ Fr [260999] h h' ∧ PMl E (tnB x1 (h_i h 1 0) b) h')) := by
  have r := (iq1 I).2.1
  rw [P.1.1] at r
  have nn := n_nat r.1
  have nb : nsB b = (b 17 16).toNatClampNeg := rfl
  have lp : ∀ (t i : Nat) (h2 : Hp_), i + t = nsB b → Iv h2 → Fr [260999] h h2 → (∀ k, k < nsB b → h_i h2 260 k = tnK i x1 (h_i h 1 0) b k) → AW (m_X12_free (d + 0) 0 0) 0 0 42 [(0, .ref 1), (1, .int x1), (2, .int (Int32.ofNat i))] [] h2 (kV (fun h' => Iv h' ∧ Fr [260999] h h' ∧ PMl E (tnB x1 (h_i h 1 0) b) h')) := by
    intro t
    induction t with
    | zero =>
      intro i h2 e I2 F2 R2
      refine t_X12_free_42 d h2 I2.1 x1 _ _ ⟨fun _ => ⟨I2, F2, P.tn F2 (fun k hk => ?_)⟩, fun z => ?_⟩
      · rw [R2 k hk, show i = nsB b by omega]
      · have z := q_nle z
        rw [fr_i F2 (a := 1) (by decide +kernel) 80, P.1.1, on_j (by omega)] at z
        omega
    | succ t ih =>
      intro i h2 e I2 F2 R2
      have oi := on_j (n := i) (by omega)
      have ki := on_k (n := i) (by omega)
      have v : vp_in (Int32.ofNat i) 300 := on_in (by omega) (by decide)
      have q := (P.2.2.1 i (by omega)).1
      have st := tnK_s i x1 (h_i h 1 0) b
      refine t_X12_free_42 d h2 I2.1 x1 _ _ ⟨fun z => ?_, fun _ => ⟨v, ?_⟩⟩
      · have z := q_le.mp z
        rw [fr_i F2 (a := 1) (by decide +kernel) 80, P.1.1, oi] at z
        omega
      · rw [ki, fr_i F2 (a := 255) (by decide +kernel) i, q.1, fr_i F2 (a := 258) (by decide +kernel) i, q.2.2.2.1, R2 i (by omega), tnK_i, fr_i F2 (a := 1) (by decide +kernel) 0, on_s (by omega)]
        refine ⟨fun z => ?_, fun a1 => ⟨v, fun z => ?_, fun a2 => ⟨v, fun z => ?_, fun a3 => ⟨v, ?_⟩⟩⟩⟩
        · exact ih (i + 1) h2 (by omega) I2 F2 (by rw [st, if_neg (fun u => z u.1)]; exact R2)
        · exact ih (i + 1) h2 (by omega) I2 F2 (by rw [st, if_neg (fun u => z u.2.1)]; exact R2)
        · exact ih (i + 1) h2 (by omega) I2 F2 (by rw [st, if_neg (fun u => z u.2.2)]; exact R2)
        · refine ih (i + 1) _ (by omega) (i260 I2 _ _) (F2.im (inw_row (by decide +kernel) _)) (fun k hk => ?_)
          rw [im_row, st, if_pos ⟨a1, a2, a3⟩]
          by_cases u : k = i
          · rw [u, up1_at, up1_at]
          · rw [up1_ne u, up1_ne u]
            exact R2 k hk
  exact lp (nsB b) 0 h (by omega) I (Fr.rf _ _) (fun k hk => by
    rw [(P.2.2.1 k hk).1.2.2.2.2.2]
    exact (if_neg (fun u => by omega)).symm)
def mws : List Nat := [1000, 1063, 208999, 209999, 210999, 211999, 212999, 213999, 214999, 215999, 216999, 217999, 218999, 219999, 220999, 238999, 239999, 240999, 241999, 242999, 243999, 244999, 248999]
theorem PMl.im {E : Enl} {b : Bl} {h : Hp_} {a k : Nat} {x : Int32} (P : PMl E b h) (o : (208 ≤ a ∧ a ≤ 219) ∨ (238 ≤ a ∧ a ≤ 244) ∨ a = 248 ∨ (a = 1 ∧ k = 63)) : PMl E b (h_im h a k x) := by
  have z : (List.range 249).all (fun a => (!(decide (208 ≤ a ∧ a ≤ 219) || decide (238 ≤ a ∧ a ≤ 244) || decide (a = 248))) || inw mws a 999) = true := by decide +kernel
  have g : inw mws a k = true := by
    by_cases e : a = 1 ∧ k = 63
    · rw [e.1, e.2]
      decide +kernel
    · have c : (208 ≤ a ∧ a ≤ 219) ∨ (238 ≤ a ∧ a ≤ 244) ∨ a = 248 := by
        rcases o with o | o | o | o
        · exact Or.inl o
        · exact Or.inr (Or.inl o)
        · exact Or.inr (Or.inr o)
        · exact absurd o e
      have y := List.all_eq_true.mp z a (List.mem_range.mpr (by omega))
      rw [Bool.or_eq_true, Bool.not_eq_true', Bool.or_eq_false_iff, Bool.or_eq_false_iff, decide_eq_false_iff_not, decide_eq_false_iff_not, decide_eq_false_iff_not] at y
      rcases y with y | y
      · exact absurd c (fun c => by
          rcases c with c | c | c
          · exact y.1.1 c
          · exact y.1.2 c
          · exact y.2 c)
      · exact inw_row y k
  have F : Fr mws h (h_im h a k x) := (Fr.rf _ _).im g
  exact P.fr F (by decide +kernel) (by decide +kernel) (fun x => x.fr F (by decide +kernel))
theorem pmL (E : Enl) : PMok (PMl E) tnB (lR (lPB E)) := ⟨fun b h a k x o P => P.im o, fun b h h' F P => P.fr F (by decide +kernel) (by decide +kernel) (fun x => x.fr F (by decide +kernel)), fun d b h x1 I _ P => c_freeM d I P x1, fun d b h x1 I p P => c_seeM d I P p⟩
theorem pmtL (E : Enl) (m : Nat) : PMtk (PMl E) nBl m := fun b h h' x I F _ P => by
  have G : Fr mws h (h_im h' 1 0 x) := (F.more (by decide +kernel)).im (by decide +kernel)
  exact P.fr G (by decide +kernel) (by decide +kernel) (fun x => x.fr G (by decide +kernel))
end
section
/-! LOOKS: what class and reference keep alike between calls -/
def gdC (h : Hp_) (k : Nat) (C : List Cl2) : Prop := (∀ c ∈ C, clO 1 c) ∧ (h_i h 39 k = Int32.ofNat (rlN C) ∧ rlN C ≤ 164 ∧ ∀ i v, (rlX 1 0 C)[i]? = some v → h_i h 40 (164 * k + i) = v) ∧ At_ (h_i h 231) (560 * k) (rlM C) ∧ h_i h 232 k = Int32.ofNat (rlM C).length ∧ (rlM C).length ≤ 560
noncomputable def CCo (h : Hp_) (k : Nat) : List Cl2 := Classical.epsilon (gdC h k)
noncomputable def El (h : Hp_) : Enl := (CCo h, wI h, (h_i h 0 7).toNatClampNeg, h_i h 204)
def ExK (h : Hp_) : Prop := (h_i h 1 80 = h_i h 17 16 ∧ h_i h 1 79 = h_i h 17 7 ∧ h_i h 1 96 = h_i h 18 3 ∧ h_i h 1 29 = h_i h 21 4 ∧ h_i h 235 0 = h_i h 13 5 ∧ (h_i h 0 7).toNatClampNeg ≤ 12) ∧ (∀ f : Nat, f < 80 → (f < (h_i h 17 7).toNatClampNeg → (h_i h 249 f = h_i h 57 f ∧ h_i h 250 f = h_i h 58 f ∧ h_i h 251 f = h_i h 59 f ∧ h_i h 252 f = h_i h 60 f ∧ h_i h 253 f = h_i h 61 f) ∧ (0 ≤ (h_i h 58 f).toInt ∧ (h_i h 58 f).toInt < 16)) ∧ h_i h 254 f = h_i h 63 f ∧ h_i h 62 f = cAt (h_i h 65) (Int32.ofNat f) (h_i h 17 16).toNatClampNeg) ∧ (∀ i : Nat, i < (h_i h 17 16).toNatClampNeg → (h_i h 255 i = h_i h 64 i ∧ h_i h 256 i = h_i h 65 i ∧ h_i h 257 i = h_i h 66 i ∧ h_i h 258 i = h_i h 67 i ∧ h_i h 259 i = h_i h 68 i ∧ h_i h 260 i = h_i h 69 i) ∧ ∀ t : Nat, t < 9 → h_i h 261 (9 * i + t) = h_i h 70 (9 * i + t)) ∧ (∀ i : Nat, i < (h_i h 18 3).toNatClampNeg → h_i h 262 i = h_i h 71 i ∧ h_i h 263 i = h_i h 72 i) ∧ (∀ k : Nat, k < 40 → h_i h 104 k = h_i h 221 k ∧ h_i h 105 k = h_i h 222 k ∧ h_i h 106 k = h_i h 223 k ∧ h_i h 107 k = h_i h 224 k) ∧ (∀ k : Nat, k < (h_i h 13 5).toNatClampNeg → h_i h 233 k = h_i h 37 k ∧ h_i h 234 k = h_i h 38 k) ∧ (∀ j : Nat, j < (h_i h 0 7).toNatClampNeg → h_i h (401 + j) 1 = h_i h 204 j) ∧ ∀ k : Nat, k < (h_i h 13 5).toNatClampNeg → ∃ C, gdC h k C
def kRw : List Nat := [37, 38, 39, 40, 57, 58, 59, 60, 61, 62, 63, 64, 65, 66, 67, 68, 69, 70, 71, 72, 104, 105, 106, 107, 204, 221, 222, 223, 224, 231, 232, 233, 234, 235, 249, 250, 251, 252, 253, 254, 255, 256, 257, 258, 259, 260, 261, 262, 263]
def kF : List (Nat × Nat) := [(1, 80), (17, 16), (1, 79), (17, 7), (1, 96), (18, 3), (1, 29), (21, 4), (13, 5), (0, 7)]
theorem ExK.cg {h h' : Hp_} (e : ExK h) (R : ∀ a ∈ kRw, h_i h' a = h_i h a) (F : ∀ q ∈ kF, h_i h' q.1 q.2 = h_i h q.1 q.2) (M : ∀ j : Nat, j < (h_i h 0 7).toNatClampNeg → h_i h' (401 + j) 1 = h_i h (401 + j) 1) : ExK h' := by
  have f1_80 : h_i h' 1 80 = h_i h 1 80 := F (1, 80) (by decide)
  have f17_16 : h_i h' 17 16 = h_i h 17 16 := F (17, 16) (by decide)
  have f1_79 : h_i h' 1 79 = h_i h 1 79 := F (1, 79) (by decide)
  have f17_7 : h_i h' 17 7 = h_i h 17 7 := F (17, 7) (by decide)
  have f1_96 : h_i h' 1 96 = h_i h 1 96 := F (1, 96) (by decide)
  have f18_3 : h_i h' 18 3 = h_i h 18 3 := F (18, 3) (by decide)
  have f1_29 : h_i h' 1 29 = h_i h 1 29 := F (1, 29) (by decide)
  have f21_4 : h_i h' 21 4 = h_i h 21 4 := F (21, 4) (by decide)
  have f13_5 : h_i h' 13 5 = h_i h 13 5 := F (13, 5) (by decide)
  have f0_7 : h_i h' 0 7 = h_i h 0 7 := F (0, 7) (by decide)
  obtain ⟨e1, e2, e3, e4, e5, e6, e7, e8⟩ := e
  refine ⟨?_, ?_, ?_, ?_, ?_, ?_, fun j hj => ?_, ?_⟩
  · rw [R 235 (by decide), f1_80, f17_16, f1_79, f17_7, f1_96, f18_3, f1_29, f21_4, f13_5, f0_7]
    exact e1
  · rw [R 249 (by decide), R 250 (by decide), R 251 (by decide), R 252 (by decide), R 253 (by decide), R 57 (by decide), R 58 (by decide), R 59 (by decide), R 60 (by decide), R 61 (by decide), R 254 (by decide), R 63 (by decide), R 62 (by decide), R 65 (by decide), f17_7, f17_16]
    exact e2
  · rw [R 255 (by decide), R 256 (by decide), R 257 (by decide), R 258 (by decide), R 259 (by decide), R 260 (by decide), R 261 (by decide), R 64 (by decide), R 65 (by decide), R 66 (by decide), R 67 (by decide), R 68 (by decide), R 69 (by decide), R 70 (by decide), f17_16]
    exact e3
  · rw [R 262 (by decide), R 263 (by decide), R 71 (by decide), R 72 (by decide), f18_3]
    exact e4
  · rw [R 104 (by decide), R 105 (by decide), R 106 (by decide), R 107 (by decide), R 221 (by decide), R 222 (by decide), R 223 (by decide), R 224 (by decide)]
    exact e5
  · rw [R 233 (by decide), R 234 (by decide), R 37 (by decide), R 38 (by decide), f13_5]
    exact e6
  · rw [f0_7] at hj
    rw [M j hj, R 204 (by decide)]
    exact e7 j hj
  · unfold gdC
    rw [R 39 (by decide), R 40 (by decide), R 231 (by decide), R 232 (by decide), f13_5]
    exact e8
def exoK (ws : List Nat) : Bool := kRw.all (fun a => off ws a) && kF.all (fun q => !inw ws q.1 q.2) && !inw ws 401 1
theorem ExK.fr {ws : List Nat} {h h' : Hp_} (e : ExK h) (f : Fr ws h h') (o : exoK ws = true) : ExK h' := by
  unfold exoK at o
  rw [Bool.and_eq_true, Bool.and_eq_true, Bool.not_eq_true'] at o
  have nm := e.1.2.2.2.2.2
  refine e.cg (fun a ha => funext (fun k => fr_i f (List.all_eq_true.mp o.1.1 a ha) k)) (fun q hq => ?_) (fun j hj => ?_)
  · have z := List.all_eq_true.mp o.1.2 q hq
    rw [Bool.not_eq_true'] at z
    exact (f.2 q.1 q.2 z).1
  · have c1 : cn (401 + j) = cn 401 := (cn_man (by omega)).trans (by decide)
    exact (f.2 (401 + j) 1 (by rw [inw_ce c1]; exact o.2)).1
theorem kR_b : kRw.all (fun a => decide (a < 200 ∨ (200 ≤ a ∧ a < 300))) = true := by decide
theorem ExK.mf {W : List Nat} {h h' : Hp_} (e : ExK h) (f : Mf W h h') (o : exoK W = true) : ExK h' := by
  unfold exoK at o
  rw [Bool.and_eq_true, Bool.and_eq_true, Bool.not_eq_true'] at o
  have nm := e.1.2.2.2.2.2
  refine e.cg (fun a ha => funext (fun k => ?_)) (fun q hq => ?_) (fun j hj => ?_)
  · rcases of_decide_eq_true (List.all_eq_true.mp kR_b a ha) with b | b
    · exact (f.2.2.2 a k (Or.inl b) (off_inw (List.all_eq_true.mp o.1.1 a ha) k)).1
    · exact f.2.1 a b.1 b.2 k
  · have z := List.all_eq_true.mp o.1.2 q hq
    rw [Bool.not_eq_true'] at z
    have y : kF.all (fun q => decide (q.1 < 200)) = true := by decide
    exact (f.2.2.2 q.1 q.2 (Or.inl (of_decide_eq_true (List.all_eq_true.mp y q hq))) z).1
  · have c1 : cn (401 + j) = cn 401 := (cn_man (by omega)).trans (by decide)
    exact (f.2.2.2 (401 + j) 1 (Or.inr ⟨by omega, by omega⟩) (by rw [inw_ce c1]; exact o.2)).1
theorem ExK.gd {h : Hp_} (e : ExK h) {k : Nat} (hk : k < (h_i h 13 5).toNatClampNeg) : gdC h k (CCo h k) := Classical.epsilon_spec (e.2.2.2.2.2.2.2 k hk)
theorem n13_in {h : Hp_} (I : Iv h) : 0 ≤ (h_i h 13 5).toInt ∧ (h_i h 13 5).toInt ≤ 20 := by
  have a := I.2.1 13 5
  rw [show tf 13 5 = (0, 20) by decide +kernel] at a
  exact ⟨a.1, a.2⟩
theorem ExK.pb {h : Hp_} (e : ExK h) (I : Iv h) (x : ExM h) : PBl (El h) (h_i h) h := by
  have n13 := n_nat (n13_in I).1
  refine ⟨fun _ _ => rfl, ⟨rfl, rfl, rfl, rfl, rfl, rfl, rfl, rfl, rfl, rfl, rfl, rfl, rfl⟩, fun j hj => ⟨(x.2.2.1 j hj).2.1, e.2.2.2.2.2.2.1 j hj, x.2.1 j ?_⟩, ⟨x.m I, x.1.2.2.2⟩, rfl, fun k hk => ?_⟩
  · have hj : j < (h_i h 0 7).toNatClampNeg := hj
    have nm := n_nat (menX_in I).1
    omega
  · have g := e.gd (k := k) (by omega)
    exact ⟨g.1, g.2.1.1, g.2.1.2.1, g.2.1.2.2⟩
theorem ExK.pm {h : Hp_} (e : ExK h) (I : Iv h) (x : ExM h) (R : ExR h) : PMl (El h) (h_i h) h := ⟨⟨e.1.1, e.1.2.1, e.1.2.2.1⟩, e.2.1, e.2.2.1, e.2.2.2.1, e.2.2.2.2.1, fun _ _ => rfl, e.2.2.2.2.2.1, ⟨by rw [← x.1.1]; exact x.m I, x.1.2.2.2⟩, ⟨R.2, rfl⟩, fun k hk => by
  have g := e.gd hk
  exact ⟨g.1, g.2.2.1, g.2.2.2.1, g.2.2.2.2⟩, e.1.2.2.2.1, e.1.2.2.2.2.1⟩
/-- and back -/
theorem ExK.of {E : Enl} {b : Bl} {h : Hp_} (I : Iv h) (p : PBl E b h) (q : PMl E b h) : ExK h := by
  obtain ⟨pS, ⟨r17, r18, r62, r63, r64, r65, r66, r67, r68, r69, r70, r71, r72⟩, pE⟩ := p
  obtain ⟨a1, a2, a3, a4, b1, b2, b3, b4, b5, b6, b7, b8⟩ := q
  have n13 := n_nat (n13_in I).1
  have m12 := pE.2.1.2
  have nm : (h_i h 0 7).toNatClampNeg = E.2.2.1 := by rw [pE.2.1.1]; exact on_k (by omega)
  unfold nsB at a2 a3
  rw [← r17, ← r18] at a1
  rw [← r17, ← r63, ← r65, ← r62, ← pS 57 (by decide), ← pS 58 (by decide), ← pS 59 (by decide), ← pS 60 (by decide), ← pS 61 (by decide)] at a2
  rw [← r17, ← r64, ← r65, ← r66, ← r67, ← r68, ← r69, ← r70] at a3
  rw [← r18, ← r71, ← r72] at a4
  rw [← pS 104 (by decide), ← pS 105 (by decide), ← pS 106 (by decide), ← pS 107 (by decide)] at b1
  rw [← pS 13 (by decide), ← pS 37 (by decide), ← pS 38 (by decide)] at b3
  rw [← pS 13 (by decide)] at b6 b8
  rw [← pS 21 (by decide)] at b7
  refine ⟨⟨a1.1, a1.2.1, a1.2.2, b7, b8, by rw [nm]; exact m12⟩, a2, a3, a4, b1, b3, fun j hj => ?_, fun k hk => ?_⟩
  · rw [nm] at hj
    rw [(pE.1 j hj).2.1]
    exact (b2 j (by omega)).symm
  · have t := pE.2.2.2 k (by omega)
    have u := b6 k hk
    exact ⟨E.1 k, u.1, ⟨t.2.1, t.2.2.1, t.2.2.2⟩, u.2.1, u.2.2.1, u.2.2.2⟩
/-! draw, ill, begin -/
theorem Sxm.er {E : Enl} {c : Nat} {n : Int32} {M' : Nat → Int32} {r : Nat} {ev : List Ev2} {b' : Bl} {h h' : Hp_} (z : Sxm (PBl E) c n M' r ev b' h h') : Sxm PU c n M' r ev () h h' := ⟨z.1, z.2.1, z.2.2.1, z.2.2.2.1, trivial⟩
theorem Mx.er {E : Enl} {j : Nat} {n : Int32} {M' : Nat → Int32} {r : Nat} {ev : List Ev2} {b' : Bl} {h h' : Hp_} (z : Mx (PMl E) j n M' r ev b' h h') : Mx PU j n M' r ev () h h' := ⟨z.1, z.2.1, z.2.2.1, z.2.2.2.1, trivial⟩
theorem pm_fr {E : Enl} {b : Bl} {h h1 : Hp_} (p : PMl E b h) (f : Fr wBx h h1) : PMl E b h1 := p.fr f (by decide +kernel) (by decide +kernel) (fun x => x.fr f (by decide +kernel))
theorem wM_B {h h1 : Hp_} (f : Fr wMx h h1) : Fr wBx h h1 := f.more (by decide +kernel)
theorem pb_fr {E : Enl} {b : Bl} {h h1 : Hp_} (p : PBl E b h) (f : Fr mwB h h1) : PBl E b h1 := p.fr f (by decide +kernel)
theorem mR_B {h h1 : Hp_} (f : Fr mwR h h1) : Fr mwB h h1 := f.more (by decide +kernel)
/-- the class's: answer 1 -> b1; else nothing -/
def LxX (b1 : Bl) (h : Hp_) (r : Int32) (h' : Hp_) : Prop := (r = 1 ∧ PBl (El h) b1 h') ∨ (r = 0 ∧ h' = h)
def LxM (b1 : Bl) (h h1 : Hp_) (r : Int32) (h' : Hp_) : Prop := (r = 1 ∧ PMl (El h) b1 h') ∨ (r = 0 ∧ Fr [203999] h1 h')
theorem ExK.lx {b1 : Bl} {h h1 h2 : Hp_} {r1 r2 : Int32} (e : ExK h) (I : Iv h) (I2 : Iv h2) (er : r1 = r2) (k1 : LxX b1 h r1 h1) (k2 : LxM b1 h h1 r2 h2) (f2 : Fr mwB h1 h2) : ExK h2 := by
  rcases k1 with k1 | k1
  · rcases k2 with k2 | k2
    · exact ExK.of I2 (pb_fr k1.2 f2) k2.2
    · exact absurd (k1.1.symm.trans (er.trans k2.1)) (by decide)
  · rcases k2 with k2 | k2
    · exact absurd (k1.1.symm.trans (er.trans k2.1)) (by decide)
    · rw [k1.2] at k2
      exact e.fr k2.2 (by decide +kernel)
theorem c_dwK (d : Nat) {h : Hp_} (I : Iv h) (x : ExM h) (e : ExK h) (x1 x2 x3 : Int32) : Ci (m_X11_draw (d + 5) 0 0) [.ref 0, .int x1, .int x2, .int x3] h (fun r h' => Iv h' ∧ Fr wMx h h' ∧ DxX x1 x2 x3 h r h' ∧ LxX (fB tnB (h_i h 0 0) (fDw (h_i h 0 0) (wI h) x2 x3 (h_i h (401 + x1.toNatClampNeg))).1 (h_i h)) h r h') := by
  refine Ci.mono (c_dw (pbL (El h)) d I x.2.1 (b := h_i h) (e.pb I x) x1 x2 x3 (fun y => (x.rk I y).2)) (fun r h' k => ?_)
  by_cases c : isM h x1 ∧ okDw h (h_i h (401 + x1.toNatClampNeg)) x2 x3
  · have z := k.1 c
    have hj := (x.rk I c.1).1
    have m12 := x.1.2.2.2
    exact ⟨z.2.1, gw_fr z.2.2.1 (by omega) (by omega) (by decide +kernel) (fun k => inw_row (by decide +kernel) k) (by decide +kernel), ⟨fun _ => ⟨z.1, z.2.er⟩, fun n => absurd c n⟩, Or.inl ⟨z.1, z.2.2.2.2.2⟩⟩
  · have z := k.2 c
    rw [z.2]
    exact ⟨I, Fr.rf _ _, ⟨fun n => absurd n c, fun _ => ⟨z.1, rfl⟩⟩, Or.inr ⟨z.1, rfl⟩⟩
theorem c_dwKM (d : Nat) {h h1 : Hp_} (I1 : Iv h1) (I : Iv h) (x : ExM h) (R : ExR h) (e : ExK h) (f : Fr wMx h h1) (x1 x2 x3 : Int32) : Ci (m_X12_draw (d + 5) 0 0) [.ref 1, .int x1, .int x2, .int x3] h1 (fun r h' => DwP PU (fun _ _ b => b) x1 x2 x3 (h_i h (401 + x1.toNatClampNeg)) () h1 r h' ∧ LxM (fB tnB (h_i h 0 0) (fDw (h_i h 0 0) (wI h) x2 x3 (h_i h (401 + x1.toNatClampNeg))).1 (h_i h)) h h1 r h') := by
  have R1 : ExP h1 := R.2.fr f (by decide +kernel)
  have ew : wI h1 = wI h := wI_cg (funext (fun k => fr_i f (by decide +kernel) k))
  have e10 : h_i h1 1 0 = h_i h 0 0 := ((f.2 1 0 (by decide +kernel)).1).trans x.1.2.1.symm
  have K := m_dw (pmL (El h)) d I1 R1 x1 x2 x3 (b := h_i h) (pm_fr (e.pm I x R) (wM_B f)) (h_i h (401 + x1.toNatClampNeg)) (fun y => by
    obtain ⟨_, q1, q2, q3, q4⟩ := x.rp I f y
    refine ⟨q1, q2, q3.1.2.1, q4, fun q e6 a => ?_⟩
    have al := q3.1.2.2.2.2.2.2.2
    rw [if_pos e6] at al
    rw [ew] at a ⊢
    exact (wok I R.2).2.2.2.1 _ _ _ al a)
  refine Ci.mono K (fun r h' k => ?_)
  unfold DwP at k ⊢
  by_cases c : isN h1 x1 ∧ (0 ≤ x2 ∧ x2 ≤ 15) ∧ (h_i h1 1 0 ≤ x3 ∧ x3 ≤ 30000) ∧ ¬ wI h1 (h_i h (401 + x1.toNatClampNeg) 3) x2 = -1 ∧ ¬ h_i h (401 + x1.toNatClampNeg) 4 = 3 ∧ ¬ h_i h (401 + x1.toNatClampNeg) 4 = 4
  · have z := k.1 c
    refine ⟨⟨fun _ => ⟨z.1, z.2.er⟩, fun n => absurd c n⟩, Or.inl ⟨z.1, ?_⟩⟩
    have p := z.2.2.2.2.2
    rw [ew, e10] at p
    exact p
  · have z := k.2 c
    exact ⟨⟨fun n => absurd n c, fun _ => z⟩, Or.inr ⟨z.1, z.2.2⟩⟩
theorem ExK.dw {h h1 h2 : Hp_} {x1 x2 x3 r1 r2 : Int32} (e : ExK h) (I : Iv h) (x : ExM h) (R : ExR h) (f : Fr wMx h h1) (k1 : DxX x1 x2 x3 h r1 h1 ∧ LxX (fB tnB (h_i h 0 0) (fDw (h_i h 0 0) (wI h) x2 x3 (h_i h (401 + x1.toNatClampNeg))).1 (h_i h)) h r1 h1) (k2 : DwP PU (fun _ _ b => b) x1 x2 x3 (h_i h (401 + x1.toNatClampNeg)) () h1 r2 h2 ∧ LxM (fB tnB (h_i h 0 0) (fDw (h_i h 0 0) (wI h) x2 x3 (h_i h (401 + x1.toNatClampNeg))).1 (h_i h)) h h1 r2 h2) : ExK h2 := by
  have z := ExM.dw I x R f k1.1 k2.1
  exact e.lx I z.1 z.2.2.2 k1.2 k2.2 (mR_B z.2.1)
/-- ill -/
def ilB (x1 x2 n : Int32) (b : Bl) : Bl := if x2 = 1 then b else tnB x1 n b
theorem isM0 {h : Hp_} (I : Iv h) (x : ExM h) {x1 : Int32} (y : isM h x1) : h_i h (401 + x1.toNatClampNeg) 0 = x1 := by
  have hj := (x.rk I y).1
  have mm := menX_in I
  have y2 := y.2
  exact (x.2.2.1 _ hj).2.1.trans (on_of ⟨y.1, by omega⟩)
theorem c_ilK (d : Nat) {h : Hp_} (I : Iv h) (x : ExM h) (e : ExK h) (x1 x2 : Int32) (b2 : x2 = 0 ∨ x2 = 1) : Ci (m_X11_ill (d + 3) 0 0) [.ref 0, .int x1, .int x2] h (fun r h' => Iv h' ∧ Fr wMx h h' ∧ (x2 = 0 ∨ x2 = 1) ∧ IxX x1 x2 h r h' ∧ LxX (ilB x1 x2 (h_i h 0 0) (h_i h)) h r h') := by
  have m12 := x.1.2.2.2
  refine Ci.mono (c_il (pbL (El h)) d I x.2.1 (b := h_i h) (e.pb I x) x1 x2 b2 (fun y => (x.rk I y).2)) (fun r h' k => ?_)
  have K : IxX x1 x2 h r h' := ⟨fun c => ⟨(k.1 c).1, (k.1 c).2.er⟩, fun c => ⟨(k.2.1 c).1, (k.2.1 c).2.er⟩, k.2.2⟩
  rcases il_cs (P := isM h x1) (Q := h_i h (401 + x1.toNatClampNeg) 4 = 4) b2 with c | c | c
  · have z := k.1 c
    have hj := (x.rk I c.1).1
    refine ⟨z.2.1, sx_fr (by omega) z.2.er, b2, K, Or.inl ⟨z.1, ?_⟩⟩
    unfold ilB
    rw [if_pos c.2.2]
    exact z.2.2.2.2.2
  · have z := k.2.1 c
    have hj := (x.rk I c.1).1
    refine ⟨z.2.1, sx_fr (by omega) z.2.er, b2, K, Or.inl ⟨z.1, ?_⟩⟩
    unfold ilB
    rw [if_neg (fun u => absurd (c.2.2.symm.trans u) (by decide))]
    have p := z.2.2.2.2.2
    rw [isM0 I x c.1] at p
    exact p
  · have z := k.2.2 c
    have eh := z.2
    subst eh
    exact ⟨I, Fr.rf _ _, b2, K, Or.inr ⟨z.1, rfl⟩⟩
theorem c_ilKM (d : Nat) {h h1 : Hp_} (I1 : Iv h1) (I : Iv h) (x : ExM h) (R : ExR h) (e : ExK h) (f : Fr wMx h h1) (x1 x2 : Int32) (b2 : x2 = 0 ∨ x2 = 1) : Ci (m_X12_ill (d + 2) 0 0) [.ref 1, .int x1, .int x2] h1 (fun r h' => IxM x1 x2 (h_i h (401 + x1.toNatClampNeg)) h1 r h' ∧ LxM (ilB x1 x2 (h_i h 0 0) (h_i h)) h h1 r h') := by
  have e10 : h_i h1 1 0 = h_i h 0 0 := ((f.2 1 0 (by decide +kernel)).1).trans x.1.2.1.symm
  refine Ci.mono (m_il (pmL (El h)) d I1 x1 x2 b2 (b := h_i h) (pm_fr (e.pm I x R) (wM_B f)) (h_i h (401 + x1.toNatClampNeg)) (fun y => ?_)) (fun r h' k => ?_)
  · obtain ⟨_, q1, q2, q3, q4⟩ := x.rp I f y
    exact ⟨q1, q2, q3.1.2.2.2.2.1, q4⟩
  · have K : IxM x1 x2 (h_i h (401 + x1.toNatClampNeg)) h1 r h' := ⟨fun c => ⟨(k.1 c).1, (k.1 c).2.er⟩, fun c => ⟨(k.2.1 c).1, (k.2.1 c).2.er⟩, k.2.2⟩
    refine ⟨K, ?_⟩
    rcases il_cs (P := isN h1 x1) (Q := h_i h (401 + x1.toNatClampNeg) 4 = 4) b2 with c | c | c
    · have z := k.1 c
      refine Or.inl ⟨z.1, ?_⟩
      unfold ilB
      rw [if_pos c.2.2]
      exact z.2.2.2.2.2
    · have z := k.2.1 c
      refine Or.inl ⟨z.1, ?_⟩
      unfold ilB
      rw [if_neg (fun u => absurd (c.2.2.symm.trans u) (by decide)), ← e10]
      exact z.2.2.2.2.2
    · have z := k.2.2 c
      rw [z.2]
      exact Or.inr ⟨z.1, Fr.rf _ _⟩
theorem ExK.il {h h1 h2 : Hp_} {x1 x2 r1 r2 : Int32} (e : ExK h) (I : Iv h) (x : ExM h) (R : ExR h) (f : Fr wMx h h1) (b2 : x2 = 0 ∨ x2 = 1) (I1 : Iv h1) (k1 : IxX x1 x2 h r1 h1 ∧ LxX (ilB x1 x2 (h_i h 0 0) (h_i h)) h r1 h1) (k2 : IxM x1 x2 (h_i h (401 + x1.toNatClampNeg)) h1 r2 h2 ∧ LxM (ilB x1 x2 (h_i h 0 0) (h_i h)) h h1 r2 h2) : ExK h2 := by
  have z := ExM.il I x R f b2 I1 k1.1 k2.1
  exact e.lx I z.1 z.2.2.2 k1.2 k2.2 (mR_B z.2.1)
theorem c_bgK (d : Nat) {h : Hp_} (I : Iv h) (x : ExM h) (e : ExK h) (S : ExS h) (B : ExB h) (x1 x2 : Int32) : Ci (m_X11_begin (d + 6) 0 0) [.ref 0, .int x1, .int x2] h (fun r h' => Iv h' ∧ Fr wBx h h' ∧ BgX x1 x2 h r h' ∧ LxX (fB tnB (h_i h 0 0) (BgF x1 x2 h).1 (h_i h)) h r h') := by
  have m12 := x.1.2.2.2
  refine Ci.mono (c_bg (PB := PBl (El h)) (pbL (El h)) d I x.2.1 (b := h_i h) (e.pb I x) x1 x2 (fun y => isM0 I x y) (bL h x2.toNatClampNeg) (bs_x I S B x2)) (fun r h' k => ?_)
  by_cases c : BgK x1 x2 h
  · have z := k.1 c
    have hj := (x.rk I c.1).1
    have zu : Bxm PU (401 + x1.toNatClampNeg) x1 (h_i h 0 0) (BgF x1 x2 h).1 (h_i h 16 7).toNatClampNeg (ptL (bL h x2.toNatClampNeg)) (BgF x1 x2 h).2 () h h' := ⟨z.2.1, z.2.2.1, z.2.2.2.1, z.2.2.2.2.1, z.2.2.2.2.2.1, z.2.2.2.2.2.2.1, trivial⟩
    exact ⟨z.2.1, gw_fr z.2.2.1 (by omega) (by omega) (by decide +kernel) (fun k => inw_row (by decide +kernel) k) (by decide +kernel), ⟨fun _ => ⟨z.1, zu⟩, fun n => absurd c n⟩, Or.inl ⟨z.1, z.2.2.2.2.2.2.2⟩⟩
  · have z := k.2 c
    have eh := z.2
    subst eh
    exact ⟨I, Fr.rf _ _, ⟨fun n => absurd n c, fun _ => z⟩, Or.inr ⟨z.1, rfl⟩⟩
theorem c_bgKM (d : Nat) {h h1 : Hp_} (I1 : Iv h1) (I : Iv h) (x : ExM h) (e : ExK h) (R : ExR h) (S : ExS h) (e42 : h_i h 12 3 = h_i h 1 42) (f : Fr wBx h h1) (x1 x2 : Int32) : Ci (m_X12_begin (d + 4) 0 0) [.ref 1, .int x1, .int x2] h1 (fun r h' => BgM x1 x2 h h1 r h' ∧ LxM (fB tnB (h_i h 0 0) (BgF x1 x2 h).1 (h_i h)) h h1 r h') := by
  obtain ⟨ew, eb, es, e1, rr⟩ := bg_k f (Or.inr trivial)
  have R1 : ExP h1 := R.2.fr f (by decide +kernel)
  have b3 := x12_in I
  have n3 := n_nat b3.1
  have iN : isN h1 x1 ↔ isM h x1 := by
    unfold isN isM
    rw [e1, ← x.1.1]
  have K := m_bg (PM := PMl (El h)) (pmL (El h)) d I1 R1 x1 x2 (b := h_i h) (pm_fr (e.pm I x R) f) (h_i h (401 + x1.toNatClampNeg)) (fun y => ?_) (bL h x2.toNatClampNeg) (fun b2 => ?_)
  · rw [ew, e1, e1, e1, ← e42, ← x.1.2.1, ← x.1.2.2.1, iN] at K
    refine Ci.mono K (fun r h' k => ?_)
    by_cases c : BgK x1 x2 h
    · have z := k.1 c
      have zu : Bym PU x1.toNatClampNeg x1 (h_i h 0 0) (BgF x1 x2 h).1 (h_i h 16 7).toNatClampNeg (ptL (bL h x2.toNatClampNeg)) (BgF x1 x2 h).2 () h1 h' := ⟨z.2.1, z.2.2.1, z.2.2.2.1, z.2.2.2.2.1, z.2.2.2.2.2.1, z.2.2.2.2.2.2.1, trivial⟩
      exact ⟨⟨fun _ => ⟨z.1, zu⟩, fun n => absurd c n⟩, Or.inl ⟨z.1, z.2.2.2.2.2.2.2⟩⟩
    · have z := k.2 c
      have eh := z.2
      subst eh
      exact ⟨⟨fun n => absurd n c, fun _ => z⟩, Or.inr ⟨z.1, Fr.rf _ _⟩⟩
  · have y := iN.mp y
    have hj := (x.rk I y).1
    have mm := menX_in I
    have y2 := y.2
    have a := (x.2.2.1 _ hj).1.1
    refine ⟨(x.2.2.2.1 _ hj).cg (fun a ha => ?_), (x.2.2.1 _ hj).2.1.trans (on_of ⟨y.1, by omega⟩), a.2.2.2.1, a.2.1⟩
    have z : ∀ a ∈ 206 :: mrL, 200 ≤ a ∧ a < 300 := by decide
    rw [rr a (z a ha).1 (z a ha).2]
  · rw [e1, ← e42] at b2
    have nx := n_nat b2.1
    have z := z227 I x2.toNatClampNeg
    rw [rr 227 (by decide) (by decide), rr 228 (by decide) (by decide)]
    refine ⟨⟨⟨b2.1, by omega⟩, ?_, fun k q ee => ?_⟩, ?_, mP_b h _⟩
    · rw [bL_l]
      omega
    · have lk : k < (bL h x2.toNatClampNeg).length := (List.getElem?_eq_some_iff.mp ee).1
      rw [bL_l] at lk
      rw [bL_g lk] at ee
      rw [← Option.some.inj ee, Nat.zero_add, es]
      exact ⟨rfl, (S _ (by omega) _ lk).2⟩
    · rw [bL_l]
      exact (of_nat32 (by omega)).symm
theorem ExK.bg {h h1 h2 : Hp_} {x1 x2 r1 r2 : Int32} (e : ExK h) (I : Iv h) (x : ExM h) (R : ExR h) (S : ExS h) (I1 : Iv h1) (f : Fr wBx h h1) (k1 : BgX x1 x2 h r1 h1 ∧ LxX (fB tnB (h_i h 0 0) (BgF x1 x2 h).1 (h_i h)) h r1 h1) (k2 : BgM x1 x2 h h1 r2 h2 ∧ LxM (fB tnB (h_i h 0 0) (BgF x1 x2 h).1 (h_i h)) h h1 r2 h2) : ExK h2 := by
  have z := ExM.bg I x R S I1 f k1.1 k2.1
  exact e.lx I z.1 z.2.2.2 k1.2 k2.2 z.2.1
/-! tick -/
section ER
variable {β : Type}
def erP (s : Pst β) : Pst Unit := (s.1, s.2.1, s.2.2.1, s.2.2.2.1, ())
variable {lP : Nat → Int32 → (Nat → Int32) → β → β} {tB : Int32 → Int32 → β → β} {nB : Int32 → (Nat → Int32) → β → β} {w : Int32 → Int32 → Int32} {BL : Nat → List Sp3}
theorem er_man (n : Int32) (j : Nat) (s : Pst β) : erP (pMan lP tB n w BL j s) = pMan lU tU n w BL j (erP s) := by
  unfold pMan
  by_cases y : s.1 j 7 = n
  · rw [if_pos y, if_pos (show (erP s).1 j 7 = n from y)]
    rfl
  · rw [if_neg y, if_neg (show ¬ (erP s).1 j 7 = n from y)]
theorem er_men (n : Int32) : ∀ (j : Nat) (s : Pst β), erP (pMen lP tB n w BL j s) = pMen lU tU n w BL j (erP s)
  | 0, _ => rfl
  | j + 1, s => by
    show erP (pMan lP tB n w BL j (pMen lP tB n w BL j s)) = pMan lU tU n w BL j (pMen lU tU n w BL j (erP s))
    rw [er_man, er_men n j s]
theorem er_tk (m : Nat) (n : Int32) : ∀ (i : Nat) (s : Pst β), erP (pTk lP tB nB w BL m n i s) = pTk lU tU nU w BL m n i (erP s)
  | 0, _ => rfl
  | i + 1, s => by
    show erP (pMen lP tB (n + Int32.ofNat (i + 1)) w BL m (pOv nB (n + Int32.ofNat i) (pTk lP tB nB w BL m n i s))) = pMen lU tU (n + Int32.ofNat (i + 1)) w BL m (pOv nU (n + Int32.ofNat i) (pTk lU tU nU w BL m n i (erP s)))
    rw [er_men, ← er_tk m n i s]
    rfl
end ER
def sXk (h : Hp_) : Pst Bl := (fun j => h_i h (401 + j), h_i h 51, h_i h 52, h_i h 53, h_i h)
/-- the looks' rows behind x minutes -/
noncomputable def tkB (x : Int32) (h : Hp_) : Bl := (pTk (lPB (El h)) tnB nBl (wI h) (bL h) (h_i h 0 7).toNatClampNeg (h_i h 0 0) x.toNatClampNeg (sXk h)).2.2.2.2
theorem lrB_pl {E : Enl} {j : Nat} (hj : j < E.2.2.1) {n : Int32} {f g : Nat → Int32} (e : ∀ k, k < E.2.2.1 → f k = g k) {k : Nat} {b : Bl} : sg1 E j n f k b = sg1 E j n g k b := by
  have c : lrB E j n f k b = lrB E j n g k b := by
    unfold lrB
    rw [e j hj, cAt_c E.2.2.1 e]
  have d : dnB E j n f k b = dnB E j n g k b := by
    unfold dnB
    rw [c]
  unfold sg1
  rw [c, d, e j hj]
theorem lPB_pl {E : Enl} {j : Nat} (hj : j < E.2.2.1) {n : Int32} {f g : Nat → Int32} (e : ∀ k, k < E.2.2.1 → f k = g k) {b : Bl} : lPB E j n f b = lPB E j n g b := by
  unfold lPB
  have z : ∀ k, lkN E j n f k b = lkN E j n g k b := fun k => by
    induction k with
    | zero => rfl
    | succ k ih =>
      show lk1 E j n f k (lkN E j n f k b) = lk1 E j n g k (lkN E j n g k b)
      unfold lk1
      rw [ih, e j hj, lrB_pl hj e]
  exact z _
def LkX (x : Int32) (h h' : Hp_) : Prop := okt (h_i h 0 0) x → PBl (El h) (tkB x h) h'
def LkM (x : Int32) (h h' : Hp_) : Prop := okt (h_i h 0 0) x → PMl (El h) (tkB x h) h'
def TkL (m N' : Nat) (s : Pst Unit) (x : Int32) (h : Hp_) (r : Int32) (h' : Hp_) : Prop := (Iv h' ∧ Mf wsX h h' ∧ (∃ c', h_r h' 0 15 = some c' ∧ h_sh h' c' = some (3, N')) ∧ otk (h_i h 0 0) x r (h_i h' 0 0)) ∧ Tkx PU lU tU nU m N' s x h r h' ∧ LkX x h h'
theorem c_tkK (d : Nat) {h : Hp_} (I : Iv h) (x : ExM h) (e : ExK h) (R : ExR h) (S : ExS h) (B : B35 h) (x1 : Int32) {c N : Nat} (hc : h_r h 0 15 = some c) (hs : h_sh h c = some (3, N)) (hN : N ≤ 20000) : ∃ mc ms N', N' ≤ 20000 ∧ hcost mc ms N N' ∧ Ci (m_X11_tick (d + 8) mc ms) [.ref 0, .int x1] h (TkL (h_i h 0 7).toNatClampNeg N' (sX h) x1 h) := by
  obtain ⟨mc, ms, N', l, q, C⟩ := c_tkX (PB := PBl (El h)) (lP := lPB (El h)) (tB := tnB) (nB := nBl) (s := sXk h) (m := (h_i h 0 7).toNatClampNeg) (pbL (El h)) (pbtL (El h)) d I ⟨R.2, S, B, x.2.1, x.m I, x.1.2.2.2, x.2.2.1⟩ ⟨fun _ _ => rfl, ⟨rfl, rfl, rfl⟩, e.pb I x⟩ (fun j hj b n f g u => lPB_pl (E := El h) hj u) (fun _ _ _ _ _ => rfl) x1 hc hs hN
  refine ⟨mc, ms, N', l, q, Ci.mono C (fun r h' k => ⟨k.1, ⟨k.1, fun o => ?_, k.2.2⟩, fun o => (k.2.1 o).2.1.2.2⟩)⟩
  have z := k.2.1 o
  have t := er_tk (lP := lPB (El h)) (tB := tnB) (nB := nBl) (w := wI h) (BL := bL h) (h_i h 0 7).toNatClampNeg (h_i h 0 0) x1.toNatClampNeg (sXk h)
  have t : pTk lU tU nU (wI h) (bL h) (h_i h 0 7).toNatClampNeg (h_i h 0 0) x1.toNatClampNeg (sX h) = _ := t.symm
  refine ⟨z.1, ?_, z.2.2⟩
  rw [t]
  exact ⟨z.2.1.1, z.2.1.2.1, trivial⟩
def TmL (m rw : Nat) (s : Pst Unit) (x : Int32) (h h1 : Hp_) (r : Int32) (h' : Hp_) : Prop := Tkm PU lU tU nU m rw s x h1 r h' ∧ LkM x h h'
theorem c_tmK (d : Nat) {h h1 : Hp_} (I1 : Iv h1) (J1 : J2 h1) (I : Iv h) (x : ExM h) (e : ExK h) (R : ExR h) (S : ExS h) (e42 : h_i h 12 3 = h_i h 1 42) (f : Mf wsX h h1) (x1 : Int32) : Ci (m_X12_tick (d + 10) 0 0) [.ref 1, .int x1] h1 (TmL (h_i h 0 7).toNatClampNeg (h_i h 16 7).toNatClampNeg (sX h) x1 h h1) := by
  have rr : ∀ a, 200 ≤ a → a < 300 → h_i h1 a = h_i h a := fun a p q => funext (fun k => f.2.1 a p q k)
  have ew : wI h1 = wI h := wI_cg (funext (fun k => (f.2.2.2 30 k (Or.inl (by decide)) (off_inw (by decide +kernel) k)).1))
  have eb : bL h1 = bL h := bL_cg (rr 227 (by decide) (by decide)) (rr 228 (by decide) (by decide)) (rr 229 (by decide) (by decide)) (rr 230 (by decide) (by decide))
  have es : ∀ k, sB h1 k = sB h k := fun k => by
    funext i
    unfold sB
    rw [rr 228 (by decide) (by decide), rr 229 (by decide) (by decide), rr 230 (by decide) (by decide)]
  have P1 : PMl (El h) (h_i h) h1 := by
    have p := e.pm I x R
    have g : ∀ a, (200 ≤ a ∧ a < 300) ∨ a = 1 → h_i h1 a = h_i h a := fun a o => by
      rcases o with o | o
      · exact rr a o.1 o.2
      · rw [o]
        exact funext f.1
    obtain ⟨a1, a2, a3, a4, b1, b2, b3, b4, b5, b6, b7, b8⟩ := p
    unfold PMl PEm TM
    rw [g 1 (by decide), g 249 (by decide), g 250 (by decide), g 251 (by decide), g 252 (by decide), g 253 (by decide), g 254 (by decide), g 255 (by decide), g 256 (by decide), g 257 (by decide), g 258 (by decide), g 259 (by decide), g 260 (by decide), g 261 (by decide), g 262 (by decide), g 263 (by decide), g 221 (by decide), g 222 (by decide), g 223 (by decide), g 224 (by decide), g 204 (by decide), g 231 (by decide), g 232 (by decide), g 233 (by decide), g 234 (by decide), g 235 (by decide), ew]
    exact ⟨a1, a2, a3, a4, b1, b2, b3, b4, ⟨R.2.mf f (by decide +kernel), b5.2⟩, b6, b7, b8⟩
  have e10 : h_i h1 1 0 = h_i h 0 0 := (f.1 0).trans x.1.2.1.symm
  refine Ci.mono (c_tkM (PM := PMl (El h)) (lP := lPB (El h)) (tB := tnB) (nB := nBl) (s := sXk h) (pmL (El h)) d I1 J1 (pmtL (El h) _) ⟨R.2.mf f (by decide +kernel), fun k hk i hi => ?_, ?_, x.1.2.2.2, (rwX_in I).1, h_i h 47, ?_⟩ ⟨fun j hj => (x.2.2.2.1 j hj).cg (fun a ha => ?_), fun k hk => ?_, P1⟩ (fun j hj b n f g u => lPB_pl (E := El h) hj u) (fun _ _ _ _ _ => rfl) x1) (fun r h' k => ?_)
  · rw [f.1 42, ← e42] at hk
    rw [rr 227 (by decide) (by decide)] at hi
    rw [es]
    exact (S k hk i hi).2
  · rw [f.1 7, ← x.1.1]
    exact x.m I
  · rw [ew, eb, f.1 42, ← e42]
    exact x.2.2.1
  · have z : ∀ a ∈ 206 :: mrL, 200 ≤ a ∧ a < 300 := by decide
    exact f.2.1 a (z a ha).1 (z a ha).2 j
  · rw [rr 241 (by decide) (by decide), rr 242 (by decide) (by decide), rr 243 (by decide) (by decide)]
    exact (x.2.2.2.2.1 k hk).1
  · have t := er_tk (lP := lPB (El h)) (tB := tnB) (nB := nBl) (w := wI h) (BL := bL h) (h_i h 0 7).toNatClampNeg (h_i h 0 0) x1.toNatClampNeg (sXk h)
    have t : pTk lU tU nU (wI h) (bL h) (h_i h 0 7).toNatClampNeg (h_i h 0 0) x1.toNatClampNeg (sX h) = _ := t.symm
    refine ⟨⟨k.1, fun o => ?_, k.2.2⟩, fun o => ?_⟩
    · have z := k.2.1 o
      refine ⟨z.1, z.2.1, ?_⟩
      have y := z.2.2
      rw [e10, ew, eb] at y ⊢
      rw [t]
      exact ⟨y.1, y.2.1, trivial⟩
    · have z := k.2.1 (by rw [e10]; exact o)
      have y := z.2.2.2.2
      rw [e10, ew, eb] at y
      exact y
theorem ExK.tk {h h1 h2 : Hp_} {x1 r1 r2 : Int32} {N' : Nat} (e : ExK h) (I : Iv h) (x : ExM h) (k1 : TkL (h_i h 0 7).toNatClampNeg N' (sX h) x1 h r1 h1) (k2 : TmL (h_i h 0 7).toNatClampNeg (h_i h 16 7).toNatClampNeg (sX h) x1 h h1 r2 h2) : ExK h2 := by
  by_cases o : okt (h_i h 0 0) x1
  · have p := k1.2.2 o
    have q := k2.2 o
    exact ExK.of k2.1.1.1 (p.fr k2.1.1.2.2.1 (by decide +kernel)) q
  · have a := k1.2.1.2.2 o
    subst a
    have e10 : h_i h1 1 0 = h_i h1 0 0 := x.1.2.1.symm
    have b := k2.1.2.2 (by rw [e10]; exact o)
    subst b
    exact e
end
section
/-! LOOKS: find, rank, open, act, pay, constable keep the relation -/
theorem kx_2 {h h' : Hp_} (e : ExK h) (r249 : h_i h' 249 = h_i h 249) (r250 : h_i h' 250 = h_i h 250) (r251 : h_i h' 251 = h_i h 251) (r252 : h_i h' 252 = h_i h 252) (r253 : h_i h' 253 = h_i h 253) (r57 : h_i h' 57 = h_i h 57) (r58 : h_i h' 58 = h_i h 58) (r59 : h_i h' 59 = h_i h 59) (r60 : h_i h' 60 = h_i h 60) (r61 : h_i h' 61 = h_i h 61) (r254 : h_i h' 254 = h_i h 254) (r63 : h_i h' 63 = h_i h 63) (r62 : h_i h' 62 = h_i h 62) (r65 : h_i h' 65 = h_i h 65) (f17_7 : h_i h' 17 7 = h_i h 17 7) (f17_16 : h_i h' 17 16 = h_i h 17 16) : (∀ f : Nat, f < 80 → (f < (h_i h' 17 7).toNatClampNeg → (h_i h' 249 f = h_i h' 57 f ∧ h_i h' 250 f = h_i h' 58 f ∧ h_i h' 251 f = h_i h' 59 f ∧ h_i h' 252 f = h_i h' 60 f ∧ h_i h' 253 f = h_i h' 61 f) ∧ (0 ≤ (h_i h' 58 f).toInt ∧ (h_i h' 58 f).toInt < 16)) ∧ h_i h' 254 f = h_i h' 63 f ∧ h_i h' 62 f = cAt (h_i h' 65) (Int32.ofNat f) (h_i h' 17 16).toNatClampNeg) := by
  rw [r249, r250, r251, r252, r253, r57, r58, r59, r60, r61, r254, r63, r62, r65, f17_7, f17_16]
  exact e.2.1
theorem kx_3 {h h' : Hp_} (e : ExK h) (r255 : h_i h' 255 = h_i h 255) (r256 : h_i h' 256 = h_i h 256) (r257 : h_i h' 257 = h_i h 257) (r258 : h_i h' 258 = h_i h 258) (r259 : h_i h' 259 = h_i h 259) (r260 : h_i h' 260 = h_i h 260) (r261 : h_i h' 261 = h_i h 261) (r64 : h_i h' 64 = h_i h 64) (r65 : h_i h' 65 = h_i h 65) (r66 : h_i h' 66 = h_i h 66) (r67 : h_i h' 67 = h_i h 67) (r68 : h_i h' 68 = h_i h 68) (r69 : h_i h' 69 = h_i h 69) (r70 : h_i h' 70 = h_i h 70) (f17_16 : h_i h' 17 16 = h_i h 17 16) : (∀ i : Nat, i < (h_i h' 17 16).toNatClampNeg → (h_i h' 255 i = h_i h' 64 i ∧ h_i h' 256 i = h_i h' 65 i ∧ h_i h' 257 i = h_i h' 66 i ∧ h_i h' 258 i = h_i h' 67 i ∧ h_i h' 259 i = h_i h' 68 i ∧ h_i h' 260 i = h_i h' 69 i) ∧ ∀ t : Nat, t < 9 → h_i h' 261 (9 * i + t) = h_i h' 70 (9 * i + t)) := by
  rw [r255, r256, r257, r258, r259, r260, r261, r64, r65, r66, r67, r68, r69, r70, f17_16]
  exact e.2.2.1
theorem kx_4 {h h' : Hp_} (e : ExK h) (r262 : h_i h' 262 = h_i h 262) (r263 : h_i h' 263 = h_i h 263) (r71 : h_i h' 71 = h_i h 71) (r72 : h_i h' 72 = h_i h 72) (f18_3 : h_i h' 18 3 = h_i h 18 3) : (∀ i : Nat, i < (h_i h' 18 3).toNatClampNeg → h_i h' 262 i = h_i h' 71 i ∧ h_i h' 263 i = h_i h' 72 i) := by
  rw [r262, r263, r71, r72, f18_3]
  exact e.2.2.2.1
theorem kx_5 {h h' : Hp_} (e : ExK h) (r104 : h_i h' 104 = h_i h 104) (r105 : h_i h' 105 = h_i h 105) (r106 : h_i h' 106 = h_i h 106) (r107 : h_i h' 107 = h_i h 107) (r221 : h_i h' 221 = h_i h 221) (r222 : h_i h' 222 = h_i h 222) (r223 : h_i h' 223 = h_i h 223) (r224 : h_i h' 224 = h_i h 224) : (∀ k : Nat, k < 40 → h_i h' 104 k = h_i h' 221 k ∧ h_i h' 105 k = h_i h' 222 k ∧ h_i h' 106 k = h_i h' 223 k ∧ h_i h' 107 k = h_i h' 224 k) := by
  rw [r104, r105, r106, r107, r221, r222, r223, r224]
  exact e.2.2.2.2.1
theorem kx_6 {h h' : Hp_} (e : ExK h) (r233 : h_i h' 233 = h_i h 233) (r234 : h_i h' 234 = h_i h 234) (r37 : h_i h' 37 = h_i h 37) (r38 : h_i h' 38 = h_i h 38) (f13_5 : h_i h' 13 5 = h_i h 13 5) : (∀ k : Nat, k < (h_i h' 13 5).toNatClampNeg → h_i h' 233 k = h_i h' 37 k ∧ h_i h' 234 k = h_i h' 38 k) := by
  rw [r233, r234, r37, r38, f13_5]
  exact e.2.2.2.2.2.1
theorem kx_8 {h h' : Hp_} (e : ExK h) (r39 : h_i h' 39 = h_i h 39) (r40 : h_i h' 40 = h_i h 40) (r231 : h_i h' 231 = h_i h 231) (r232 : h_i h' 232 = h_i h 232) (f13_5 : h_i h' 13 5 = h_i h 13 5) : ∀ k : Nat, k < (h_i h' 13 5).toNatClampNeg → ∃ C, gdC h' k C := by
  unfold gdC
  rw [r39, r40, r231, r232, f13_5]
  exact e.2.2.2.2.2.2.2
/-! find -/
def oka (ok : Prop) (m r m' : Int32) : Prop := (ok ∧ r = m ∧ m' = m + 1) ∨ (¬ ok ∧ r = -1 ∧ m' = m)
def okfx (m x1 x2 x3 x4 x5 : Int32) : Prop := (0 ≤ x1 ∧ x1 ≤ 9) ∧ (0 ≤ x2 ∧ x2 < 16) ∧ (0 ≤ x3 ∧ x3 ≤ 20000) ∧ (x3 ≤ x4 ∧ x4 ≤ 20000) ∧ (1 ≤ x5 ∧ x5 ≤ 9) ∧ m < 80
def okfn (m x1 x2 x3 x4 x5 : Int32) : Prop := (0 ≤ x1 ∧ x1 ≤ 9) ∧ (0 ≤ x2 ∧ x2 ≤ 15) ∧ (0 ≤ x3 ∧ x3 ≤ 20000) ∧ (x3 ≤ x4 ∧ x4 ≤ 20000) ∧ (1 ≤ x5 ∧ x5 ≤ 9) ∧ ¬ m = 80
def Fnx (x1 x2 x3 x4 x5 : Int32) (h : Hp_) (r : Int32) (h' : Hp_) : Prop := (okfx (h_i h 17 7) x1 x2 x3 x4 x5 ∧ r = h_i h 17 7 ∧ h_i h' 17 7 = h_i h 17 7 + 1 ∧ h_i h' 57 = up1 (h_i h 57) (h_i h 17 7).toNatClampNeg x1 ∧ h_i h' 58 = up1 (h_i h 58) (h_i h 17 7).toNatClampNeg x2 ∧ h_i h' 59 = up1 (h_i h 59) (h_i h 17 7).toNatClampNeg x3 ∧ h_i h' 60 = up1 (h_i h 60) (h_i h 17 7).toNatClampNeg x4 ∧ h_i h' 61 = up1 (h_i h 61) (h_i h 17 7).toNatClampNeg x5) ∨ (¬ okfx (h_i h 17 7) x1 x2 x3 x4 x5 ∧ r = -1 ∧ h' = h)
def Fnm (x1 x2 x3 x4 x5 : Int32) (h : Hp_) (r : Int32) (h' : Hp_) : Prop := (okfn (h_i h 1 79) x1 x2 x3 x4 x5 ∧ r = h_i h 1 79 ∧ h_i h' 1 79 = h_i h 1 79 + 1 ∧ h_i h' 249 = up1 (h_i h 249) (h_i h 1 79).toNatClampNeg x1 ∧ h_i h' 250 = up1 (h_i h 250) (h_i h 1 79).toNatClampNeg x2 ∧ h_i h' 251 = up1 (h_i h 251) (h_i h 1 79).toNatClampNeg x3 ∧ h_i h' 252 = up1 (h_i h 252) (h_i h 1 79).toNatClampNeg x4 ∧ h_i h' 253 = up1 (h_i h 253) (h_i h 1 79).toNatClampNeg x5) ∨ (¬ okfn (h_i h 1 79) x1 x2 x3 x4 x5 ∧ r = -1 ∧ h' = h)
theorem c_fnX (d : Nat) {h : Hp_} (I : Iv h) (x1 x2 x3 x4 x5 : Int32) : Ci (m_X11_find (d + 1) 0 0) [.ref 0, .int x1, .int x2, .int x3, .int x4, .int x5] h (fun r h' => Iv h' ∧ Fr [17007, 57999, 58999, 59999, 60999, 61999] h h' ∧ Fnx x1 x2 x3 x4 x5 h r h') := by
  have t1 : (1 : Int32).toInt = 1 := rfl
  have tc : (80 : Int32).toInt = 80 := rfl
  have rg := I.2.1 17 7
  rw [show tf 17 7 = (0, 80) by decide +kernel] at rg
  have r0 : 0 ≤ (h_i h 17 7).toInt := rg.1
  have r1 : (h_i h 17 7).toInt ≤ 80 := rg.2
  have no : ¬ okfx (h_i h 17 7) x1 x2 x3 x4 x5 → Iv h ∧ Fr [17007, 57999, 58999, 59999, 60999, 61999] h h ∧ Fnx x1 x2 x3 x4 x5 h (-1) h := fun n => ⟨I, Fr.rf _ _, Or.inr ⟨n, rfl, rfl⟩⟩
  have vin : h_i h 17 7 < 80 → vp_in (h_i h 17 7) 80 := fun l => dp_in (lo := 0) (hi := 79) ⟨r0, by have := q_lt.mp l; show _ ≤ (79 : Int); omega⟩ (by decide) (by decide)
  have ex : h_i h 17 7 < 80 → (h_i h 17 7 + 1).toInt = (h_i h 17 7).toInt + 1 ∧ (h_i h 17 7).toInt < 80 := fun l => by
    have l := q_lt.mp l
    exact ⟨tx_add (by rw [t1]; omega) (by rw [t1]; omega), by omega⟩
  refine t_X11_find d h x1 x2 x3 x4 x5 _ ⟨fun n => no (fun o => n o.1), fun a1 => Ci.mono (s_X11_isPlace _ h x2) (fun r h1 q => ?_)⟩
  obtain ⟨er, eh⟩ := q
  subst er eh
  refine ⟨I.1, fun z => no (fun o => bI_0.mp z o.2.1), fun z => ⟨fun a5 => ⟨fun n => no (fun o => n o.2.2.1), fun a3 => ⟨fun a4 => ?_, fun n => no (fun o => n o.2.2.2.1)⟩⟩, fun n => no (fun o => n o.2.2.2.2.1)⟩⟩
  have a2 : 0 ≤ x2 ∧ x2 < 16 := Decidable.byContradiction (fun n => z (bI_0.mpr n))
  refine t_X4_addFind d h1 I.1 x1 x2 x3 x4 x5 _ ⟨fun l => ?_, fun n => ⟨I.1, no (fun o => n o.2.2.2.2.2)⟩⟩
  obtain ⟨e1, e2⟩ := ex l
  have I5 := ((tr_ 61 (by decide +kernel) (tr_ 60 (by decide +kernel) (tr_ 59 (by decide +kernel) (tr_ 58 (by decide +kernel) (I.im (a := 57) (k := (h_i h1 17 7).toNatClampNeg) (x := x1) (by rw [tfa_tf (show tfa 57 = some (0, 9) by decide +kernel)]; exact ⟨by have := q_le.mp a1.1; exact this, by have := q_le.mp a1.2; exact this⟩) (jw_jr (by decide) (by decide) _)) (h_i h1 17 7).toNatClampNeg x2 (by decide) (by decide)) (h_i h1 17 7).toNatClampNeg x3 (by decide) (by decide)) (h_i h1 17 7).toNatClampNeg x4 (by decide) (by decide)) (h_i h1 17 7).toNatClampNeg x5 (by decide) (by decide)).im (a := 17) (k := 7) (x := (h_i h1 17 7 + 1)) (by rw [show tf 17 7 = (0, 80) by decide +kernel]; exact ⟨by show (0 : Int) ≤ _; omega, by show _ ≤ (80 : Int); omega⟩) (by decide))
  exact ⟨vin l, vin l, vin l, vin l, vin l, I5.1, I5, ((((((Fr.rf _ _).im (inw_row (by decide +kernel) _)).im (inw_row (by decide +kernel) _)).im (inw_row (by decide +kernel) _)).im (inw_row (by decide +kernel) _)).im (inw_row (by decide +kernel) _)).im (by decide +kernel), Or.inl ⟨⟨a1, a2, a3, a4, a5, l⟩, tx_back _, im_at, (by repeat first | rw [im_row] | rw [im_oth (by decide)]), (by repeat first | rw [im_row] | rw [im_oth (by decide)]), (by repeat first | rw [im_row] | rw [im_oth (by decide)]), (by repeat first | rw [im_row] | rw [im_oth (by decide)]), (by repeat first | rw [im_row] | rw [im_oth (by decide)])⟩⟩
theorem c_fnM (d : Nat) {h : Hp_} (I : Iv h) (x1 x2 x3 x4 x5 : Int32) : Ci (m_X12_find (d + 2) 0 0) [.ref 1, .int x1, .int x2, .int x3, .int x4, .int x5] h (fun r h' => Iv h' ∧ Fr [1079, 249999, 250999, 251999, 252999, 253999] h h' ∧ Fnm x1 x2 x3 x4 x5 h r h') := by
  have t1 : (1 : Int32).toInt = 1 := rfl
  have tc : (80 : Int32).toInt = 80 := rfl
  have rg := I.2.1 1 79
  rw [show tf 1 79 = (0, 80) by decide +kernel] at rg
  have r0 : 0 ≤ (h_i h 1 79).toInt := rg.1
  have r1 : (h_i h 1 79).toInt ≤ 80 := rg.2
  have no : ¬ okfn (h_i h 1 79) x1 x2 x3 x4 x5 → Iv h ∧ Fr [1079, 249999, 250999, 251999, 252999, 253999] h h ∧ Fnm x1 x2 x3 x4 x5 h (-1) h := fun n => ⟨I, Fr.rf _ _, Or.inr ⟨n, rfl, rfl⟩⟩
  have vin : h_i h 1 79 < 80 → vp_in (h_i h 1 79) 80 := fun l => dp_in (lo := 0) (hi := 79) ⟨r0, by have := q_lt.mp l; show _ ≤ (79 : Int); omega⟩ (by decide) (by decide)
  have ex : h_i h 1 79 < 80 → (h_i h 1 79 + 1).toInt = (h_i h 1 79).toInt + 1 ∧ (h_i h 1 79).toInt < 80 := fun l => by
    have l := q_lt.mp l
    exact ⟨tx_add (by rw [t1]; omega) (by rw [t1]; omega), by omega⟩
  refine t_X12_find d h I.1 x1 x2 x3 x4 x5 _ ⟨fun n => no (fun o => n o.1), fun a1 => ⟨fun n => no (fun o => n o.2.1), fun a2 => ⟨fun n => no (fun o => n o.2.2.1), fun a3 => ⟨fun n => no (fun o => n o.2.2.2.1), fun a4 => ⟨fun n => no (fun o => n o.2.2.2.2.1), fun a5 => ⟨fun ne => ?_, fun e => no (fun o => o.2.2.2.2.2 e)⟩⟩⟩⟩⟩⟩
  have l : h_i h 1 79 < 80 := (nz_lt (by rw [tc]; exact r1)).mpr ne
  obtain ⟨e1, e2⟩ := ex l
  exact ⟨vin l, vin l, vin l, vin l, vin l, ((tr_ 253 (by decide +kernel) (tr_ 252 (by decide +kernel) (tr_ 251 (by decide +kernel) (tr_ 250 (by decide +kernel) (I.im (a := 249) (k := (h_i h 1 79).toNatClampNeg) (x := x1) (by rw [tfa_tf (show tfa 249 = some (0, 9) by decide +kernel)]; exact ⟨by have := q_le.mp a1.1; exact this, by have := q_le.mp a1.2; exact this⟩) (jw_jr (by decide) (by decide) _)) (h_i h 1 79).toNatClampNeg x2 (by decide) (by decide)) (h_i h 1 79).toNatClampNeg x3 (by decide) (by decide)) (h_i h 1 79).toNatClampNeg x4 (by decide) (by decide)) (h_i h 1 79).toNatClampNeg x5 (by decide) (by decide)).im (a := 1) (k := 79) (x := (h_i h 1 79 + 1)) (by rw [show tf 1 79 = (0, 80) by decide +kernel]; exact ⟨by show (0 : Int) ≤ _; omega, by show _ ≤ (80 : Int); omega⟩) (by decide)), ((((((Fr.rf _ _).im (inw_row (by decide +kernel) _)).im (inw_row (by decide +kernel) _)).im (inw_row (by decide +kernel) _)).im (inw_row (by decide +kernel) _)).im (inw_row (by decide +kernel) _)).im (by decide +kernel), Or.inl ⟨⟨a1, a2, a3, a4, a5, ne⟩, tx_back _, im_at, (by repeat first | rw [im_row] | rw [im_oth (by decide)]), (by repeat first | rw [im_row] | rw [im_oth (by decide)]), (by repeat first | rw [im_row] | rw [im_oth (by decide)]), (by repeat first | rw [im_row] | rw [im_oth (by decide)]), (by repeat first | rw [im_row] | rw [im_oth (by decide)])⟩⟩
theorem m1_fr {ws : List Nat} {h h' : Hp_} (f : Fr ws h h') (o : inw ws 401 1 = false) : ∀ j : Nat, j < 12 → h_i h' (401 + j) 1 = h_i h (401 + j) 1 := fun j hj => by
  have c1 : cn (401 + j) = cn 401 := (cn_man hj).trans (by decide)
  exact (f.2 (401 + j) 1 (by rw [inw_ce c1]; exact o)).1
theorem kx_7 {h h' : Hp_} (e : ExK h) (r204 : h_i h' 204 = h_i h 204) (f0_7 : h_i h' 0 7 = h_i h 0 7) (M : ∀ j : Nat, j < 12 → h_i h' (401 + j) 1 = h_i h (401 + j) 1) : (∀ j : Nat, j < (h_i h' 0 7).toNatClampNeg → h_i h' (401 + j) 1 = h_i h' 204 j) := fun j hj => by
  rw [f0_7] at hj
  have m := e.1.2.2.2.2.2
  rw [M j (by omega), r204]
  exact e.2.2.2.2.2.2.1 j hj
theorem ExK.fn {h h1 h2 : Hp_} {x1 x2 x3 x4 x5 r1 r2 : Int32} (e : ExK h) (I : Iv h) (F1 : Fr [17007, 57999, 58999, 59999, 60999, 61999] h h1) (F2 : Fr [1079, 249999, 250999, 251999, 252999, 253999] h1 h2) (k1 : Fnx x1 x2 x3 x4 x5 h r1 h1) (k2 : Fnm x1 x2 x3 x4 x5 h1 r2 h2) : ExK h2 ∧ r1 = r2 := by
  have r17 := (iq17 I).1
  have n7 := n_nat r17.1
  have t1 : (1 : Int32).toInt = 1 := rfl
  have e79 : h_i h1 1 79 = h_i h 17 7 := by rw [(F1.2 1 79 (by decide +kernel)).1]; exact e.1.2.1
  have ok : okfx (h_i h 17 7) x1 x2 x3 x4 x5 ↔ okfn (h_i h1 1 79) x1 x2 x3 x4 x5 := by
    rw [e79]
    unfold okfx okfn
    rw [p15, nz_lt (n := 80) r17.2]
  have g : ∀ a, off [17007, 57999, 58999, 59999, 60999, 61999] a = true → off [1079, 249999, 250999, 251999, 252999, 253999] a = true → h_i h2 a = h_i h a := fun a o1 o2 => funext (fun k => (fr_i F2 o2 k).trans (fr_i F1 o1 k))
  have gf : ∀ a k, inw [17007, 57999, 58999, 59999, 60999, 61999] a k = false → inw [1079, 249999, 250999, 251999, 252999, 253999] a k = false → h_i h2 a k = h_i h a k := fun a k o1 o2 => ((F2.2 a k o2).1).trans (F1.2 a k o1).1
  rcases k1 with ⟨c1, er1, m1, s57, s58, s59, s60, s61⟩ | ⟨c1, er1, eh1⟩
  · rcases k2 with ⟨c2, er2, m2, t249, t250, t251, t252, t253⟩ | ⟨c2, _⟩
    · rw [e79] at er2 m2 t249 t250 t251 t252 t253
      refine ⟨⟨⟨by rw [gf 1 80 (by decide +kernel) (by decide +kernel), gf 17 16 (by decide +kernel) (by decide +kernel)]; exact e.1.1, ?_, by rw [gf 1 96 (by decide +kernel) (by decide +kernel), gf 18 3 (by decide +kernel) (by decide +kernel)]; exact e.1.2.2.1, by rw [gf 1 29 (by decide +kernel) (by decide +kernel), gf 21 4 (by decide +kernel) (by decide +kernel)]; exact e.1.2.2.2.1, by rw [gf 235 0 (by decide +kernel) (by decide +kernel), gf 13 5 (by decide +kernel) (by decide +kernel)]; exact e.1.2.2.2.2.1, by rw [gf 0 7 (by decide +kernel) (by decide +kernel)]; exact e.1.2.2.2.2.2⟩, fun f hf => ?_, kx_3 e (g 255 (by decide +kernel) (by decide +kernel)) (g 256 (by decide +kernel) (by decide +kernel)) (g 257 (by decide +kernel) (by decide +kernel)) (g 258 (by decide +kernel) (by decide +kernel)) (g 259 (by decide +kernel) (by decide +kernel)) (g 260 (by decide +kernel) (by decide +kernel)) (g 261 (by decide +kernel) (by decide +kernel)) (g 64 (by decide +kernel) (by decide +kernel)) (g 65 (by decide +kernel) (by decide +kernel)) (g 66 (by decide +kernel) (by decide +kernel)) (g 67 (by decide +kernel) (by decide +kernel)) (g 68 (by decide +kernel) (by decide +kernel)) (g 69 (by decide +kernel) (by decide +kernel)) (g 70 (by decide +kernel) (by decide +kernel)) (gf 17 16 (by decide +kernel) (by decide +kernel)), kx_4 e (g 262 (by decide +kernel) (by decide +kernel)) (g 263 (by decide +kernel) (by decide +kernel)) (g 71 (by decide +kernel) (by decide +kernel)) (g 72 (by decide +kernel) (by decide +kernel)) (gf 18 3 (by decide +kernel) (by decide +kernel)), kx_5 e (g 104 (by decide +kernel) (by decide +kernel)) (g 105 (by decide +kernel) (by decide +kernel)) (g 106 (by decide +kernel) (by decide +kernel)) (g 107 (by decide +kernel) (by decide +kernel)) (g 221 (by decide +kernel) (by decide +kernel)) (g 222 (by decide +kernel) (by decide +kernel)) (g 223 (by decide +kernel) (by decide +kernel)) (g 224 (by decide +kernel) (by decide +kernel)) , kx_6 e (g 233 (by decide +kernel) (by decide +kernel)) (g 234 (by decide +kernel) (by decide +kernel)) (g 37 (by decide +kernel) (by decide +kernel)) (g 38 (by decide +kernel) (by decide +kernel)) (gf 13 5 (by decide +kernel) (by decide +kernel)), kx_7 e (g 204 (by decide +kernel) (by decide +kernel)) (gf 0 7 (by decide +kernel) (by decide +kernel)) (fun j hj => (m1_fr F2 (by decide +kernel) j hj).trans (m1_fr F1 (by decide +kernel) j hj)), kx_8 e (g 39 (by decide +kernel) (by decide +kernel)) (g 40 (by decide +kernel) (by decide +kernel)) (g 231 (by decide +kernel) (by decide +kernel)) (g 232 (by decide +kernel) (by decide +kernel)) (gf 13 5 (by decide +kernel) (by decide +kernel))⟩, er1.trans er2.symm⟩
      · rw [m2, (F2.2 17 7 (by decide +kernel)).1, m1]
      · have q := e.2.1 f hf
        have w : ∀ a, off [1079, 249999, 250999, 251999, 252999, 253999] a = true → h_i h2 a = h_i h1 a := fun a o2 => funext (fun k => fr_i F2 o2 k)
        have w1 : ∀ a, off [17007, 57999, 58999, 59999, 60999, 61999] a = true → h_i h1 a = h_i h a := fun a o2 => funext (fun k => fr_i F1 o2 k)
        have l80 := q_lt.mp c1.2.2.2.2.2
        rw [show (80 : Int32).toInt = 80 from rfl] at l80
        have f7 : (h_i h 17 7 + 1).toInt = (h_i h 17 7).toInt + 1 := by rw [tx_add (by rw [t1]; omega) (by rw [t1]; omega), t1]
        have n8 := n_nat (x := h_i h 17 7 + 1) (by omega)
        refine ⟨fun hl => ?_, by rw [g 254 (by decide +kernel) (by decide +kernel), g 63 (by decide +kernel) (by decide +kernel)]; exact q.2.1, by rw [g 62 (by decide +kernel) (by decide +kernel), g 65 (by decide +kernel) (by decide +kernel), gf 17 16 (by decide +kernel) (by decide +kernel)]; exact q.2.2⟩
        rw [(F2.2 17 7 (by decide +kernel)).1, m1] at hl
        rw [t249, t250, t251, t252, t253, w 57 (by decide +kernel), w 58 (by decide +kernel), w 59 (by decide +kernel), w 60 (by decide +kernel), w 61 (by decide +kernel), s57, s58, s59, s60, s61, w1 249 (by decide +kernel), w1 250 (by decide +kernel), w1 251 (by decide +kernel), w1 252 (by decide +kernel), w1 253 (by decide +kernel)]
        by_cases u : f = (h_i h 17 7).toNatClampNeg
        · rw [u, up1_at, up1_at, up1_at, up1_at, up1_at, up1_at, up1_at, up1_at, up1_at, up1_at]
          have a := q_le.mp c1.2.1.1
          have b := q_lt.mp c1.2.1.2
          exact ⟨⟨rfl, rfl, rfl, rfl, rfl⟩, a, b⟩
        · rw [up1_ne u, up1_ne u, up1_ne u, up1_ne u, up1_ne u, up1_ne u, up1_ne u, up1_ne u, up1_ne u, up1_ne u]
          exact q.1 (by omega)
    · exact absurd (ok.mp c1) c2
  · rcases k2 with ⟨c2, _⟩ | ⟨c2, er2, eh2⟩
    · exact absurd (ok.mpr c2) c1
    · rw [eh2, eh1]
      exact ⟨e, er1.trans er2.symm⟩
/-! rank -/
def okrx (m c x1 x2 x3 : Int32) : Prop := (0 ≤ x1 ∧ x1 ≤ m - 1) ∧ (1 ≤ x2 ∧ x2 ≤ 4) ∧ (0 ≤ x3 ∧ x3 ≤ 30) ∧ c < 40
def okrn (m c x1 x2 x3 : Int32) : Prop := (0 ≤ x1 ∧ x1 ≤ m - 1) ∧ (1 ≤ x2 ∧ x2 ≤ 4) ∧ (0 ≤ x3 ∧ x3 ≤ 30) ∧ ¬ c = 40
def ocrk (ok : Prop) (m r m' : Int32) : Prop := (ok ∧ r = 1 ∧ m' = m + 1) ∨ (¬ ok ∧ r = 0 ∧ m' = m)
theorem ocrk_eq {p q : Prop} {m r1 r2 m1 m2 : Int32} (e : p ↔ q) (a : ocrk p m r1 m1) (b : ocrk q m r2 m2) : r1 = r2 ∧ m1 = m2 := by
  rcases a with ⟨a, a1, a2⟩ | ⟨a, a1, a2⟩ <;> rcases b with ⟨b, b1, b2⟩ | ⟨b, b1, b2⟩
  · exact ⟨a1.trans b1.symm, a2.trans b2.symm⟩
  · exact absurd (e.mp a) b
  · exact absurd (e.mpr b) a
  · exact ⟨a1.trans b1.symm, a2.trans b2.symm⟩
theorem v40 {x : Int32} (r0 : 0 ≤ x.toInt) (l : x < 40) : vp_in x 40 ∧ rin (x + 1).toInt (0, 40) := by
  have t1 : (1 : Int32).toInt = 1 := rfl
  have t8 : (40 : Int32).toInt = 40 := rfl
  have l := q_lt.mp l
  have e : (x + 1).toInt = x.toInt + 1 := tx_add (by rw [t1]; omega) (by rw [t1]; omega)
  exact ⟨dp_in (lo := 0) (hi := 39) ⟨r0, by show _ ≤ (39 : Int); omega⟩ (by decide) (by decide), ⟨by show (0 : Int) ≤ _; omega, by show _ ≤ (40 : Int); omega⟩⟩
theorem c_isMnX (d : Nat) {h : Hp_} (I : Iv h) (m : Mn h) (x1 : Int32) : Ci (m_X11_isMan (d + 2) 0 0) [.ref 0, .int x1] h (fun r h' => r = bI (0 ≤ x1 ∧ x1 ≤ h_i h 0 7 - 1) ∧ h' = h) := by
  have rg := I.2.1 0 7
  rw [show tf 0 7 = (0, 12) by decide +kernel] at rg
  have r0 : 0 ≤ (h_i h 0 7).toInt := rg.1
  have r1 : (h_i h 0 7).toInt ≤ 12 := rg.2
  have t1 : (1 : Int32).toInt = 1 := rfl
  have e1 : (h_i h 0 7 - 1).toInt = (h_i h 0 7).toInt - 1 := tx_sub (by rw [t1]; omega) (by rw [t1]; omega)
  refine t_X11_isMan d h I.1 x1 _ (t_X11_manOf d h I.1 x1 _ ⟨fun n => ⟨I.1, fun _ => ⟨(bI_0.mpr n).symm, rfl⟩, fun b e => by cases e⟩, fun y => ?_⟩)
  have y1 := q_le.mp y.1
  have y2 := q_le.mp y.2
  have y1 : 0 ≤ x1.toInt := y1
  have n1 := n_nat (x := x1) y1
  refine ⟨dp_in (lo := 0) (hi := 11) ⟨y1, by show _ ≤ (11 : Int); omega⟩ (by decide) (by decide), fun e => absurd e (m _ (by omega) (by omega)), fun b5 e => ?_⟩
  rcases I.2.2.1 x1.toNatClampNeg with u | ⟨c, u, cn⟩
  · rw [u] at e; cases e
  · rw [u] at e
    cases e
    exact ⟨cn.2.2, by have := cn.1; omega, I.1, (fun z => nomatch z), fun b4 e4 => (by cases e4; exact ⟨cn.2.2, by have := cn.1; omega, (bI_1.mpr y).symm, rfl⟩)⟩
theorem c_rnX (d : Nat) {h : Hp_} (I : Iv h) (mn : Mn h) (x1 x2 x3 : Int32) : Ci (m_X11_rank (d + 3) 0 0) [.ref 0, .int x1, .int x2, .int x3] h (fun r h' => Iv h' ∧ Fr [21004, 104999, 105999, 106999, 107999] h h' ∧ ocrk (okrx (h_i h 0 7) (h_i h 21 4) x1 x2 x3) (h_i h 21 4) r (h_i h' 21 4) ∧ ((okrx (h_i h 0 7) (h_i h 21 4) x1 x2 x3 ∧ ∀ k, h_i h' 104 k = (if k = (h_i h 21 4).toNatClampNeg then x1 else h_i h 104 k) ∧ h_i h' 105 k = (if k = (h_i h 21 4).toNatClampNeg then x2 else h_i h 105 k) ∧ h_i h' 106 k = (if k = (h_i h 21 4).toNatClampNeg then x3 else h_i h 106 k) ∧ h_i h' 107 k = (if k = (h_i h 21 4).toNatClampNeg then h_i h 0 0 else h_i h 107 k)) ∨ (¬ okrx (h_i h 0 7) (h_i h 21 4) x1 x2 x3 ∧ h' = h))) := by
  have rg := I.2.1 21 4
  rw [show tf 21 4 = (0, 40) by decide +kernel] at rg
  have no : ¬ okrx (h_i h 0 7) (h_i h 21 4) x1 x2 x3 → Iv h ∧ Fr [21004, 104999, 105999, 106999, 107999] h h ∧ ocrk (okrx (h_i h 0 7) (h_i h 21 4) x1 x2 x3) (h_i h 21 4) 0 (h_i h 21 4) ∧ ((okrx (h_i h 0 7) (h_i h 21 4) x1 x2 x3 ∧ ∀ k, h_i h 104 k = (if k = (h_i h 21 4).toNatClampNeg then x1 else h_i h 104 k) ∧ h_i h 105 k = (if k = (h_i h 21 4).toNatClampNeg then x2 else h_i h 105 k) ∧ h_i h 106 k = (if k = (h_i h 21 4).toNatClampNeg then x3 else h_i h 106 k) ∧ h_i h 107 k = (if k = (h_i h 21 4).toNatClampNeg then h_i h 0 0 else h_i h 107 k)) ∨ (¬ okrx (h_i h 0 7) (h_i h 21 4) x1 x2 x3 ∧ h = h)) := fun n => ⟨I, Fr.rf _ _, Or.inr ⟨n, rfl, rfl⟩, Or.inr ⟨n, rfl⟩⟩
  refine t_X11_rank d h I.1 x1 x2 x3 _ (Ci.mono (c_isMnX d I mn x1) (fun r h1 q => ?_))
  obtain ⟨er, eh⟩ := q
  subst er eh
  refine ⟨I.1, fun z => no (fun o => bI_0.mp z o.1), fun z => ⟨fun n => no (fun o => n o.2.1), fun a2 => ⟨fun a3 => ?_, fun n => no (fun o => n o.2.2.1)⟩⟩⟩
  have a1 : 0 ≤ x1 ∧ x1 ≤ h_i h1 0 7 - 1 := Decidable.byContradiction (fun n => z (bI_0.mpr n))
  refine t_X5_addRank d h1 I.1 x1 x2 x3 (h_i h1 0 0) _ ⟨fun l => ?_, fun n => ⟨I.1, Or.inl rfl, no (fun o => n o.2.2.2)⟩⟩
  have v := v40 rg.1 l
  have I5 := ((tr_ 107 (by decide +kernel) (tr_ 106 (by decide +kernel) (tr_ 105 (by decide +kernel) (tr_ 104 (by decide +kernel) I (h_i h1 21 4).toNatClampNeg x1 (by decide) (by decide)) (h_i h1 21 4).toNatClampNeg x2 (by decide) (by decide)) (h_i h1 21 4).toNatClampNeg x3 (by decide) (by decide)) (h_i h1 21 4).toNatClampNeg (h_i h1 0 0) (by decide) (by decide)).im (a := 21) (k := 4) (x := h_i h1 21 4 + 1) (by rw [show tf 21 4 = (0, 40) by decide +kernel]; exact v.2) (by decide))
  exact ⟨v.1, v.1, v.1, v.1, I5.1, Or.inr rfl, I5, (((((Fr.rf _ _).im (inw_row (by decide +kernel) _)).im (inw_row (by decide +kernel) _)).im (inw_row (by decide +kernel) _)).im (inw_row (by decide +kernel) _)).im (by decide +kernel), Or.inl ⟨⟨a1, a2, a3, l⟩, rfl, im_at⟩, Or.inl ⟨⟨a1, a2, a3, l⟩, fun k => ⟨by rw [im_ne (by decide), im_ne (by decide), im_ne (by decide), im_ne (by decide), h_i_im]; simp, by rw [im_ne (by decide), im_ne (by decide), im_ne (by decide), h_i_im, im_ne (by decide)]; simp, by rw [im_ne (by decide), im_ne (by decide), h_i_im, im_ne (by decide), im_ne (by decide)]; simp, by rw [im_ne (by decide), h_i_im, im_ne (by decide), im_ne (by decide), im_ne (by decide)]; simp⟩⟩⟩
theorem c_rnM (d : Nat) {h : Hp_} (I : Iv h) (x1 x2 x3 : Int32) : Ci (m_X12_rank (d + 2) 0 0) [.ref 1, .int x1, .int x2, .int x3] h (fun r h' => Iv h' ∧ Fr [1029, 221999, 222999, 223999, 224999] h h' ∧ ocrk (okrn (h_i h 1 7) (h_i h 1 29) x1 x2 x3) (h_i h 1 29) r (h_i h' 1 29) ∧ ((okrn (h_i h 1 7) (h_i h 1 29) x1 x2 x3 ∧ ∀ k, h_i h' 221 k = (if k = (h_i h 1 29).toNatClampNeg then x1 else h_i h 221 k) ∧ h_i h' 222 k = (if k = (h_i h 1 29).toNatClampNeg then x2 else h_i h 222 k) ∧ h_i h' 223 k = (if k = (h_i h 1 29).toNatClampNeg then x3 else h_i h 223 k) ∧ h_i h' 224 k = (if k = (h_i h 1 29).toNatClampNeg then h_i h 1 0 else h_i h 224 k)) ∨ (¬ okrn (h_i h 1 7) (h_i h 1 29) x1 x2 x3 ∧ h' = h))) := by
  have tc : (40 : Int32).toInt = 40 := rfl
  have rg := I.2.1 1 29
  rw [show tf 1 29 = (0, 40) by decide +kernel] at rg
  have no : ¬ okrn (h_i h 1 7) (h_i h 1 29) x1 x2 x3 → Iv h ∧ Fr [1029, 221999, 222999, 223999, 224999] h h ∧ ocrk (okrn (h_i h 1 7) (h_i h 1 29) x1 x2 x3) (h_i h 1 29) 0 (h_i h 1 29) ∧ ((okrn (h_i h 1 7) (h_i h 1 29) x1 x2 x3 ∧ ∀ k, h_i h 221 k = (if k = (h_i h 1 29).toNatClampNeg then x1 else h_i h 221 k) ∧ h_i h 222 k = (if k = (h_i h 1 29).toNatClampNeg then x2 else h_i h 222 k) ∧ h_i h 223 k = (if k = (h_i h 1 29).toNatClampNeg then x3 else h_i h 223 k) ∧ h_i h 224 k = (if k = (h_i h 1 29).toNatClampNeg then h_i h 1 0 else h_i h 224 k)) ∨ (¬ okrn (h_i h 1 7) (h_i h 1 29) x1 x2 x3 ∧ h = h)) := fun n => ⟨I, Fr.rf _ _, Or.inr ⟨n, rfl, rfl⟩, Or.inr ⟨n, rfl⟩⟩
  refine t_X12_rank d h I.1 x1 x2 x3 _ ⟨fun n => no (fun o => n o.1), fun a1 => ⟨fun n => no (fun o => n o.2.1), fun a2 => ⟨fun n => no (fun o => n o.2.2.1), fun a3 => ⟨fun ne => ?_, fun e => no (fun o => o.2.2.2 e)⟩⟩⟩⟩
  have v := v40 rg.1 ((nz_lt (by rw [tc]; exact rg.2)).mpr ne)
  exact ⟨v.1, v.1, v.1, v.1, ((tr_ 224 (by decide +kernel) (tr_ 223 (by decide +kernel) (tr_ 222 (by decide +kernel) (tr_ 221 (by decide +kernel) I _ _ (by decide) (by decide)) _ _ (by decide) (by decide)) _ _ (by decide) (by decide)) _ _ (by decide) (by decide)).im (a := 1) (k := 29) (by rw [show tf 1 29 = (0, 40) by decide +kernel]; exact v.2) (by decide)), (((((Fr.rf _ _).im (inw_row (by decide +kernel) _)).im (inw_row (by decide +kernel) _)).im (inw_row (by decide +kernel) _)).im (inw_row (by decide +kernel) _)).im (by decide +kernel), Or.inl ⟨⟨a1, a2, a3, ne⟩, rfl, im_at⟩, Or.inl ⟨⟨a1, a2, a3, ne⟩, fun k => ⟨by rw [im_ne (by decide), im_ne (by decide), im_ne (by decide), im_ne (by decide), h_i_im]; simp, by rw [im_ne (by decide), im_ne (by decide), im_ne (by decide), h_i_im, im_ne (by decide)]; simp, by rw [im_ne (by decide), im_ne (by decide), h_i_im, im_ne (by decide), im_ne (by decide)]; simp, by rw [im_ne (by decide), h_i_im, im_ne (by decide), im_ne (by decide), im_ne (by decide)]; simp⟩⟩⟩
theorem ExK.rn {h h1 h2 : Hp_} {x1 x2 x3 r1 r2 : Int32} (e : ExK h) (I : Iv h) (em : h_i h 0 7 = h_i h 1 7) (e0 : h_i h 0 0 = h_i h 1 0) (k1 : Iv h1 ∧ Fr [21004, 104999, 105999, 106999, 107999] h h1 ∧ ocrk (okrx (h_i h 0 7) (h_i h 21 4) x1 x2 x3) (h_i h 21 4) r1 (h_i h1 21 4) ∧ ((okrx (h_i h 0 7) (h_i h 21 4) x1 x2 x3 ∧ ∀ k, h_i h1 104 k = (if k = (h_i h 21 4).toNatClampNeg then x1 else h_i h 104 k) ∧ h_i h1 105 k = (if k = (h_i h 21 4).toNatClampNeg then x2 else h_i h 105 k) ∧ h_i h1 106 k = (if k = (h_i h 21 4).toNatClampNeg then x3 else h_i h 106 k) ∧ h_i h1 107 k = (if k = (h_i h 21 4).toNatClampNeg then h_i h 0 0 else h_i h 107 k)) ∨ (¬ okrx (h_i h 0 7) (h_i h 21 4) x1 x2 x3 ∧ h1 = h))) (k2 : Iv h2 ∧ Fr [1029, 221999, 222999, 223999, 224999] h1 h2 ∧ ocrk (okrn (h_i h1 1 7) (h_i h1 1 29) x1 x2 x3) (h_i h1 1 29) r2 (h_i h2 1 29) ∧ ((okrn (h_i h1 1 7) (h_i h1 1 29) x1 x2 x3 ∧ ∀ k, h_i h2 221 k = (if k = (h_i h1 1 29).toNatClampNeg then x1 else h_i h1 221 k) ∧ h_i h2 222 k = (if k = (h_i h1 1 29).toNatClampNeg then x2 else h_i h1 222 k) ∧ h_i h2 223 k = (if k = (h_i h1 1 29).toNatClampNeg then x3 else h_i h1 223 k) ∧ h_i h2 224 k = (if k = (h_i h1 1 29).toNatClampNeg then h_i h1 1 0 else h_i h1 224 k)) ∨ (¬ okrn (h_i h1 1 7) (h_i h1 1 29) x1 x2 x3 ∧ h2 = h1))) : ExK h2 ∧ r1 = r2 := by
  have F1 := k1.2.1
  have F2 := k2.2.1
  have g : ∀ a, off [21004, 104999, 105999, 106999, 107999] a = true → off [1029, 221999, 222999, 223999, 224999] a = true → h_i h2 a = h_i h a := fun a o1 o2 => funext (fun k => (fr_i F2 o2 k).trans (fr_i F1 o1 k))
  have gf : ∀ a k, inw [21004, 104999, 105999, 106999, 107999] a k = false → inw [1029, 221999, 222999, 223999, 224999] a k = false → h_i h2 a k = h_i h a k := fun a k o1 o2 => ((F2.2 a k o2).1).trans (F1.2 a k o1).1
  have rg := I.2.1 1 29
  rw [show tf 1 29 = (0, 40) by decide +kernel] at rg
  have eb := e.1.2.2.2.1
  have kq := k2.2.2
  have kp := k1.2.2
  rw [(k1.2.1.2 1 7 (by decide +kernel)).1, (k1.2.1.2 1 29 (by decide +kernel)).1, (k1.2.1.2 1 0 (by decide +kernel)).1] at kq
  rw [em, ← eb, e0] at kp
  have ez : okrx (h_i h 1 7) (h_i h 1 29) x1 x2 x3 ↔ okrn (h_i h 1 7) (h_i h 1 29) x1 x2 x3 := by
    unfold okrx okrn
    rw [nz_lt (n := 40) rg.2]
  have z := ocrk_eq ez kp.1 kq.1
  refine ⟨⟨⟨by rw [gf 1 80 (by decide +kernel) (by decide +kernel), gf 17 16 (by decide +kernel) (by decide +kernel)]; exact e.1.1, by rw [gf 1 79 (by decide +kernel) (by decide +kernel), gf 17 7 (by decide +kernel) (by decide +kernel)]; exact e.1.2.1, by rw [gf 1 96 (by decide +kernel) (by decide +kernel), gf 18 3 (by decide +kernel) (by decide +kernel)]; exact e.1.2.2.1, ?_, by rw [gf 235 0 (by decide +kernel) (by decide +kernel), gf 13 5 (by decide +kernel) (by decide +kernel)]; exact e.1.2.2.2.2.1, by rw [gf 0 7 (by decide +kernel) (by decide +kernel)]; exact e.1.2.2.2.2.2⟩, kx_2 e (g 249 (by decide +kernel) (by decide +kernel)) (g 250 (by decide +kernel) (by decide +kernel)) (g 251 (by decide +kernel) (by decide +kernel)) (g 252 (by decide +kernel) (by decide +kernel)) (g 253 (by decide +kernel) (by decide +kernel)) (g 57 (by decide +kernel) (by decide +kernel)) (g 58 (by decide +kernel) (by decide +kernel)) (g 59 (by decide +kernel) (by decide +kernel)) (g 60 (by decide +kernel) (by decide +kernel)) (g 61 (by decide +kernel) (by decide +kernel)) (g 254 (by decide +kernel) (by decide +kernel)) (g 63 (by decide +kernel) (by decide +kernel)) (g 62 (by decide +kernel) (by decide +kernel)) (g 65 (by decide +kernel) (by decide +kernel)) (gf 17 7 (by decide +kernel) (by decide +kernel)) (gf 17 16 (by decide +kernel) (by decide +kernel)), kx_3 e (g 255 (by decide +kernel) (by decide +kernel)) (g 256 (by decide +kernel) (by decide +kernel)) (g 257 (by decide +kernel) (by decide +kernel)) (g 258 (by decide +kernel) (by decide +kernel)) (g 259 (by decide +kernel) (by decide +kernel)) (g 260 (by decide +kernel) (by decide +kernel)) (g 261 (by decide +kernel) (by decide +kernel)) (g 64 (by decide +kernel) (by decide +kernel)) (g 65 (by decide +kernel) (by decide +kernel)) (g 66 (by decide +kernel) (by decide +kernel)) (g 67 (by decide +kernel) (by decide +kernel)) (g 68 (by decide +kernel) (by decide +kernel)) (g 69 (by decide +kernel) (by decide +kernel)) (g 70 (by decide +kernel) (by decide +kernel)) (gf 17 16 (by decide +kernel) (by decide +kernel)), kx_4 e (g 262 (by decide +kernel) (by decide +kernel)) (g 263 (by decide +kernel) (by decide +kernel)) (g 71 (by decide +kernel) (by decide +kernel)) (g 72 (by decide +kernel) (by decide +kernel)) (gf 18 3 (by decide +kernel) (by decide +kernel)), fun k hk => ?_, kx_6 e (g 233 (by decide +kernel) (by decide +kernel)) (g 234 (by decide +kernel) (by decide +kernel)) (g 37 (by decide +kernel) (by decide +kernel)) (g 38 (by decide +kernel) (by decide +kernel)) (gf 13 5 (by decide +kernel) (by decide +kernel)), kx_7 e (g 204 (by decide +kernel) (by decide +kernel)) (gf 0 7 (by decide +kernel) (by decide +kernel)) (fun j hj => (m1_fr F2 (by decide +kernel) j hj).trans (m1_fr F1 (by decide +kernel) j hj)), kx_8 e (g 39 (by decide +kernel) (by decide +kernel)) (g 40 (by decide +kernel) (by decide +kernel)) (g 231 (by decide +kernel) (by decide +kernel)) (g 232 (by decide +kernel) (by decide +kernel)) (gf 13 5 (by decide +kernel) (by decide +kernel))⟩, z.1⟩
  · rw [(F2.2 21 4 (by decide +kernel)).1]
    exact z.2.symm
  · have r := e.2.2.2.2.1 k hk
    rw [fr_i F2 (a := 104) (by decide +kernel) k, fr_i F2 (a := 105) (by decide +kernel) k, fr_i F2 (a := 106) (by decide +kernel) k, fr_i F2 (a := 107) (by decide +kernel) k]
    rcases kp.2 with ⟨p, f⟩ | ⟨p, f⟩ <;> rcases kq.2 with ⟨q, gg⟩ | ⟨q, gg⟩
    · rw [(f k).1, (f k).2.1, (f k).2.2.1, (f k).2.2.2, (gg k).1, (gg k).2.1, (gg k).2.2.1, (gg k).2.2.2, fr_i F1 (a := 221) (by decide +kernel) k, fr_i F1 (a := 222) (by decide +kernel) k, fr_i F1 (a := 223) (by decide +kernel) k, fr_i F1 (a := 224) (by decide +kernel) k, r.1, r.2.1, r.2.2.1, r.2.2.2]
      exact ⟨rfl, rfl, rfl, rfl⟩
    · exact absurd (ez.mp p) q
    · exact absurd (ez.mpr q) p
    · rw [gg, f]
      exact r
/-! open -/
def Onx (x1 : Int32) (h : Hp_) (r : Int32) (h' : Hp_) : Prop := (0 ≤ x1 ∧ x1 ≤ 9 → Saq x1 (h_i h 0 0) h r h') ∧ (¬ (0 ≤ x1 ∧ x1 ≤ 9) → r = -1 ∧ h' = h)
def Onm (x1 : Int32) (h : Hp_) (r : Int32) (h' : Hp_) : Prop := ((0 ≤ x1 ∧ x1 ≤ 9) ∧ ¬ 30 ≤ h_i h 1 96 → Opq x1 h r h') ∧ (¬ ((0 ≤ x1 ∧ x1 ≤ 9) ∧ ¬ 30 ≤ h_i h 1 96) → r = -1 ∧ h' = h)
theorem ExK.on {h h1 h2 : Hp_} {x1 r1 r2 : Int32} (e : ExK h) (I : Iv h) (e0 : h_i h 0 0 = h_i h 1 0) (F1 : Fr [18003, 71999, 72999] h h1) (F2 : Fr [1096, 262999, 263999] h1 h2) (k1 : Onx x1 h r1 h1) (k2 : Onm x1 h1 r2 h2) : ExK h2 ∧ r1 = r2 := by
  have r18 := iq18 I
  have n18 := n_nat r18.1
  have t1 : (1 : Int32).toInt = 1 := rfl
  have t30 : (30 : Int32).toInt = 30 := rfl
  have e96 : h_i h1 1 96 = h_i h 18 3 := by rw [(F1.2 1 96 (by decide +kernel)).1]; exact e.1.2.2.1
  have g : ∀ a, off [18003, 71999, 72999] a = true → off [1096, 262999, 263999] a = true → h_i h2 a = h_i h a := fun a o1 o2 => funext (fun k => (fr_i F2 o2 k).trans (fr_i F1 o1 k))
  have gf : ∀ a k, inw [18003, 71999, 72999] a k = false → inw [1096, 262999, 263999] a k = false → h_i h2 a k = h_i h a k := fun a k o1 o2 => ((F2.2 a k o2).1).trans (F1.2 a k o1).1
  by_cases c : 0 ≤ x1 ∧ x1 ≤ 9
  · have p := k1.1 c
    obtain ⟨_, _, er1, s71, s72, s18⟩ := p
    by_cases l : h_i h 18 3 < 30
    · have ll := q_lt.mp l
      have nl : ¬ 30 ≤ h_i h1 1 96 := fun u => by
        rw [e96] at u
        have := q_le.mp u
        omega
      have q := k2.1 ⟨c, nl⟩
      obtain ⟨_, _, er2, t262, t263, t96⟩ := q
      rw [if_pos l] at er1 s71 s72 s18
      rw [e96] at er2 t262 t263 t96
      have f7 : (h_i h 18 3 + 1).toInt = (h_i h 18 3).toInt + 1 := by rw [tx_add (by rw [t1]; omega) (by rw [t1]; omega), t1]
      have n8 := n_nat (x := h_i h 18 3 + 1) (by omega)
      have s3 : h_i h1 18 3 = h_i h 18 3 + 1 := by rw [s18, up1_at]
      have g1 : ∀ a, off [18003, 71999, 72999] a = true → h_i h1 a = h_i h a := fun a o2 => funext (fun k => fr_i F1 o2 k)
      have g2 : ∀ a, off [1096, 262999, 263999] a = true → h_i h2 a = h_i h1 a := fun a o2 => funext (fun k => fr_i F2 o2 k)
      refine ⟨⟨⟨by rw [gf 1 80 (by decide +kernel) (by decide +kernel), gf 17 16 (by decide +kernel) (by decide +kernel)]; exact e.1.1, by rw [gf 1 79 (by decide +kernel) (by decide +kernel), gf 17 7 (by decide +kernel) (by decide +kernel)]; exact e.1.2.1, ?_, by rw [gf 1 29 (by decide +kernel) (by decide +kernel), gf 21 4 (by decide +kernel) (by decide +kernel)]; exact e.1.2.2.2.1, by rw [gf 235 0 (by decide +kernel) (by decide +kernel), gf 13 5 (by decide +kernel) (by decide +kernel)]; exact e.1.2.2.2.2.1, by rw [gf 0 7 (by decide +kernel) (by decide +kernel)]; exact e.1.2.2.2.2.2⟩, kx_2 e (g 249 (by decide +kernel) (by decide +kernel)) (g 250 (by decide +kernel) (by decide +kernel)) (g 251 (by decide +kernel) (by decide +kernel)) (g 252 (by decide +kernel) (by decide +kernel)) (g 253 (by decide +kernel) (by decide +kernel)) (g 57 (by decide +kernel) (by decide +kernel)) (g 58 (by decide +kernel) (by decide +kernel)) (g 59 (by decide +kernel) (by decide +kernel)) (g 60 (by decide +kernel) (by decide +kernel)) (g 61 (by decide +kernel) (by decide +kernel)) (g 254 (by decide +kernel) (by decide +kernel)) (g 63 (by decide +kernel) (by decide +kernel)) (g 62 (by decide +kernel) (by decide +kernel)) (g 65 (by decide +kernel) (by decide +kernel)) (gf 17 7 (by decide +kernel) (by decide +kernel)) (gf 17 16 (by decide +kernel) (by decide +kernel)), kx_3 e (g 255 (by decide +kernel) (by decide +kernel)) (g 256 (by decide +kernel) (by decide +kernel)) (g 257 (by decide +kernel) (by decide +kernel)) (g 258 (by decide +kernel) (by decide +kernel)) (g 259 (by decide +kernel) (by decide +kernel)) (g 260 (by decide +kernel) (by decide +kernel)) (g 261 (by decide +kernel) (by decide +kernel)) (g 64 (by decide +kernel) (by decide +kernel)) (g 65 (by decide +kernel) (by decide +kernel)) (g 66 (by decide +kernel) (by decide +kernel)) (g 67 (by decide +kernel) (by decide +kernel)) (g 68 (by decide +kernel) (by decide +kernel)) (g 69 (by decide +kernel) (by decide +kernel)) (g 70 (by decide +kernel) (by decide +kernel)) (gf 17 16 (by decide +kernel) (by decide +kernel)), fun i hi => ?_, kx_5 e (g 104 (by decide +kernel) (by decide +kernel)) (g 105 (by decide +kernel) (by decide +kernel)) (g 106 (by decide +kernel) (by decide +kernel)) (g 107 (by decide +kernel) (by decide +kernel)) (g 221 (by decide +kernel) (by decide +kernel)) (g 222 (by decide +kernel) (by decide +kernel)) (g 223 (by decide +kernel) (by decide +kernel)) (g 224 (by decide +kernel) (by decide +kernel)) , kx_6 e (g 233 (by decide +kernel) (by decide +kernel)) (g 234 (by decide +kernel) (by decide +kernel)) (g 37 (by decide +kernel) (by decide +kernel)) (g 38 (by decide +kernel) (by decide +kernel)) (gf 13 5 (by decide +kernel) (by decide +kernel)), kx_7 e (g 204 (by decide +kernel) (by decide +kernel)) (gf 0 7 (by decide +kernel) (by decide +kernel)) (fun j hj => (m1_fr F2 (by decide +kernel) j hj).trans (m1_fr F1 (by decide +kernel) j hj)), kx_8 e (g 39 (by decide +kernel) (by decide +kernel)) (g 40 (by decide +kernel) (by decide +kernel)) (g 231 (by decide +kernel) (by decide +kernel)) (g 232 (by decide +kernel) (by decide +kernel)) (gf 13 5 (by decide +kernel) (by decide +kernel))⟩, er1.trans er2.symm⟩
      · rw [t96, (F2.2 18 3 (by decide +kernel)).1, s3]
      · rw [(F2.2 18 3 (by decide +kernel)).1, s3] at hi
        rw [t262, t263, g2 71 (by decide +kernel), g2 72 (by decide +kernel), s71, s72, g1 262 (by decide +kernel), g1 263 (by decide +kernel), (F1.2 1 0 (by decide +kernel)).1, ← e0]
        by_cases u : i = (h_i h 18 3).toNatClampNeg
        · rw [u, up1_at, up1_at, up1_at, up1_at]
          exact ⟨rfl, rfl⟩
        · rw [up1_ne u, up1_ne u, up1_ne u, up1_ne u]
          exact e.2.2.2.1 i (by omega)
    · have nl : 30 ≤ h_i h1 1 96 := by
        rw [e96]
        refine q_le.mpr ?_
        have := q_nlt l
        omega
      have q := k2.2 (fun u => u.2 nl)
      rw [if_neg l] at er1 s71 s72 s18
      refine ⟨?_, er1.trans q.1.symm⟩
      rw [q.2]
      have M := m1_fr F1 (by decide +kernel)
      refine e.cg (fun a ha => ?_) (fun q hq => ?_) (fun j hj => M j (by have := e.1.2.2.2.2.2; omega))
      · by_cases u : a = 71
        · rw [u]; exact s71
        · by_cases v : a = 72
          · rw [v]; exact s72
          · have z : kRw.all (fun a => off [18003, 71999, 72999] a || decide (a = 71) || decide (a = 72)) = true := by decide +kernel
            have y := List.all_eq_true.mp z a ha
            rw [Bool.or_eq_true, Bool.or_eq_true, decide_eq_true_eq, decide_eq_true_eq] at y
            rcases y with (y | y) | y
            · exact funext (fun k => fr_i F1 y k)
            · exact absurd y u
            · exact absurd y v
      · by_cases u : q = (18, 3)
        · rw [u]
          show h_i h1 18 3 = h_i h 18 3
          rw [s18]
        · have z : kF.all (fun q => !inw [18003, 71999, 72999] q.1 q.2 || decide (q = (18, 3))) = true := by decide +kernel
          have y := List.all_eq_true.mp z q hq
          rw [Bool.or_eq_true, Bool.not_eq_true', decide_eq_true_eq] at y
          rcases y with y | y
          · exact (F1.2 q.1 q.2 y).1
          · exact absurd y u
  · have p := k1.2 c
    have q := k2.2 (fun u => c u.1)
    rw [q.2, p.2]
    exact ⟨e, p.1.trans q.1.symm⟩
theorem okc_okm {m x1 x2 x3 : Int32} (b : 0 ≤ m.toInt ∧ m.toInt ≤ 12) : okc m x1 x2 x3 ↔ okm m x1 x2 x3 := by
  have t12 : (12 : Int32).toInt = 12 := rfl
  have t15 : (15 : Int32).toInt = 15 := rfl
  have t16 : (16 : Int32).toInt = 16 := rfl
  refine ⟨fun o => ⟨o.1, o.2.1, ⟨o.2.2.1.1, q_le.mpr (by have := q_lt.mp o.2.2.1.2; omega)⟩, fun e => by have := q_lt.mp o.2.2.2; rw [e] at this; omega⟩, fun o => ⟨o.1, o.2.1, ⟨o.2.2.1.1, q_lt.mpr (by have := q_le.mp o.2.2.1.2; omega)⟩, q_lt.mpr ?_⟩⟩
  rcases Int.lt_or_le m.toInt 12 with u | u
  · omega
  · exact absurd (Int32.toInt_inj.mp (by omega)) o.2.2.2
end
