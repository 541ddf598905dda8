/-! fault of the reference -/
theorem pcl_sh {s : Nat} {cd cd' : Nat → Int32} {t : Nat} : ∀ {f i e : Nat}, (∀ x, i ≤ x → x < e → cd' (x + t) = cd x) → pcl s cd f i e → pcl s cd' f (i + t) (e + t)
  | 0, i, e, _, h => by
    have h : i = e := h
    subst h
    exact rfl
  | f + 1, i, e, c, h => by
    obtain ⟨j, k, ⟨g1, a⟩, b, ⟨g2, a'⟩, b', r⟩ := h
    have l1 := prun_le a
    have l2 := prun_le a'
    have l3 := pcl_le r
    refine ⟨j + t, k + t, ⟨g1, prun_sh (fun x u v => c x (by omega) (by omega)) a⟩, by rw [c j (by omega) (by omega)]; exact b, ⟨g2, ?_⟩, by rw [c k (by omega) (by omega)]; exact b', ?_⟩
    · rw [Nat.add_right_comm j t 1]
      exact prun_sh (fun x u v => c x (by omega) (by omega)) a'
    · rw [Nat.add_right_comm k t 1]
      exact pcl_sh (fun x u v => c x (by omega) v) r
theorem pcl_same {s : Nat} {cd cd' : Nat → Int32} {f i e : Nat} (c : ∀ x, i ≤ x → x < e → cd' x = cd x) (h : pcl s cd f i e) : pcl s cd' f i e := pcl_sh (t := 0) c h
theorem pcl_snoc {s : Nat} {cd : Nat → Int32} : ∀ {f i e e' : Nat}, pcl s cd f i e → Ck s cd e e' → pcl s cd (f + 1) i e'
  | 0, i, e, e', h, c => by
    have h : i = e := h
    subst h
    obtain ⟨m, n, a, b, c, d, x⟩ := c
    exact ⟨m, n, a, b, c, d, x.symm⟩
  | f + 1, i, e, e', h, c => by
    obtain ⟨j, k, a, b, a', b', r⟩ := h
    exact ⟨j, k, a, b, a', b', pcl_snoc r c⟩
def wzf : List Nat := [1033, 1034, 1035, 1036, 1037, 226999]
def Fa (x1 : Int32) (h : Hp_) (r : Int32) (h' : Hp_) : Prop := Iv h' ∧ Fr wzf h h' ∧ (r = -1 → (x1 = 0 → Qs 4 (h_i h' 226) 0 (sN h')) ∧ ∀ s : Nat, (s = 1 ∨ s = 2) → x1 = Int32.ofNat s → ∃ f, pcl s (h_i h' 226) f 0 (sN h'))
/-- between clauses -/
def Fl (s : Nat) (h0 h : Hp_) : Prop := Iv h ∧ Fr wzp h0 h ∧ pd h = 0 ∧ (h_i h 1 34 = -1 → pa h ≤ pz h0 ∧ ps h ≤ 3 * pa h + 3 ∧ ∃ f, pcl s (h_i h 226) f 0 (sN h))
theorem Fl.lk {s : Nat} {h0 h h1 : Hp_} {r : Int32} (G : Fl s h0 h) (L : Lk h r h1) : Fl s h0 h1 := by
  obtain ⟨g1, g2, g3, g4⟩ := G
  have l3 := L.2.2.1
  have l4 := L.2.2.2.1
  have e5 := f35 L.2.1 (by decide +kernel)
  have e6 := f36 L.2.1 (by decide +kernel)
  have zz := zf g2 (by decide +kernel)
  have n0 := sN_i g1
  have n1 := sN_i L.1
  refine ⟨L.1, g2.tr (L.2.1.more (by decide +kernel)), by omega, fun w => ?_⟩
  rw [f34 L.2.1 (by decide +kernel)] at w
  obtain ⟨t1, t2, f, t3⟩ := g4 w
  refine ⟨by omega, by omega, f, ?_⟩
  rw [show h_i h1 226 = h_i h 226 from funext (fun k => fr_i L.2.1 (by decide +kernel) k), show sN h1 = sN h by omega]
  exact t3
theorem fl_loop (s : Nat) (hs : s = 1 ∨ s = 2) (d : Nat) {h h0 : Hp_} (x1 : Int32) (e1 : x1 = Int32.ofNat s) (I0 : Iv h0) (F0 : Fr wzf h h0) (es : h_i h0 1 37 = Int32.ofNat s) :
    ∀ (n : Nat) (h2 : Hp_), Fl s h0 h2 → pz h0 - pa h2 ≤ n → AW (m_X12_fault (d + 80 + 59) 0 0) 0 0 52 [(0, .ref 1)] [] h2 (kI (fun r h' => Fa x1 h r h')) := by
  have z1 : pz h0 ≤ 160 := (pz_in I0).2
  have dn : ∀ h', Fl s h0 h' → Fa x1 h (h_i h' 1 34) h' := by
    intro h' G
    refine ⟨G.1, F0.tr (G.2.1.more (by decide +kernel)), fun w => ⟨fun e => ?_, fun t ht et => ?_⟩⟩
    · rw [e1] at e
      rcases hs with u | u <;> subst u <;> exact absurd e (by decide)
    · have tt : t = s := by
        rw [e1] at et
        rcases hs with u | u <;> subst u <;> rcases ht with v | v <;> subst v <;> first | rfl | exact absurd et (by decide)
      subst tt
      exact (G.2.2.2 w).2.2
  have bd : ∀ h1, Fl s h0 h1 → h_i h1 1 34 = -1 → Cv (m_X12_bad (d + 80 + 0) 0 0) [.ref 1] h1 (fun h9 => Wf h9 ∧ Fa x1 h (h_i h9 1 34) h9) := by
    intro h1 G w
    refine Cv.mono (c_bad (d + 80) G.1) (fun h9 b => ⟨b.1.1, b.1, F0.tr ((G.2.1.tr (b.2.1.more (by decide +kernel))).more (by decide +kernel)), fun y => absurd y b.2.2⟩)
  have ends : ∀ h1, Fl s h0 h1 → h_i h1 1 34 = -1 → Ci (m_X12_look (d + 80 + 0) 0 0) [.ref 1] h1 (fun r h5 => Wf h5 ∧ ((r = (-1) → Fa x1 h (h_i h5 1 34) h5) ∧ (¬ r = (-1) → Cv (m_X12_bad (d + 80 + 0) 0 0) [.ref 1] h5 (fun h9 => Wf h9 ∧ (Fa x1 h (h_i h9 1 34) h9))))) := by
    intro h1 G w
    refine Ci.mono (c_look (d + 80) G.1) (fun r h5 L => ⟨L.1.1, fun _ => dn _ (G.lk L), fun _ => bd _ (G.lk L) (by rw [f34 L.2.1 (by decide +kernel)]; exact w)⟩)
  intro n
  induction n with
  | zero =>
    intro h2 G m
    have zz := zf G.2.1 (by decide +kernel)
    refine t_X12_fault_52 (d + 80) h2 G.1.1 _ ⟨fun w => ⟨fun _ => dn _ G, fun y => absurd y w⟩, fun w => Ci.mono (c_look (d + 80) G.1) (fun r h5 L => ⟨L.1.1, fun _ => ⟨fun y => absurd (by rw [f34 L.2.1 (by decide +kernel)]; exact w) y, fun w5 => ends _ (G.lk L) w5⟩, fun er => ?_⟩)⟩
    have l3 := L.2.2.1
    rcases L.fwd zz with u | u
    · rw [er] at u; exact absurd u (by decide)
    · omega
  | succ n ih =>
    intro h2 G m
    have zz := zf G.2.1 (by decide +kernel)
    refine t_X12_fault_52 (d + 80) h2 G.1.1 _ ⟨fun w => ⟨fun _ => dn _ G, fun y => absurd y w⟩, fun w => Ci.mono (c_look (d + 80) G.1) (fun r h5 L => ⟨L.1.1, fun _ => ⟨fun y => absurd (by rw [f34 L.2.1 (by decide +kernel)]; exact w) y, fun w5 => ends _ (G.lk L) w5⟩, fun er => ?_⟩)⟩
    have G5 := G.lk L
    have w5 : h_i h5 1 34 = -1 := by rw [f34 L.2.1 (by decide +kernel)]; exact w
    have l3 := L.2.2.1
    have l5 : pa h5 < pz h0 := by
      rcases L.fwd zz with u | u
      · rw [er] at u; exact absurd u (by decide)
      · exact u
    obtain ⟨t1, t2, f, t3⟩ := G5.2.2.2 w5
    obtain ⟨k1, k2, k3⟩ := at1 L.1 (by omega)
    generalize h_im h5 1 33 ((h_i h5 1 33) + 1) = h6 at k1 k2 k3 ⊢
    have e5 := f35 k2 (by decide +kernel)
    have e6 := f36 k2 (by decide +kernel)
    have z6 := zf k2 (by decide +kernel)
    have z5 := zf G5.2.1 (by decide +kernel)
    have g3 := G5.2.2.1
    have n5 := sN_i G5.1
    have n6 := sN_i k1
    have m6 : sN h6 = sN h5 := by omega
    have F6 : Fr wzp h0 h6 := G5.2.1.tr (k2.more (by decide +kernel))
    refine Cv.mono (c_clause s hs d k1 ⟨by rw [f34 k2 (by decide +kernel)]; exact w5, by omega, by omega, by omega⟩ (by omega) (by omega) (by rw [(F6.2 1 37 (by decide +kernel)).1]; exact es)) (fun h9 P => ?_)
    obtain ⟨p1, p2, p3, p4, p5⟩ := P
    have c9 : ∀ k, k < sN h5 → h_i h9 226 k = h_i h5 226 k := fun k hk => by rw [p4 k (by omega)]; exact fr_i k2 (by decide +kernel) k
    refine ⟨p1.1, ?_⟩
    by_cases w9 : h_i h9 1 34 = -1
    · obtain ⟨u1, u2, u3, u4, u5⟩ := p5 w9
      refine ih h9 ⟨p1, F6.tr p2, by omega, fun _ => ⟨by omega, by omega, f + 1, ?_⟩⟩ (by omega)
      refine pcl_snoc (pcl_same (fun x _ b => c9 x b) t3) ?_
      rw [← m6]; exact u5
    · refine t_X12_fault_52 (d + 80) h9 p1.1 _ ⟨fun w => ⟨fun _ => ?_, fun y => absurd y w⟩, fun w => absurd w w9⟩
      exact dn _ ⟨p1, F6.tr p2, by omega, fun y => absurd y w9⟩
theorem c_fault (d : Nat) {h : Hp_} (I : Iv h) (x1 : Int32) : Ci (m_X12_fault (d + 80 + 59) 0 0) [.ref 1, .int x1] h (fun r h' => Fa x1 h r h') := by
  have z0 : 0 ≤ pz h := (pz_in I).1
  have z1 : pz h ≤ 160 := (pz_in I).2
  have b0 : rin (0 : Int32).toInt (0, 180) := ⟨by decide, by decide⟩
  have I0 : Iv (h_im (h_im (h_im (h_im (h_im h 1 37 x1) 1 33 0) 1 34 (-1)) 1 35 0) 1 36 0) := i36 (i35 (i34 (i33 (I.im (by rw [show tf 1 37 = rtop by decide +kernel]; exact rtop_in _) (by decide)) b0) _) ⟨by decide, by decide⟩) ⟨by decide, by decide⟩
  have F0 : Fr wzf h (h_im (h_im (h_im (h_im (h_im h 1 37 x1) 1 33 0) 1 34 (-1)) 1 35 0) 1 36 0) := (((((Fr.rf _ _).im (by decide +kernel)).im (by decide +kernel)).im (by decide +kernel)).im (by decide +kernel)).im (by decide +kernel)
  have e36 : h_i (h_im (h_im (h_im (h_im (h_im h 1 37 x1) 1 33 0) 1 34 (-1)) 1 35 0) 1 36 0) 1 36 = 0 := im_at
  have e35 : h_i (h_im (h_im (h_im (h_im (h_im h 1 37 x1) 1 33 0) 1 34 (-1)) 1 35 0) 1 36 0) 1 35 = 0 := by rw [f_ne (by decide), im_at]
  have e34 : h_i (h_im (h_im (h_im (h_im (h_im h 1 37 x1) 1 33 0) 1 34 (-1)) 1 35 0) 1 36 0) 1 34 = -1 := by rw [f_ne (by decide), f_ne (by decide), im_at]
  have e33 : h_i (h_im (h_im (h_im (h_im (h_im h 1 37 x1) 1 33 0) 1 34 (-1)) 1 35 0) 1 36 0) 1 33 = 0 := by rw [f_ne (by decide), f_ne (by decide), f_ne (by decide), im_at]
  have e37 : h_i (h_im (h_im (h_im (h_im (h_im h 1 37 x1) 1 33 0) 1 34 (-1)) 1 35 0) 1 36 0) 1 37 = x1 := by rw [f_ne (by decide), f_ne (by decide), f_ne (by decide), f_ne (by decide), im_at]
  refine t_X12_fault (d + 80) h I.1 x1 _ ⟨fun b => ?_, fun _ => ⟨I, Fr.rf _ _, fun y => absurd y (by decide)⟩⟩
  generalize h_im (h_im (h_im (h_im (h_im h 1 37 x1) 1 33 0) 1 34 (-1)) 1 35 0) 1 36 0 = h0 at I0 F0 e36 e35 e34 e33 e37 ⊢
  have zz := zf F0 (by decide +kernel)
  have a0 : pa h0 = 0 := by show (h_i h0 1 33).toInt = 0; rw [e33]; rfl
  have d0 : pd h0 = 0 := by show (h_i h0 1 35).toInt = 0; rw [e35]; rfl
  have s0 : ps h0 = 0 := by show (h_i h0 1 36).toInt = 0; rw [e36]; rfl
  have n0 := sN_i I0
  have nz : sN h0 = 0 := by omega
  refine ⟨fun n1 => ?_, fun e1 => ?_⟩
  · obtain ⟨s, hs, ex⟩ : ∃ s : Nat, (s = 1 ∨ s = 2) ∧ x1 = Int32.ofNat s := by
      have b1 : (0 : Int32).toInt ≤ x1.toInt := q_le.mp b.1
      have b2 : x1.toInt ≤ (2 : Int32).toInt := q_le.mp b.2
      have o0 : (0 : Int32).toInt = 0 := rfl
      have o1 : (1 : Int32).toInt = 1 := rfl
      have o2 : (2 : Int32).toInt = 2 := rfl
      have nn : ¬ x1.toInt = 0 := fun z => n1 (Int32.toInt_inj.mp (by rw [z, o0]))
      rcases Int.lt_or_le x1.toInt 2 with u | u
      · exact ⟨1, Or.inl rfl, Int32.toInt_inj.mp (by show _ = (1 : Int32).toInt; omega)⟩
      · exact ⟨2, Or.inr rfl, Int32.toInt_inj.mp (by show _ = (2 : Int32).toInt; omega)⟩
    refine Cv.mono (c_clause s hs d I0 ⟨e34, by omega, by omega, by omega⟩ (by omega) d0 (by rw [e37]; exact ex)) (fun h5 P => ?_)
    obtain ⟨p1, p2, p3, p4, p5⟩ := P
    have a5 : 0 ≤ pa h5 := (pa_in p1).1
    refine ⟨p1.1, fl_loop s hs d x1 ex I0 F0 (by rw [e37]; exact ex) 160 h5 ⟨p1, p2, by omega, fun w => ?_⟩ (by omega)⟩
    obtain ⟨u1, u2, u3, u4, u5⟩ := p5 w
    refine ⟨by omega, by omega, 1, ?_⟩
    rw [nz] at u5
    exact pcl_snoc (f := 0) (e := 0) rfl u5
  · refine Cv.mono (r_steps (d := d) I0 ⟨e34, by omega, by omega, by omega⟩ d0) (fun h8 P => ⟨P.1.1, fun w => ?_, fun w => ?_⟩)
    · exact ⟨P.1, F0.tr (P.2.1.more (by decide +kernel)), fun y => absurd y w⟩
    · obtain ⟨u1, u2, u3, u4⟩ := P.2.2.2.2.2.2.1 w
      rw [nz] at u4
      refine Ci.mono (c_look (d + 80) P.1) (fun r h5 L => ⟨L.1.1, fun _ => ?_, fun _ => ?_⟩)
      · have e6 := f36 L.2.1 (by decide +kernel)
        have n5 := sN_i L.1
        have n8 := sN_i P.1
        refine ⟨L.1, F0.tr ((P.2.1.tr (L.2.1.more (by decide +kernel))).more (by decide +kernel)), fun _ => ⟨fun _ => ?_, fun s hs ex => ?_⟩⟩
        · rw [show h_i h5 226 = h_i h8 226 from funext (fun k => fr_i L.2.1 (by decide +kernel) k), show sN h5 = sN h8 by omega]
          exact u4
        · rw [e1] at ex
          rcases hs with u | u <;> subst u <;> exact absurd ex (by decide)
      · refine Cv.mono (c_bad (d + 80) L.1) (fun h9 b => ⟨b.1.1, b.1, F0.tr (((P.2.1.tr (L.2.1.more (by decide +kernel))).tr (b.2.1.more (by decide +kernel))).more (by decide +kernel)), fun y => absurd y b.2.2⟩)
