/-! terms and sums of one depth, out of atoms of that depth -/
theorem Pe.room {s : Nat} {h h' : Hp_} (I : Iv h) (q : Pq h) (P : Pe s h h') : ps h' ≤ 558 := by
  obtain ⟨p1, p2, p3, p4, p5, p6, p7, p8⟩ := P
  obtain ⟨q1, q2, q3, q4⟩ := q
  have z1 : pz h ≤ 160 := (pz_in I).2
  have d0 : 0 ≤ pd h := (dp_in7 I).1
  by_cases w : h_i h' 1 34 = -1
  · obtain ⟨t1, t2, t3, _⟩ := p7 w
    omega
  · obtain ⟨t1, t2⟩ := p8 w
    omega
/-- one sign further -/
theorem Pe.nx {s : Nat} {h h5 : Hp_} (I : Iv h) (q : Pq h) (P : Pe s h h5) (w : h_i h5 1 34 = -1) (l : pa h5 < pz h) : Iv (h_im h5 1 33 ((h_i h5 1 33) + 1)) ∧ Fr [1033] h5 (h_im h5 1 33 ((h_i h5 1 33) + 1)) ∧ pa (h_im h5 1 33 ((h_i h5 1 33) + 1)) = pa h5 + 1 ∧ Pq (h_im h5 1 33 ((h_i h5 1 33) + 1)) ∧ pd (h_im h5 1 33 ((h_i h5 1 33) + 1)) = pd h ∧ h_i (h_im h5 1 33 ((h_i h5 1 33) + 1)) 1 37 = h_i h 1 37 := by
  obtain ⟨p1, p2, p3, p4, p5, p6, p7, p8⟩ := P
  obtain ⟨q1, q2, q3, q4⟩ := q
  obtain ⟨t1, t2, t3, _⟩ := p7 w
  have z1 : pz h ≤ 160 := (pz_in I).2
  have a0 : 0 ≤ pa h5 := (pa_in p1).1
  have o1 : (1 : Int32).toInt = 1 := rfl
  have z5 := zf p2 (by decide +kernel)
  have e33 : (h_i h5 1 33 + 1).toInt = pa h5 + 1 := by
    show (h_i h5 1 33 + 1).toInt = (h_i h5 1 33).toInt + 1
    have a0' : 0 ≤ (h_i h5 1 33).toInt := a0
    have l' : (h_i h5 1 33).toInt < pz h := l
    rw [tx_add (by rw [o1]; omega) (by rw [o1]; omega), o1]
  have ea : pa (h_im h5 1 33 ((h_i h5 1 33) + 1)) = pa h5 + 1 := by
    show (h_i (h_im h5 1 33 _) 1 33).toInt = _
    rw [im_at]; exact e33
  have ez : pz (h_im h5 1 33 ((h_i h5 1 33) + 1)) = pz h := by
    show (h_i (h_im h5 1 33 _) 1 32).toInt = _
    rw [f_ne (by decide)]; exact z5
  have ed : pd (h_im h5 1 33 ((h_i h5 1 33) + 1)) = pd h := by
    show (h_i (h_im h5 1 33 _) 1 35).toInt = _
    rw [f_ne (by decide)]; exact p3
  have es : ps (h_im h5 1 33 ((h_i h5 1 33) + 1)) = ps h5 := by
    show (h_i (h_im h5 1 33 _) 1 36).toInt = _
    rw [f_ne (by decide)]
  refine ⟨i33 p1 ⟨by rw [e33]; show (0 : Int) ≤ _; omega, by rw [e33]; show _ ≤ (180 : Int); omega⟩, (Fr.rf _ _).im (by decide +kernel), ea, ⟨by rw [f_ne (by decide)]; exact w, by omega, by omega, by omega⟩, ed, ?_⟩
  rw [f_ne (by decide)]
  exact (p2.2 1 37 (by decide +kernel)).1
def Rd (s : Nat) (D : Int) (C : Nat → Hp_ → (Hp_ → Prop) → Prop) : Prop := ∀ (d : Nat) (h : Hp_), Iv h → Pq h → pd h = D → h_i h 1 37 = Int32.ofNat s → C d h (fun h' => Pe s h h')
theorem c_term (s e : Nat) (D : Int) (A : Rd s D (fun d h K => Cv (m_X12_atom (d + e + 51) 0 0) [.ref 1] h K)) : Rd s D (fun d h K => Cv (m_X12_term (d + e + 52) 0 0) [.ref 1] h K) := by
  intro d h I q eD es
  have z1 : pz h ≤ 160 := (pz_in I).2
  have lp : ∀ (n : Nat) (h2 : Hp_), Pe s h h2 → pz h - pa h2 ≤ n → AW (m_X12_term (d + e + 52) 0 0) 0 0 4 [(0, .ref 1)] [] h2 (kV (fun h' => Pe s h h')) := by
    intro n
    induction n with
    | zero =>
      intro h2 P m
      refine t_X12_term_4 (d + e) h2 P.1.1 _ ⟨fun _ => P, fun w => Ci.mono (c_look (d + e) P.1) (fun r h5 L => ⟨L.1.1, fun _ => P.lk I L, fun er => ?_⟩)⟩
      have z2 := zf P.2.1 (by decide +kernel)
      have l3 := L.2.2.1
      rcases L.2.2.2.2 with u | u
      · rw [er] at u; exact absurd u.1 (by decide)
      · have := u.1
        omega
    | succ n ih =>
      intro h2 P m
      refine t_X12_term_4 (d + e) h2 P.1.1 _ ⟨fun _ => P, fun w => Ci.mono (c_look (d + e) P.1) (fun r h5 L => ⟨L.1.1, fun _ => P.lk I L, fun er => ?_⟩)⟩
      have P5 := P.lk I L
      have w5 : h_i h5 1 34 = -1 := by rw [(L.2.1.2 1 34 (by decide +kernel)).1]; exact w
      have z2 := zf P.2.1 (by decide +kernel)
      have l3 := L.2.2.1
      have l5 : pa h5 < pz h := by
        rcases L.2.2.2.2 with u | u
        · rw [er] at u; exact absurd u.1 (by decide)
        · have := u.1
          omega
      obtain ⟨I6, F6, a6, q6, d6, s6⟩ := P5.nx I q w5 l5
      refine Cv.mono (A d _ I6 q6 (by omega) (by rw [s6]; exact es)) (fun h9 Q => ⟨Q.1.1, Cv.mono (c_say (d + e) Q.1 42 (Q.room I6 q6)) (fun h12 S => ?_)⟩)
      have P12 := P5.op w5 I I6 F6 (by omega) Q S (by decide)
      have e33 : pa h12 = pa h9 := by show (h_i h12 1 33).toInt = _; rw [(S.2.1.2 1 33 (by decide +kernel)).1]
      have q4 := Q.2.2.2.1
      exact ⟨S.1.1, ih h12 P12 (by omega)⟩
  refine t_X12_term (d + e) h I.1 _ (Cv.mono (A d h I q eD es) (fun h1 P => ⟨P.1.1, lp 160 h1 P ?_⟩))
  have a1 : 0 ≤ pa h1 := (pa_in P.1).1
  omega
