/-! sums and comparisons of one depth -/
theorem Lk.fwd {h2 h5 : Hp_} {r : Int32} {z : Int} (L : Lk h2 r h5) (e : pz h2 = z) : r = -1 ∨ pa h5 < z := by
  rcases L.2.2.2.2 with u | u
  · exact Or.inl u.1
  · exact Or.inr (by have := u.1; omega)
theorem c_sum (s e : Nat) (D : Int) (A : Rd s D (fun d h K => Cv (m_X12_term (d + e + 52) 0 0) [.ref 1] h K)) : Rd s D (fun d h K => Cv (m_X12_sum (d + e + 53) 0 0) [.ref 1] h K) := by
  intro d h I q eD es
  have z1 : pz h ≤ 160 := (pz_in I).2
  have lp : ∀ (n : Nat) (x1 : Int32) (h4 : Hp_), Pe s h h4 → (x1 = -1 ∨ pa h4 < pz h) → pz h - pa h4 ≤ n → AW (m_X12_sum (d + e + 53) 0 0) 0 0 9 [(0, .ref 1), (1, .int x1)] [] h4 (kV (fun h' => Pe s h h')) := by
    intro n
    induction n with
    | zero =>
      intro x1 h4 P c m
      refine t_X12_sum_9 (d + e) h4 P.1.1 x1 _ ⟨fun _ => P, fun w => ⟨fun er => ?_, fun _ => ⟨fun _ => P, fun er => ?_⟩⟩⟩
      · rcases c with u | u
        · rw [er] at u; exact absurd u (by decide)
        · omega
      · rcases c with u | u
        · rw [er] at u; exact absurd u (by decide)
        · omega
    | succ n ih =>
      intro x1 h4 P c m
      have go : h_i h4 1 34 = -1 → opc x1 = true → ¬ x1 = -1 → Cv (m_X12_term (d + e + 52) 0 0) [.ref 1] (h_im h4 1 33 ((h_i h4 1 33) + 1)) (fun h9 => Wf h9 ∧ (Cv (m_X12_say (d + e + 0) 0 0) [.ref 1, .int x1] h9 (fun h12 => Wf h12 ∧ (Ci (m_X12_look (d + e + 0) 0 0) [.ref 1] h12 (fun r17 h15 => Wf h15 ∧ (AW (m_X12_sum (d + e + 53) 0 0) 0 0 9 [(0, .ref 1), (1, .int r17)] [] h15 (kV (fun h' => Pe s h h')))))))) := by
        intro w ho hn
        have l5 : pa h4 < pz h := by
          rcases c with u | u
          · exact absurd u hn
          · exact u
        obtain ⟨I6, F6, a6, q6, d6, s6⟩ := P.nx I q w l5
        refine Cv.mono (A d _ I6 q6 (by omega) (by rw [s6]; exact es)) (fun h9 Q => ⟨Q.1.1, Cv.mono (c_say (d + e) Q.1 x1 (Q.room I6 q6)) (fun h12 S => ?_)⟩)
        have P12 := P.op w I I6 F6 (by omega) Q S ho
        have e33 : pa h12 = pa h9 := by show (h_i h12 1 33).toInt = _; rw [(S.2.1.2 1 33 (by decide +kernel)).1]
        have q4 := Q.2.2.2.1
        refine ⟨S.1.1, Ci.mono (c_look (d + e) P12.1) (fun r h15 L => ?_)⟩
        have l3 := L.2.2.1
        exact ⟨L.1.1, ih r h15 (P12.lk I L) (L.fwd (zf P12.2.1 (by decide +kernel))) (by omega)⟩
      refine t_X12_sum_9 (d + e) h4 P.1.1 x1 _ ⟨fun _ => P, fun w => ⟨fun er => go w (by rw [er]; decide) (by rw [er]; decide), fun _ => ⟨fun _ => P, fun er => go w (by rw [er]; decide) (by rw [er]; decide)⟩⟩⟩
  refine t_X12_sum (d + e) h I.1 _ (Cv.mono (A d h I q eD es) (fun h1 P => ⟨P.1.1, Ci.mono (c_look (d + e) P.1) (fun r h4 L => ⟨L.1.1, lp 160 r h4 (P.lk I L) (L.fwd (zf P.2.1 (by decide +kernel))) ?_⟩)⟩))
  have a1 : 0 ≤ pa h4 := (pa_in L.1).1
  omega
/-- wrong from here on -/
theorem Pe.bad {s : Nat} {h h2 h3 : Hp_} (I : Iv h) (q : Pq h) (P : Pe s h h2) (I3 : Iv h3) (F3 : Fr [1034] h2 h3) (w3 : ¬ h_i h3 1 34 = -1) : Pe s h h3 := by
  obtain ⟨p1, p2, p3, p4, p5, p6, p7, p8⟩ := P
  have e33 : pa h3 = pa h2 := by show (h_i h3 1 33).toInt = _; rw [(F3.2 1 33 (by decide +kernel)).1]
  have e35 : pd h3 = pd h2 := by show (h_i h3 1 35).toInt = _; rw [(F3.2 1 35 (by decide +kernel)).1]
  have e36 : ps h3 = ps h2 := by show (h_i h3 1 36).toInt = _; rw [(F3.2 1 36 (by decide +kernel)).1]
  have q3 := q.2.2.1
  refine ⟨I3, p2.tr (F3.more (by decide +kernel)), by omega, by omega, fun k hk => by rw [fr_i F3 (a := 226) (by decide +kernel)]; exact p5 k hk, by omega, fun w => absurd w w3, fun _ => ?_⟩
  by_cases w : h_i h2 1 34 = -1
  · obtain ⟨t1, t2, t3, _⟩ := p7 w
    exact ⟨by omega, by omega⟩
  · obtain ⟨t1, t2⟩ := p8 w
    exact ⟨by omega, by omega⟩
theorem c_isSign (d : Nat) (h : Hp_) (x : Int32) : Ci (m_X12_isSign (d + 0) 0 0) [.int x] h (fun r h' => h' = h ∧ ((r = 1 ∧ opc x = true ∧ ¬ x = -1) ∨ (r = 0 ∧ ¬ (x = 61 ∨ x = 60 ∨ x = 62)))) :=
  t_X12_isSign d h x _ ⟨fun e => ⟨rfl, Or.inl ⟨rfl, by rw [e]; decide, by rw [e]; decide⟩⟩, fun n1 => ⟨fun e => ⟨rfl, Or.inl ⟨rfl, by rw [e]; decide, by rw [e]; decide⟩⟩, fun n2 => ⟨fun n3 => ⟨rfl, Or.inr ⟨rfl, fun z => z.elim n1 (fun y => y.elim n2 n3)⟩⟩, fun e => ⟨rfl, Or.inl ⟨rfl, by rw [e]; decide, by rw [e]; decide⟩⟩⟩⟩⟩
theorem c_compare (s e : Nat) (D : Int) (A : Rd s D (fun d h K => Cv (m_X12_sum (d + e + 53) 0 0) [.ref 1] h K)) (d : Nat) {h h2 : Hp_} (I : Iv h) (q : Pq h) (eD : pd h = D) (es : h_i h 1 37 = Int32.ofNat s) (P : Pe s h h2) : Cv (m_X12_compare (d + e + 54) 0 0) [.ref 1] h2 (fun h' => Pe s h h') := by
  refine t_X12_compare (d + e) h2 P.1.1 _ ⟨fun n => Ci.mono (c_isSign (d + e) h2 (-1)) (fun r h3 k => ?_), fun w => Ci.mono (c_look (d + e) P.1) (fun r h5 L => ⟨L.1.1, Ci.mono (c_isSign (d + e) h5 r) (fun r2 h6 k => ?_)⟩)⟩
  · obtain ⟨e3, k⟩ := k
    subst e3
    refine ⟨P.1.1, fun r0 => ?_, fun _ => Cv.mono (c_bad (d + e) P.1) (fun h4 b => ⟨b.1.1, P.bad I q b.1 b.2.1 b.2.2⟩)⟩
    rcases k with k | k
    · exact absurd rfl k.2.2
    · exact absurd k.1 r0
  · obtain ⟨e6, k⟩ := k
    subst e6
    have P5 := P.lk I L
    refine ⟨L.1.1, fun r0 => ?_, fun _ => Cv.mono (c_bad (d + e) L.1) (fun h4 b => ⟨b.1.1, P5.bad I q b.1 b.2.1 b.2.2⟩)⟩
    rcases k with k | k
    · have w5 : h_i h6 1 34 = -1 := by rw [(L.2.1.2 1 34 (by decide +kernel)).1]; exact w
      have l5 : pa h6 < pz h := by
        rcases L.fwd (zf P.2.1 (by decide +kernel)) with u | u
        · exact absurd u k.2.2
        · exact u
      obtain ⟨I6, F6, a6, q6, d6, s6⟩ := P5.nx I q w5 l5
      refine Cv.mono (A d _ I6 q6 (by omega) (by rw [s6]; exact es)) (fun h9 Q => ⟨Q.1.1, Cv.mono (c_say (d + e) Q.1 r (Q.room I6 q6)) (fun h12 S => ⟨S.1.1, P5.op w5 I I6 F6 (by omega) Q S k.2.1⟩)⟩)
    · exact absurd k.1 r0
