section
/-! sums and comparisons of one depth -/
theorem Lk.fwd {h2 h5 : Hp_} {r : Int32} {z : Int} (L : Lk h2 r h5) (e : pz h2 = z) : r = -1 ∨ pa h5 < z := by
  rcases L.2.2.2.2 with u | u
  · exact Or.inl u.1
  · exact Or.inr (by have := u.1; omega)
theorem c_sum (s e : Nat) (D : Int) (A : Rd s D (fun d h K => Cv (m_X12_term (d + e + 52) 0 0) [.ref 1] h K)) : Rd s D (fun d h K => Cv (m_X12_sum (d + e + 53) 0 0) [.ref 1] h K) := by
  intro d h I q eD es
  have z1 : pz h ≤ 160 := (pz_in I).2
  have lp : ∀ (n : Nat) (x1 : Int32) (h4 : Hp_), Pe s h h4 → (x1 = -1 ∨ pa h4 < pz h) → pz h - pa h4 ≤ n → AW (m_X12_sum (d + e + 53) 0 0) 0 0 9 [(0, .ref 1), (1, .int x1)] [] h4 (kV (fun h' => Pe s h h')) := by
    intro n
    induction n with
    | zero =>
      intro x1 h4 P c m
      refine t_X12_sum_9 (d + e) h4 P.1.1 x1 _ ⟨fun _ => P, fun w => ⟨fun er => ?_, fun _ => ⟨fun _ => P, fun er => ?_⟩⟩⟩
      · rcases c with u | u
        · rw [er] at u; exact absurd u (by decide)
        · omega
      · rcases c with u | u
        · rw [er] at u; exact absurd u (by decide)
        · omega
    | succ n ih =>
      intro x1 h4 P c m
      have go : h_i h4 1 34 = -1 → opc x1 = true → ¬ x1 = -1 → Cv (m_X12_term (d + e + 52) 0 0) [.ref 1] (h_im h4 1 33 ((h_i h4 1 33) + 1)) (fun h9 => Wf h9 ∧ (Cv (m_X12_say (d + e + 0) 0 0) [.ref 1, .int x1] h9 (fun h12 => Wf h12 ∧ (Ci (m_X12_look (d + e + 0) 0 0) [.ref 1] h12 (fun r17 h15 => Wf h15 ∧ (AW (m_X12_sum (d + e + 53) 0 0) 0 0 9 [(0, .ref 1), (1, .int r17)] [] h15 (kV (fun h' => Pe s h h')))))))) := by
        intro w ho hn
        have l5 : pa h4 < pz h := by
          rcases c with u | u
          · exact absurd u hn
          · exact u
        obtain ⟨I6, F6, a6, q6, d6, s6⟩ := P.nx I q w l5
        refine Cv.mono (A d _ I6 q6 (by omega) (by rw [s6]; exact es)) (fun h9 Q => ⟨Q.1.1, Cv.mono (c_say (d + e) Q.1 x1 (Q.room I6 q6)) (fun h12 S => ?_)⟩)
        have P12 := P.op w I I6 F6 (by omega) Q S ho
        have e33 : pa h12 = pa h9 := by show (h_i h12 1 33).toInt = _; rw [(S.2.1.2 1 33 (by decide +kernel)).1]
        have q4 := Q.2.2.2.1
        refine ⟨S.1.1, Ci.mono (c_look (d + e) P12.1) (fun r h15 L => ?_)⟩
        have l3 := L.2.2.1
        exact ⟨L.1.1, ih r h15 (P12.lk I L) (L.fwd (zf P12.2.1 (by decide +kernel))) (by omega)⟩
      refine t_X12_sum_9 (d + e) h4 P.1.1 x1 _ ⟨fun _ => P, fun w => ⟨fun er => go w (by rw [er]; decide) (by rw [er]; decide), fun _ => ⟨fun _ => P, fun er => go w (by rw [er]; decide) (by rw [er]; decide)⟩⟩⟩
  refine t_X12_sum (d + e) h I.1 _ (Cv.mono (A d h I q eD es) (fun h1 P => ⟨P.1.1, Ci.mono (c_look (d + e) P.1) (fun r h4 L => ⟨L.1.1, lp 160 r h4 (P.lk I L) (L.fwd (zf P.2.1 (by decide +kernel))) ?_⟩)⟩))
  have a1 : 0 ≤ pa h4 := (pa_in L.1).1
  omega
/-- wrong from here on -/
theorem Pe.bad {s : Nat} {h h2 h3 : Hp_} (I : Iv h) (q : Pq h) (P : Pe s h h2) (I3 : Iv h3) (F3 : Fr [1034] h2 h3) (w3 : ¬ h_i h3 1 34 = -1) : Pe s h h3 := by
  obtain ⟨p1, p2, p3, p4, p5, p6, p7, p8⟩ := P
  have e33 : pa h3 = pa h2 := by show (h_i h3 1 33).toInt = _; rw [(F3.2 1 33 (by decide +kernel)).1]
  have e35 : pd h3 = pd h2 := by show (h_i h3 1 35).toInt = _; rw [(F3.2 1 35 (by decide +kernel)).1]
  have e36 : ps h3 = ps h2 := by show (h_i h3 1 36).toInt = _; rw [(F3.2 1 36 (by decide +kernel)).1]
  have q3 := q.2.2.1
  refine ⟨I3, p2.tr (F3.more (by decide +kernel)), by omega, by omega, fun k hk => by rw [fr_i F3 (a := 226) (by decide +kernel)]; exact p5 k hk, by omega, fun w => absurd w w3, fun _ => ?_⟩
  by_cases w : h_i h2 1 34 = -1
  · obtain ⟨t1, t2, t3, _⟩ := p7 w
    exact ⟨by omega, by omega⟩
  · obtain ⟨t1, t2⟩ := p8 w
    exact ⟨by omega, by omega⟩
theorem c_isSign (d : Nat) (h : Hp_) (x : Int32) : Ci (m_X12_isSign (d + 0) 0 0) [.int x] h (fun r h' => h' = h ∧ ((r = 1 ∧ opc x = true ∧ ¬ x = -1) ∨ (r = 0 ∧ ¬ (x = 61 ∨ x = 60 ∨ x = 62)))) :=
  t_X12_isSign d h x _ ⟨fun e => ⟨rfl, Or.inl ⟨rfl, by rw [e]; decide, by rw [e]; decide⟩⟩, fun n1 => ⟨fun e => ⟨rfl, Or.inl ⟨rfl, by rw [e]; decide, by rw [e]; decide⟩⟩, fun n2 => ⟨fun n3 => ⟨rfl, Or.inr ⟨rfl, fun z => z.elim n1 (fun y => y.elim n2 n3)⟩⟩, fun e => ⟨rfl, Or.inl ⟨rfl, by rw [e]; decide, by rw [e]; decide⟩⟩⟩⟩⟩
theorem c_compare (s e : Nat) (D : Int) (A : Rd s D (fun d h K => Cv (m_X12_sum (d + e + 53) 0 0) [.ref 1] h K)) (d : Nat) {h h2 : Hp_} (I : Iv h) (q : Pq h) (eD : pd h = D) (es : h_i h 1 37 = Int32.ofNat s) (P : Pe s h h2) : Cv (m_X12_compare (d + e + 54) 0 0) [.ref 1] h2 (fun h' => Pe s h h') := by
  refine t_X12_compare (d + e) h2 P.1.1 _ ⟨fun n => Ci.mono (c_isSign (d + e) h2 (-1)) (fun r h3 k => ?_), fun w => Ci.mono (c_look (d + e) P.1) (fun r h5 L => ⟨L.1.1, Ci.mono (c_isSign (d + e) h5 r) (fun r2 h6 k => ?_)⟩)⟩
  · obtain ⟨e3, k⟩ := k
    subst e3
    refine ⟨P.1.1, fun r0 => ?_, fun _ => Cv.mono (c_bad (d + e) P.1) (fun h4 b => ⟨b.1.1, P.bad I q b.1 b.2.1 b.2.2⟩)⟩
    rcases k with k | k
    · exact absurd rfl k.2.2
    · exact absurd k.1 r0
  · obtain ⟨e6, k⟩ := k
    subst e6
    have P5 := P.lk I L
    refine ⟨L.1.1, fun r0 => ?_, fun _ => Cv.mono (c_bad (d + e) L.1) (fun h4 b => ⟨b.1.1, P5.bad I q b.1 b.2.1 b.2.2⟩)⟩
    rcases k with k | k
    · have w5 : h_i h6 1 34 = -1 := by rw [(L.2.1.2 1 34 (by decide +kernel)).1]; exact w
      have l5 : pa h6 < pz h := by
        rcases L.fwd (zf P.2.1 (by decide +kernel)) with u | u
        · exact absurd u k.2.2
        · exact u
      obtain ⟨I6, F6, a6, q6, d6, s6⟩ := P5.nx I q w5 l5
      refine Cv.mono (A d _ I6 q6 (by omega) (by rw [s6]; exact es)) (fun h9 Q => ⟨Q.1.1, Cv.mono (c_say (d + e) Q.1 r (Q.room I6 q6)) (fun h12 S => ⟨S.1.1, P5.op w5 I I6 F6 (by omega) Q S k.2.1⟩)⟩)
    · exact absurd k.1 r0
end
section
/-! brackets, letters, numbers: atoms -/
theorem c_isLetter (d : Nat) (h : Hp_) (x : Int32) {s : Nat} (hs : s = 1 ∨ s = 2) : Ci (m_X12_isLetter (d + 0) 0 0) [.int x, .int (Int32.ofNat s)] h (fun r h' => h' = h ∧ (r = 0 ∨ (¬ r = 0 ∧ ¬ x = -1 ∧ okl s x = true))) :=
  t_X12_isLetter d h x (Int32.ofNat s) _ ⟨fun e => ⟨fun _ => ⟨rfl, Or.inl rfl⟩, fun f => ⟨rfl, Or.inr ⟨by decide, by rw [e]; decide, by rw [e]; rcases hs with u | u <;> subst u <;> first | decide | exact absurd f (by decide)⟩⟩⟩,
    fun e => ⟨rfl, Or.inr ⟨by decide, by rw [e]; decide, by rw [e]; rcases hs with u | u <;> subst u <;> decide⟩⟩,
    fun e => ⟨fun _ => ⟨rfl, Or.inl rfl⟩, fun f => ⟨rfl, Or.inr ⟨by decide, by rw [e]; decide, by rw [e]; rcases hs with u | u <;> subst u <;> first | decide | exact absurd f (by decide)⟩⟩⟩,
    fun e => ⟨fun _ => ⟨rfl, Or.inl rfl⟩, fun f => ⟨rfl, Or.inr ⟨by decide, by rw [e]; decide, by rw [e]; rcases hs with u | u <;> subst u <;> first | decide | exact absurd f (by decide)⟩⟩⟩,
    fun e => ⟨fun _ => ⟨rfl, Or.inl rfl⟩, fun f => ⟨rfl, Or.inr ⟨by decide, by rw [e]; decide, by rw [e]; rcases hs with u | u <;> subst u <;> first | decide | exact absurd f (by decide)⟩⟩⟩,
    fun e => ⟨fun _ => ⟨rfl, Or.inl rfl⟩, fun f => ⟨rfl, Or.inr ⟨by decide, by rw [e]; decide, by rw [e]; rcases hs with u | u <;> subst u <;> first | decide | exact absurd f (by decide)⟩⟩⟩,
    fun e => ⟨fun _ => ⟨rfl, Or.inl rfl⟩, fun f => ⟨rfl, Or.inr ⟨by decide, by rw [e]; decide, by rw [e]; rcases hs with u | u <;> subst u <;> first | decide | exact absurd f (by decide)⟩⟩⟩,
    fun e => ⟨fun _ => ⟨rfl, Or.inl rfl⟩, fun f => ⟨rfl, Or.inr ⟨by decide, by rw [e]; decide, by rw [e]; rcases hs with u | u <;> subst u <;> first | decide | exact absurd f (by decide)⟩⟩⟩,
    fun e => ⟨fun _ => ⟨rfl, Or.inl rfl⟩, fun f => ⟨rfl, Or.inr ⟨by decide, by rw [e]; decide, by rw [e]; rcases hs with u | u <;> subst u <;> first | decide | exact absurd f (by decide)⟩⟩⟩,
    fun e => ⟨rfl, Or.inr ⟨by decide, by rw [e]; decide, by rw [e]; rcases hs with u | u <;> subst u <;> decide⟩⟩,
    fun e => ⟨fun _ => ⟨rfl, Or.inl rfl⟩, fun f => ⟨rfl, Or.inr ⟨by decide, by rw [e]; decide, by rw [e]; rcases hs with u | u <;> subst u <;> first | decide | exact absurd f (by decide)⟩⟩⟩,
    fun e => ⟨fun _ => ⟨rfl, Or.inl rfl⟩, fun f => ⟨rfl, Or.inr ⟨by decide, by rw [e]; decide, by rw [e]; rcases hs with u | u <;> subst u <;> first | decide | exact absurd f (by decide)⟩⟩⟩,
    fun e => ⟨fun _ => ⟨rfl, Or.inl rfl⟩, fun f => ⟨rfl, Or.inr ⟨by decide, by rw [e]; decide, by rw [e]; rcases hs with u | u <;> subst u <;> first | decide | exact absurd f (by decide)⟩⟩⟩,
    fun _ => ⟨rfl, Or.inl rfl⟩⟩

theorem Pq.said {h : Hp_} (I : Iv h) (q : Pq h) : ps h ≤ 484 := by
  obtain ⟨q1, q2, q3, q4⟩ := q
  have z1 : pz h ≤ 160 := (pz_in I).2
  omega
/-- a bracket read from its opening to its end -/
theorem Pe.br {s : Nat} {h h2 h3 h4 : Hp_} (I : Iv h) (q : Pq h) (F : Fr [1033, 1034, 1035] h h2) (a2 : pa h + 1 ≤ pa h2) (d2 : pd h2 = pd h + 1) (d5 : pd h ≤ 5) (Q : Pe s h2 h3)
    (C : Iv h4 ∧ Fr [1033, 1034, 1035] h3 h4 ∧ (h_i h4 1 35).toInt = (h_i h3 1 35).toInt - 1 ∧ pa h3 + 1 ≤ pa h4 ∧ (¬ h_i h3 1 34 = -1 → h_i h4 1 34 = h_i h3 1 34 ∧ pa h4 = pa h3 + 1) ∧ (h_i h3 1 34 = -1 → pa h4 ≤ pz h3 + 1 ∧ (h_i h4 1 34 = -1 → pa h4 ≤ pz h3))) : Pe s h h4 := by
  obtain ⟨p1, p2, p3, p4, p5, p6, p7, p8⟩ := Q
  obtain ⟨c1, c2, c3, c4, c5, c6⟩ := C
  have z2 := zf F (by decide +kernel)
  have z3 := zf p2 (by decide +kernel)
  have e36 : h_i h2 1 36 = h_i h 1 36 := (F.2 1 36 (by decide +kernel)).1
  have s2 : ps h2 = ps h := by show (h_i h2 1 36).toInt = _; rw [e36]
  have n2 : sN h2 = sN h := by show (h_i h2 1 36).toNatClampNeg = _; rw [e36]
  have e36' : h_i h4 1 36 = h_i h3 1 36 := (c2.2 1 36 (by decide +kernel)).1
  have s4 : ps h4 = ps h3 := by show (h_i h4 1 36).toInt = _; rw [e36']
  have n4 : sN h4 = sN h3 := by show (h_i h4 1 36).toNatClampNeg = _; rw [e36']
  have f2 : h_i h2 226 = h_i h 226 := funext (fun k => fr_i F (by decide +kernel) k)
  have f4 : h_i h4 226 = h_i h3 226 := funext (fun k => fr_i c2 (by decide +kernel) k)
  have d3 : pd h4 = pd h3 - 1 := c3
  refine ⟨c1, ((F.more (by decide +kernel)).tr p2).tr (c2.more (by decide +kernel)), by omega, by omega, fun k hk => by rw [f4, p5 k (by omega), f2], by omega, fun w => ?_, fun w => ?_⟩
  · have w3 : h_i h3 1 34 = -1 := by
      refine Classical.byContradiction (fun n => ?_)
      rw [(c5 n).1] at w
      exact n w
    obtain ⟨t1, t2, t3, K, t4, t5⟩ := p7 w3
    have := (c6 w3).2 w
    refine ⟨by omega, by omega, by omega, K, by omega, ?_⟩
    rw [n4, f4, ← n2]; exact t5
  · by_cases w3 : h_i h3 1 34 = -1
    · obtain ⟨t1, t2, t3, K, t4, t5⟩ := p7 w3
      have := (c6 w3).1
      exact ⟨by omega, by omega⟩
    · obtain ⟨t1, t2⟩ := p8 w3
      have := (c5 w3).2
      exact ⟨by omega, by omega⟩
/-- one behind the bracket's opening -/
theorem op_q {h h1 h2 : Hp_} {r : Int32} (I : Iv h) (q : Pq h) (L : Lk h r h1) (l : pa h1 < pz h) (I2 : Iv h2) (F : Fr [1033, 1034, 1035] h1 h2) (w : h_i h2 1 34 = h_i h1 1 34) (a : pa h2 = pa h1 + 1) (e : (h_i h2 1 35).toInt = (h_i h1 1 35).toInt + 1) (e5 : (h_i h1 1 35).toInt ≤ 5) :
    Pq h2 ∧ Fr [1033, 1034, 1035] h h2 ∧ pa h + 1 ≤ pa h2 ∧ pd h2 = pd h + 1 ∧ pd h ≤ 5 ∧ h_i h2 1 37 = h_i h 1 37 := by
  obtain ⟨l1, l2, l3, l4, l5⟩ := L
  obtain ⟨q1, q2, q3, q4⟩ := q
  have z1 := zf l2 (by decide +kernel)
  have z2 := zf F (by decide +kernel)
  have e36 : ps h2 = ps h := by show (h_i h2 1 36).toInt = _; rw [(F.2 1 36 (by decide +kernel)).1, (l2.2 1 36 (by decide +kernel)).1]
  have e35 : pd h1 = pd h := by show (h_i h1 1 35).toInt = _; rw [(l2.2 1 35 (by decide +kernel)).1]
  have e' : pd h2 = pd h1 + 1 := e
  have e5' : pd h1 ≤ 5 := e5
  refine ⟨⟨by rw [w, (l2.2 1 34 (by decide +kernel)).1]; exact q1, by omega, by omega, by omega⟩, (l2.more (by decide +kernel)).tr F, by omega, by omega, by omega, ?_⟩
  rw [(F.2 1 37 (by decide +kernel)).1, (l2.2 1 37 (by decide +kernel)).1]
/-- wrong before anything was said -/
theorem Pe.no {s : Nat} {h h1 h2 : Hp_} {r : Int32} (I : Iv h) (q : Pq h) (L : Lk h r h1) (I2 : Iv h2) (F : Fr [1033, 1034, 1035] h1 h2) (w : ¬ h_i h2 1 34 = -1) (a : h_i h2 1 33 = h_i h1 1 33) (e : h_i h2 1 35 = h_i h1 1 35) : Pe s h h2 := by
  obtain ⟨l1, l2, l3, l4, l5⟩ := L
  obtain ⟨q1, q2, q3, q4⟩ := q
  have e36 : ps h2 = ps h := by show (h_i h2 1 36).toInt = _; rw [(F.2 1 36 (by decide +kernel)).1, (l2.2 1 36 (by decide +kernel)).1]
  have e35 : pd h2 = pd h := by show (h_i h2 1 35).toInt = _; rw [e, (l2.2 1 35 (by decide +kernel)).1]
  have e33 : pa h2 = pa h1 := by show (h_i h2 1 33).toInt = _; rw [a]
  refine ⟨I2, (l2.more (by decide +kernel)).tr (F.more (by decide +kernel)), by omega, by omega, fun k hk => ?_, by omega, fun w' => absurd w' w, fun _ => ?_⟩
  · rw [fr_i F (a := 226) (by decide +kernel), fr_i l2 (a := 226) (by decide +kernel)]
  · rcases l4 with u | u
    · exact ⟨by omega, by omega⟩
    · exact ⟨by omega, by omega⟩
/-- two codes said: a number or a letter -/
theorem Pe.two {s : Nat} {h h2 h3 h4 : Hp_} {x y : Int32} (I : Iv h) (q : Pq h) (F : Fr [1033, 1034] h h2) (a0 : pa h ≤ pa h2) (az : pa h2 ≤ pz h) (ao : h_i h2 1 34 = -1 → pa h < pa h2)
    (S : Iv h3 ∧ Fr [1036, 226999] h2 h3 ∧ (h_i h3 1 36).toInt = (h_i h2 1 36).toInt + 1 ∧ h_i h3 226 (h_i h2 1 36).toNatClampNeg = x ∧ ∀ k, k ≠ (h_i h2 1 36).toNatClampNeg → h_i h3 226 k = h_i h2 226 k)
    (S' : Iv h4 ∧ Fr [1036, 226999] h3 h4 ∧ (h_i h4 1 36).toInt = (h_i h3 1 36).toInt + 1 ∧ h_i h4 226 (h_i h3 1 36).toNatClampNeg = y ∧ ∀ k, k ≠ (h_i h3 1 36).toNatClampNeg → h_i h4 226 k = h_i h3 226 k)
    (o : x = 0 ∨ (x = 1 ∧ okl s y = true)) : Pe s h h4 := by
  obtain ⟨q1, q2, q3, q4⟩ := q
  obtain ⟨s1, s2, s3, s4, s5⟩ := S
  obtain ⟨r1, r2, r3, r4, r5⟩ := S'
  have e33 : pa h4 = pa h2 := by show (h_i h4 1 33).toInt = _; rw [(r2.2 1 33 (by decide +kernel)).1, (s2.2 1 33 (by decide +kernel)).1]
  have e34 : h_i h4 1 34 = h_i h2 1 34 := by rw [(r2.2 1 34 (by decide +kernel)).1, (s2.2 1 34 (by decide +kernel)).1]
  have e35 : pd h4 = pd h := by show (h_i h4 1 35).toInt = _; rw [(r2.2 1 35 (by decide +kernel)).1, (s2.2 1 35 (by decide +kernel)).1, (F.2 1 35 (by decide +kernel)).1]
  have e36 : h_i h2 1 36 = h_i h 1 36 := (F.2 1 36 (by decide +kernel)).1
  rw [e36] at s3 s4 s5
  have t3 : ps h3 = ps h + 1 := s3
  have t4 : ps h4 = ps h3 + 1 := r3
  have n0 := sN_i I
  have n3 := sN_i s1
  have n4 := sN_i r1
  have m3 : sN h3 = sN h + 1 := by omega
  have m4 : sN h4 = sN h + 2 := by omega
  have b0 : h_i h4 226 (sN h) = x := by rw [r5 _ (by show sN h ≠ sN h3; omega)]; exact s4
  have b1 : h_i h4 226 (sN h + 1) = y := by rw [← m3]; exact r4
  refine ⟨r1, (F.more (by decide +kernel)).tr ((s2.more (by decide +kernel)).tr (r2.more (by decide +kernel))), by omega, by omega, fun k hk => ?_, by omega, fun w => ?_, fun w => ?_⟩
  · rw [r5 k (by show k ≠ sN h3; omega), s5 k (by show k ≠ sN h; omega), fr_i F (a := 226) (by decide +kernel)]
  · rw [e34] at w
    have := ao w
    refine ⟨by omega, by omega, by omega, 1, by omega, ?_⟩
    rw [m4]
    rcases o with o | o
    · exact PR.num (by rw [b0]; exact o)
    · exact PR.let_ (by rw [b0]; exact o.1) (by rw [b1]; exact o.2)
  · exact ⟨by omega, by omega⟩
theorem c_atom (s e : Nat) (D : Int) (hs : s = 1 ∨ s = 2) (B : D ≤ 5 → Rd s (D + 1) (fun d h K => Cv (m_X12_sum (d + e + 53) 0 0) [.ref 1] h K)) : Rd s D (fun d h K => Cv (m_X12_atom (d + e + 61) 0 0) [.ref 1] h K) := by
  intro d h I q eD es
  have z1 : pz h ≤ 160 := (pz_in I).2
  have q1 := q.1
  have q2 := q.2.1
  have q3 := q.2.2.1
  have q5 := q.said I
  refine t_X12_atom (d + e) h I.1 _ (Ci.mono (c_look (d + e) I) (fun r h1 L => ⟨L.1.1, fun _ => ?_, fun er => ?_⟩))
  · have s1 : h_i h1 1 37 = Int32.ofNat s := by rw [(L.2.1.2 1 37 (by decide +kernel)).1]; exact es
    rw [s1]
    refine Ci.mono (c_isLetter (d + e) h1 r hs) (fun r2 h2 k => ?_)
    obtain ⟨e2, k⟩ := k
    subst e2
    have w1 : h_i h2 1 34 = -1 := by rw [(L.2.1.2 1 34 (by decide +kernel)).1]; exact q1
    have z2 := zf L.2.1 (by decide +kernel)
    have a1 : pa h2 ≤ pz h := by
      rcases L.2.2.2.1 with u | u
      · omega
      · exact u
    have l3 := L.2.2.1
    have p1 : ps h2 = ps h := by show (h_i h2 1 36).toInt = _; rw [(L.2.1.2 1 36 (by decide +kernel)).1]
    refine ⟨L.1.1, fun r0 => ?_, fun r0 => ?_⟩
    · refine Ci.mono (c_number (d + e) L.1 w1 (by omega)) (fun v h3 N => ⟨N.1.1, ?_⟩)
      obtain ⟨n1, n2, n3, n4, n5⟩ := N
      have p3 : ps h3 = ps h2 := by show (h_i h3 1 36).toInt = _; rw [(n2.2 1 36 (by decide +kernel)).1]
      refine Cv.mono (c_say (d + e) n1 0 (by show ps h3 ≤ 558; omega)) (fun h4 S => ⟨S.1.1, Cv.mono (c_say (d + e) S.1 v ?_) (fun h5 S' => ⟨S'.1.1, ?_⟩)⟩)
      · have := S.2.2.1
        show ps h4 ≤ 558
        have e4 : ps h4 = ps h3 + 1 := this
        omega
      · exact Pe.two I q ((L.2.1.more (by decide +kernel)).tr n2) (by omega) (by omega) (fun w => by have := n5 w; omega) S S' (Or.inl rfl)
    · have k : ¬ r = -1 ∧ okl s r = true := by
        rcases k with k | k
        · exact absurd k r0
        · exact k.2
      have l5 : pa h2 < pz h := by
        rcases L.fwd rfl with u | u
        · exact absurd u k.1
        · exact u
      have a0 : 0 ≤ pa h2 := (pa_in L.1).1
      have o1 : (1 : Int32).toInt = 1 := rfl
      have e33 : (h_i h2 1 33 + 1).toInt = pa h2 + 1 := by
        show (h_i h2 1 33 + 1).toInt = (h_i h2 1 33).toInt + 1
        have a0' : 0 ≤ (h_i h2 1 33).toInt := a0
        have l' : (h_i h2 1 33).toInt < pz h := l5
        rw [tx_add (by rw [o1]; omega) (by rw [o1]; omega), o1]
      have I3 : Iv (h_im h2 1 33 ((h_i h2 1 33) + 1)) := i33 L.1 ⟨by rw [e33]; show (0 : Int) ≤ _; omega, by rw [e33]; show _ ≤ (180 : Int); omega⟩
      have F3 : Fr [1033] h2 (h_im h2 1 33 ((h_i h2 1 33) + 1)) := (Fr.rf _ _).im (by decide +kernel)
      have ea : pa (h_im h2 1 33 ((h_i h2 1 33) + 1)) = pa h2 + 1 := by
        show (h_i (h_im h2 1 33 _) 1 33).toInt = _
        rw [im_at]; exact e33
      have es' : ps (h_im h2 1 33 ((h_i h2 1 33) + 1)) = ps h2 := by
        show (h_i (h_im h2 1 33 _) 1 36).toInt = _
        rw [f_ne (by decide)]
      refine Cv.mono (c_say (d + e) I3 1 (by show ps (h_im h2 1 33 _) ≤ 558; omega)) (fun h4 S => ⟨S.1.1, Cv.mono (c_say (d + e) S.1 r ?_) (fun h5 S' => ⟨S'.1.1, ?_⟩)⟩)
      · have e4 : ps h4 = ps (h_im h2 1 33 ((h_i h2 1 33) + 1)) + 1 := S.2.2.1
        show ps h4 ≤ 558
        omega
      · exact Pe.two I q ((L.2.1.tr F3).more (by decide +kernel)) (by omega) (by omega) (fun w => by omega) S S' (Or.inr ⟨rfl, k.2⟩)
  · have l5 : pa h1 < pz h := by
      rcases L.fwd rfl with u | u
      · rw [er] at u; exact absurd u (by decide)
      · exact u
    have z2 := zf L.2.1 (by decide +kernel)
    have e35 : pd h1 = pd h := by show (h_i h1 1 35).toInt = _; rw [(L.2.1.2 1 35 (by decide +kernel)).1]
    refine Ci.mono (c_opens (d + e) L.1 (by omega) (by show pd h1 ≤ 6; omega)) (fun r2 h2 k => ?_)
    obtain ⟨I2, F2, k⟩ := k
    refine ⟨I2.1, fun r0 => ?_, fun r0 => ?_⟩
    · rcases k with k | k
      · rw [k.1] at r0; exact absurd r0 (by decide)
      · exact Pe.no I q L I2 F2 k.2.1 k.2.2.1 k.2.2.2
    · rcases k with k | k
      · obtain ⟨k1, k2, k3, k4, k5⟩ := k
        obtain ⟨Q2, G2, b2, d2, d5, s2⟩ := op_q I q L l5 I2 F2 k2 k3 k4 k5
        refine Cv.mono (B (by omega) d h2 I2 Q2 (by omega) (by rw [s2]; exact es)) (fun h3 P => ⟨P.1.1, Cv.mono (c_closes (d + e) P.1 93 ?_ (by decide) ?_) (fun h4 C => ⟨C.1.1, Pe.br I q G2 b2 d2 d5 P C⟩)⟩)
        · have z3 := zf P.2.1 (by decide +kernel)
          have z4 := zf G2 (by decide +kernel)
          refine ⟨fun w => ?_, ?_⟩
          · have := (P.2.2.2.2.2.2.1 w).1
            omega
          · have d0 : 0 ≤ pd h2 := (dp_in7 I2).1
            by_cases w : h_i h3 1 34 = -1
            · have := (P.2.2.2.2.2.2.1 w).1
              omega
            · have := (P.2.2.2.2.2.2.2 w).1
              omega
        · have p3 := P.2.2.1
          have d0 : 0 ≤ pd h := (dp_in7 I).1
          show 1 ≤ pd h3
          omega
      · exact absurd k.1 r0
end
section
/-! conditions -/
theorem part_lp (s e : Nat) (D : Int) (A : Rd s D (fun d h K => Cv (m_X12_unit (d + e + 55) 0 0) [.ref 1] h K)) (d : Nat) {h : Hp_} (I : Iv h) (q : Pq h) (eD : pd h = D) (es : h_i h 1 37 = Int32.ofNat s) :
    ∀ (n : Nat) (h2 : Hp_), Pe s h h2 → pz h - pa h2 ≤ n → AW (m_X12_part (d + e + 56) 0 0) 0 0 15 [(0, .ref 1)] [] h2 (kV (fun h' => Pe s h h')) := by
  intro n
  induction n with
  | zero =>
    intro h2 P m
    refine t_X12_part_15 (d + e) h2 P.1.1 _ ⟨fun _ => P, fun w => Ci.mono (c_look (d + e) P.1) (fun r h5 L => ⟨L.1.1, fun _ => P.lk I L, fun er => ?_⟩)⟩
    have l3 := L.2.2.1
    rcases L.fwd (zf P.2.1 (by decide +kernel)) with u | u
    · rw [er] at u; exact absurd u (by decide)
    · omega
  | succ n ih =>
    intro h2 P m
    refine t_X12_part_15 (d + e) h2 P.1.1 _ ⟨fun _ => P, fun w => Ci.mono (c_look (d + e) P.1) (fun r h5 L => ⟨L.1.1, fun _ => P.lk I L, fun er => ?_⟩)⟩
    have P5 := P.lk I L
    have w5 : h_i h5 1 34 = -1 := by rw [(L.2.1.2 1 34 (by decide +kernel)).1]; exact w
    have l3 := L.2.2.1
    have l5 : pa h5 < pz h := by
      rcases L.fwd (zf P.2.1 (by decide +kernel)) with u | u
      · rw [er] at u; exact absurd u (by decide)
      · exact u
    obtain ⟨I6, F6, a6, q6, d6, s6⟩ := P5.nx I q w5 l5
    refine Cv.mono (A d _ I6 q6 (by omega) (by rw [s6]; exact es)) (fun h9 Q => ⟨Q.1.1, Cv.mono (c_say (d + e) Q.1 38 (Q.room I6 q6)) (fun h12 S => ?_)⟩)
    have P12 := P5.op w5 I I6 F6 (by omega) Q S (by decide)
    have e33 : pa h12 = pa h9 := by show (h_i h12 1 33).toInt = _; rw [(S.2.1.2 1 33 (by decide +kernel)).1]
    have q4 := Q.2.2.2.1
    exact ⟨S.1.1, ih h12 P12 (by omega)⟩
theorem Pe.m {s : Nat} {h h2 : Hp_} (I : Iv h) (P : Pe s h h2) : pz h - pa h2 ≤ (160 : Nat) := by
  have z1 : pz h ≤ 160 := (pz_in I).2
  have a1 : 0 ≤ pa h2 := (pa_in P.1).1
  omega
theorem c_part0 (s e : Nat) (D : Int) (A : Rd s D (fun d h K => Cv (m_X12_unit (d + e + 55) 0 0) [.ref 1] h K)) : Rd s D (fun d h K => Cv (m_X12_part (d + e + 56) 0 0) [.ref 1, .int 0] h K) := by
  intro d h I q eD es
  refine t_X12_part (d + e) h I.1 0 _ ⟨fun _ => Cv.mono (A d h I q eD es) (fun h2 P => ⟨P.1.1, part_lp s e D A d I q eD es 160 h2 P (P.m I)⟩), fun n => absurd rfl n⟩
theorem c_part1 (s e : Nat) (D : Int) (A : Rd s D (fun d h K => Cv (m_X12_unit (d + e + 55) 0 0) [.ref 1] h K)) (B : Rd s D (fun d h K => Cv (m_X12_sum (d + e + 53) 0 0) [.ref 1] h K)) (d : Nat) {h h2 : Hp_} (I : Iv h) (q : Pq h) (eD : pd h = D) (es : h_i h 1 37 = Int32.ofNat s) (P : Pe s h h2) :
    Cv (m_X12_part (d + e + 56) 0 0) [.ref 1, .int 1] h2 (fun h' => Pe s h h') := by
  refine t_X12_part (d + e) h2 P.1.1 1 _ ⟨fun n => absurd n (by decide), fun _ => Cv.mono (c_compare s e D B d I q eD es P) (fun h3 P3 => ⟨P3.1.1, part_lp s e D A d I q eD es 160 h3 P3 (P3.m I)⟩)⟩
theorem cond_lp (s e : Nat) (D : Int) (A : Rd s D (fun d h K => Cv (m_X12_part (d + e + 56) 0 0) [.ref 1, .int 0] h K)) (d : Nat) {h : Hp_} (I : Iv h) (q : Pq h) (eD : pd h = D) (es : h_i h 1 37 = Int32.ofNat s) :
    ∀ (n : Nat) (h2 : Hp_), Pe s h h2 → pz h - pa h2 ≤ n → AW (m_X12_condition (d + e + 57) 0 0) 0 0 5 [(0, .ref 1)] [] h2 (kV (fun h' => Pe s h h')) := by
  intro n
  induction n with
  | zero =>
    intro h2 P m
    refine t_X12_condition_5 (d + e) h2 P.1.1 _ ⟨fun _ => P, fun w => Ci.mono (c_look (d + e) P.1) (fun r h5 L => ⟨L.1.1, fun _ => P.lk I L, fun er => ?_⟩)⟩
    have l3 := L.2.2.1
    rcases L.fwd (zf P.2.1 (by decide +kernel)) with u | u
    · rw [er] at u; exact absurd u (by decide)
    · omega
  | succ n ih =>
    intro h2 P m
    refine t_X12_condition_5 (d + e) h2 P.1.1 _ ⟨fun _ => P, fun w => Ci.mono (c_look (d + e) P.1) (fun r h5 L => ⟨L.1.1, fun _ => P.lk I L, fun er => ?_⟩)⟩
    have P5 := P.lk I L
    have w5 : h_i h5 1 34 = -1 := by rw [(L.2.1.2 1 34 (by decide +kernel)).1]; exact w
    have l3 := L.2.2.1
    have l5 : pa h5 < pz h := by
      rcases L.fwd (zf P.2.1 (by decide +kernel)) with u | u
      · rw [er] at u; exact absurd u (by decide)
      · exact u
    obtain ⟨I6, F6, a6, q6, d6, s6⟩ := P5.nx I q w5 l5
    refine Cv.mono (A d _ I6 q6 (by omega) (by rw [s6]; exact es)) (fun h9 Q => ⟨Q.1.1, Cv.mono (c_say (d + e) Q.1 124 (Q.room I6 q6)) (fun h12 S => ?_)⟩)
    have P12 := P5.op w5 I I6 F6 (by omega) Q S (by decide)
    have e33 : pa h12 = pa h9 := by show (h_i h12 1 33).toInt = _; rw [(S.2.1.2 1 33 (by decide +kernel)).1]
    have q4 := Q.2.2.2.1
    exact ⟨S.1.1, ih h12 P12 (by omega)⟩
theorem c_cond0 (s e : Nat) (D : Int) (A : Rd s D (fun d h K => Cv (m_X12_unit (d + e + 55) 0 0) [.ref 1] h K)) : Rd s D (fun d h K => Cv (m_X12_condition (d + e + 57) 0 0) [.ref 1, .int 0] h K) := by
  intro d h I q eD es
  exact t_X12_condition (d + e) h I.1 0 _ (Cv.mono (c_part0 s e D A d h I q eD es) (fun h2 P => ⟨P.1.1, cond_lp s e D (c_part0 s e D A) d I q eD es 160 h2 P (P.m I)⟩))
theorem c_cond1 (s e : Nat) (D : Int) (A : Rd s D (fun d h K => Cv (m_X12_unit (d + e + 55) 0 0) [.ref 1] h K)) (B : Rd s D (fun d h K => Cv (m_X12_sum (d + e + 53) 0 0) [.ref 1] h K)) (d : Nat) {h h2 : Hp_} (I : Iv h) (q : Pq h) (eD : pd h = D) (es : h_i h 1 37 = Int32.ofNat s) (P : Pe s h h2) :
    Cv (m_X12_condition (d + e + 57) 0 0) [.ref 1, .int 1] h2 (fun h' => Pe s h h') :=
  t_X12_condition (d + e) h2 P.1.1 1 _ (Cv.mono (c_part1 s e D A B d I q eD es P) (fun h3 P3 => ⟨P3.1.1, cond_lp s e D (c_part0 s e D A) d I q eD es 160 h3 P3 (P3.m I)⟩))
/-- a not -/
theorem Pe.nt {s : Nat} {h h2 h3 h5 : Hp_} (I : Iv h) (q : Pq h) (F : Fr [1033, 1034, 1035] h h2) (a2 : pa h + 1 ≤ pa h2) (d2 : pd h2 = pd h + 1) (d5 : pd h ≤ 5) (Q : Pe s h2 h3)
    (S : Iv h5 ∧ Fr [1036, 226999] (h_im h3 1 35 ((h_i h3 1 35) - 1)) h5 ∧ (h_i h5 1 36).toInt = (h_i (h_im h3 1 35 ((h_i h3 1 35) - 1)) 1 36).toInt + 1 ∧ h_i h5 226 (h_i (h_im h3 1 35 ((h_i h3 1 35) - 1)) 1 36).toNatClampNeg = 33 ∧ ∀ k, k ≠ (h_i (h_im h3 1 35 ((h_i h3 1 35) - 1)) 1 36).toNatClampNeg → h_i h5 226 k = h_i (h_im h3 1 35 ((h_i h3 1 35) - 1)) 226 k) : Pe s h h5 := by
  obtain ⟨p1, p2, p3, p4, p5, p6, p7, p8⟩ := Q
  obtain ⟨s1, s2, s3, s4, s5⟩ := S
  rw [f_ne (by decide)] at s3 s4 s5
  have z2 := zf F (by decide +kernel)
  have z3 := zf p2 (by decide +kernel)
  have e36 : h_i h2 1 36 = h_i h 1 36 := (F.2 1 36 (by decide +kernel)).1
  have s2' : ps h2 = ps h := by show (h_i h2 1 36).toInt = _; rw [e36]
  have n2 : sN h2 = sN h := by show (h_i h2 1 36).toNatClampNeg = _; rw [e36]
  have t5 : ps h5 = ps h3 + 1 := s3
  have m3 := sN_i p1
  have m5 := sN_i s1
  have n5 : sN h5 = sN h3 + 1 := by omega
  have f2 : h_i h2 226 = h_i h 226 := funext (fun k => fr_i F (by decide +kernel) k)
  have f4 : ∀ k, h_i (h_im h3 1 35 ((h_i h3 1 35) - 1)) 226 k = h_i h3 226 k := fun k => by rw [h_i_im, if_neg (fun u => absurd u.1 (by decide))]
  have e33 : pa h5 = pa h3 := by show (h_i h5 1 33).toInt = _; rw [(s2.2 1 33 (by decide +kernel)).1, f_ne (by decide)]
  have e34 : h_i h5 1 34 = h_i h3 1 34 := by rw [(s2.2 1 34 (by decide +kernel)).1, f_ne (by decide)]
  have o1 : (1 : Int32).toInt = 1 := rfl
  have d0 : 0 ≤ pd h := (dp_in7 I).1
  have d1 : 1 ≤ (h_i h3 1 35).toInt := by show 1 ≤ pd h3; omega
  have d7 : (h_i h3 1 35).toInt ≤ 7 := (dp_in7 p1).2
  have e35 : pd h5 = pd h3 - 1 := by
    show (h_i h5 1 35).toInt = (h_i h3 1 35).toInt - 1
    rw [(s2.2 1 35 (by decide +kernel)).1, im_at, tx_sub (by rw [o1]; omega) (by rw [o1]; omega), o1]
  have F35 : Fr [1035] h3 (h_im h3 1 35 ((h_i h3 1 35) - 1)) := (Fr.rf _ _).im (by decide +kernel)
  have m2 := sN_i I
  refine ⟨s1, ((F.more (by decide +kernel)).tr p2).tr ((F35.more (by decide +kernel)).tr (s2.more (by decide +kernel))), by omega, by omega, fun k hk => ?_, by omega, fun w => ?_, fun w => ?_⟩
  · rw [s5 k (by show k ≠ sN h3; omega), f4, p5 k (by omega), f2]
  · rw [e34] at w
    obtain ⟨t1, t2, t3, K, t4, t6⟩ := p7 w
    refine ⟨by omega, by omega, by omega, K, by omega, ?_⟩
    rw [n5, ← n2]
    refine PR.not_ (PR.same (fun k a b => ?_) t6) s4
    rw [s5 k (by show k ≠ sN h3; omega), f4]
  · rw [e34] at w
    obtain ⟨t1, t2⟩ := p8 w
    exact ⟨by omega, by omega⟩
theorem c_unit (s e : Nat) (D : Int) (B : Rd s D (fun d h K => Cv (m_X12_sum (d + e + 53) 0 0) [.ref 1] h K)) (U : D ≤ 5 → Rd s (D + 1) (fun d h K => Cv (m_X12_unit (d + e + 55) 0 0) [.ref 1] h K)) : Rd s D (fun d h K => Cv (m_X12_unit (d + e + 65) 0 0) [.ref 1] h K) := by
  intro d h I q eD es
  have z1 : pz h ≤ 160 := (pz_in I).2
  have q1 := q.1
  have q2 := q.2.1
  have q3 := q.2.2.1
  have q5 := q.said I
  have d0 : 0 ≤ pd h := (dp_in7 I).1
  refine t_X12_unit (d + e) h I.1 _ (Ci.mono (c_look (d + e) I) (fun r h1 L => ?_))
  have z2 := zf L.2.1 (by decide +kernel)
  have e35 : pd h1 = pd h := by show (h_i h1 1 35).toInt = _; rw [(L.2.1.2 1 35 (by decide +kernel)).1]
  have e36 : h_i h1 1 36 = h_i h 1 36 := (L.2.1.2 1 36 (by decide +kernel)).1
  have f226 : h_i h1 226 = h_i h 226 := funext (fun k => fr_i L.2.1 (by decide +kernel) k)
  have ps1 : ps h1 = ps h := by show (h_i h1 1 36).toInt = _; rw [e36]
  have sn1 : sN h1 = sN h := by show (h_i h1 1 36).toNatClampNeg = _; rw [e36]
  have l3 := L.2.2.1
  have a1 : pa h1 ≤ pz h := by
    rcases L.2.2.2.1 with u | u
    · omega
    · exact u
  have op : pa h1 < pz h → Ci (m_X12_opens (d + e + 1) 0 0) [.ref 1] h1 (fun r2 h2 => Iv h2 ∧ (r2 = 0 → Pe s h h2) ∧ (¬ r2 = 0 → Pq h2 ∧ Fr [1033, 1034, 1035] h h2 ∧ pa h + 1 ≤ pa h2 ∧ pd h2 = pd h + 1 ∧ pd h ≤ 5 ∧ h_i h2 1 37 = h_i h 1 37)) := by
    intro l5
    refine Ci.mono (c_opens (d + e) L.1 (by omega) (by show pd h1 ≤ 6; omega)) (fun r2 h2 k => ?_)
    obtain ⟨I2, F2, k⟩ := k
    refine ⟨I2, fun r0 => ?_, fun r0 => ?_⟩
    · rcases k with k | k
      · rw [k.1] at r0; exact absurd r0 (by decide)
      · exact Pe.no I q L I2 F2 k.2.1 k.2.2.1 k.2.2.2
    · rcases k with k | k
      · obtain ⟨k1, k2, k3, k4, k5⟩ := k
        exact op_q I q L l5 I2 F2 k2 k3 k4 k5
      · exact absurd k.1 r0
  refine ⟨L.1.1, fun n1 => ⟨fun n2 => ?_, fun er => ?_⟩, fun er => ?_⟩
  · have qh1 : Pq h1 := ⟨by rw [(L.2.1.2 1 34 (by decide +kernel)).1]; exact q1, by omega, by omega, by have := q.2.2.2; omega⟩
    have Pl : ∀ h6, Pe s h1 h6 → Pe s h h6 := fun h6 P => by
      obtain ⟨p1, p2, p3, p4, p5, p6, p7, p8⟩ := P
      refine ⟨p1, (L.2.1.more (by decide +kernel)).tr p2, by omega, by omega, fun k hk => by rw [p5 k (by omega), f226], by omega, fun w => ?_, fun w => ?_⟩
      · obtain ⟨t1, t2, t3, K, t4, t5⟩ := p7 w
        exact ⟨by omega, by omega, by omega, K, by omega, by rw [← sn1]; exact t5⟩
      · obtain ⟨t1, t2⟩ := p8 w
        exact ⟨by omega, by omega⟩
    refine Cv.mono (B d h1 L.1 qh1 (by omega) (by rw [(L.2.1.2 1 37 (by decide +kernel)).1]; exact es)) (fun h6 P => ⟨P.1.1, Cv.mono (c_compare s e D B d I q eD es (Pl h6 P)) (fun h9 P9 => ⟨P9.1.1, P9⟩)⟩)
  · have l5 : pa h1 < pz h := by
      rcases L.fwd rfl with u | u
      · rw [er] at u; exact absurd u (by decide)
      · exact u
    refine Ci.mono (op l5) (fun r2 h2 k => ⟨k.1.1, k.2.1, fun r0 => ?_⟩)
    obtain ⟨Q2, G2, b2, d2, d5, s2⟩ := k.2.2 r0
    refine Cv.mono (c_cond0 s e (D + 1) (U (by omega)) d h2 k.1 Q2 (by omega) (by rw [s2]; exact es)) (fun h3 P => ⟨P.1.1, Cv.mono (c_closes (d + e) P.1 41 ?_ (by decide) ?_) (fun h4 C => ⟨C.1.1, Pe.br I q G2 b2 d2 d5 P C⟩)⟩)
    · have z3 := zf P.2.1 (by decide +kernel)
      have z4 := zf G2 (by decide +kernel)
      refine ⟨fun w => ?_, ?_⟩
      · have := (P.2.2.2.2.2.2.1 w).1
        omega
      · by_cases w : h_i h3 1 34 = -1
        · have := (P.2.2.2.2.2.2.1 w).1
          omega
        · have := (P.2.2.2.2.2.2.2 w).1
          omega
    · have p3 := P.2.2.1
      show 1 ≤ pd h3
      omega
  · have l5 : pa h1 < pz h := by
      rcases L.fwd rfl with u | u
      · rw [er] at u; exact absurd u (by decide)
      · exact u
    refine Ci.mono (op l5) (fun r2 h2 k => ⟨k.1.1, k.2.1, fun r0 => ?_⟩)
    obtain ⟨Q2, G2, b2, d2, d5, s2⟩ := k.2.2 r0
    refine Cv.mono (U (by omega) d h2 k.1 Q2 (by omega) (by rw [s2]; exact es)) (fun h3 P => ⟨P.1.1, ?_⟩)
    have p3 := P.2.2.1
    have o1 : (1 : Int32).toInt = 1 := rfl
    have d1 : 1 ≤ (h_i h3 1 35).toInt := by show 1 ≤ pd h3; omega
    have d7 : (h_i h3 1 35).toInt ≤ 7 := (dp_in7 P.1).2
    have e3 : (h_i h3 1 35 - 1).toInt = (h_i h3 1 35).toInt - 1 := by rw [tx_sub (by rw [o1]; omega) (by rw [o1]; omega), o1]
    refine Cv.mono (c_say (d + e) (i35 P.1 ⟨by rw [e3]; show (0 : Int) ≤ _; omega, by rw [e3]; show _ ≤ (7 : Int); omega⟩) 33 ?_) (fun h5 S => ⟨S.1.1, Pe.nt I q G2 b2 d2 d5 P S⟩)
    rw [f_ne (by decide)]
    exact P.room k.1 Q2
/-! all depths -/
theorem Rd.up {s : Nat} {D : Int} {C : Nat → Hp_ → (Hp_ → Prop) → Prop} (A : Rd s D C) (j : Nat) : Rd s D (fun d => C (d + j)) := fun d h I q a b => A (d + j) h I q a b
theorem c_sums (s : Nat) (hs : s = 1 ∨ s = 2) : ∀ (g : Nat), g ≤ 6 → Rd s (6 - (g : Int)) (fun d h K => Cv (m_X12_sum (d + (10 * g + 10) + 53) 0 0) [.ref 1] h K) := by
  intro g
  induction g with
  | zero =>
    intro _
    refine c_sum s _ _ (c_term s _ _ ?_)
    exact c_atom s 0 _ hs (fun n => absurd n (by decide))
  | succ g ih =>
    intro hg
    refine c_sum s _ _ (c_term s _ _ ?_)
    have := c_atom s (10 * g + 10) (6 - ((g + 1 : Nat) : Int)) hs (fun _ => by rw [show (6 - ((g + 1 : Nat) : Int)) + 1 = 6 - (g : Int) by omega]; exact ih (by omega))
    intro d h I q a b
    have t := this d h I q a b
    dsimp only at t
    rw [show d + (10 * g + 10) + 61 = d + (10 * (g + 1) + 10) + 51 by omega] at t
    exact t
theorem c_units (s : Nat) (hs : s = 1 ∨ s = 2) : ∀ (g : Nat), g ≤ 6 → Rd s (6 - (g : Int)) (fun d h K => Cv (m_X12_unit (d + (10 * g + 10) + 65) 0 0) [.ref 1] h K) := by
  intro g
  induction g with
  | zero =>
    intro _
    exact c_unit s _ _ (c_sums s hs 0 (by decide)) (fun n => absurd n (by decide))
  | succ g ih =>
    intro hg
    refine c_unit s _ _ (c_sums s hs (g + 1) hg) (fun _ => ?_)
    rw [show (6 - ((g + 1 : Nat) : Int)) + 1 = 6 - (g : Int) by omega]
    intro d h I q a b
    have t := ih (by omega) d h I q a b
    dsimp only at t
    rw [show d + (10 * g + 10) + 65 = d + (10 * (g + 1) + 10) + 55 by omega] at t
    exact t
/-- at depth 0: a sum, a condition, a condition whose first sum stands -/
theorem r_sum (s : Nat) (hs : s = 1 ∨ s = 2) : Rd s 0 (fun d h K => Cv (m_X12_sum (d + 133) 0 0) [.ref 1] h K) := by
  intro d h I q a b
  have t := c_sums s hs 6 (by decide) (d + 10) h I q (by omega) b
  dsimp only at t
  rw [show d + 10 + (10 * 6 + 10) + 53 = d + 133 by omega] at t
  exact t
theorem r_unit (s : Nat) (hs : s = 1 ∨ s = 2) : Rd s 0 (fun d h K => Cv (m_X12_unit (d + 80 + 55) 0 0) [.ref 1] h K) := by
  intro d h I q a b
  have t := c_units s hs 6 (by decide) d h I q (by omega) b
  exact t
theorem r_cond0 (s : Nat) (hs : s = 1 ∨ s = 2) : Rd s 0 (fun d h K => Cv (m_X12_condition (d + 137) 0 0) [.ref 1, .int 0] h K) := c_cond0 s 80 0 (r_unit s hs)
theorem r_cond1 (s : Nat) (hs : s = 1 ∨ s = 2) (d : Nat) {h h2 : Hp_} (I : Iv h) (q : Pq h) (eD : pd h = 0) (es : h_i h 1 37 = Int32.ofNat s) (P : Pe s h h2) : Cv (m_X12_condition (d + 137) 0 0) [.ref 1, .int 1] h2 (fun h' => Pe s h h') := c_cond1 s 80 0 (r_unit s hs) (r_sum s hs) d I q eD es P
end
section
theorem t_X12_clause (d : Nat) (h : Hp_) (w : Wf h)  (K : Hp_ → Prop) (k : Ci (m_X12_look (d + 0) 0 0) [.ref 1] h (fun r3 h1 => Wf h1 ∧ ((¬ (h_i h1 1 37) = 1 → (r3 = 33 → Cv (m_X12_condition (d + 57) 0 0) [.ref 1, .int 0] h1 (fun h7 => Wf h7 ∧ (Cv (m_X12_ask (d + 1) 0 0) [.ref 1] h7 (fun h10 => Wf h10 ∧ ((¬ (h_i h10 1 34) = (-1) → K h10) ∧ ((h_i h10 1 34) = (-1) → Cv (m_X12_sum (d + 53) 0 0) [.ref 1] h10 (fun h14 => Wf h14 ∧ (Cv (m_X12_say (d + 0) 0 0) [.ref 1, .int 3] h14 (fun h17 => Wf h17 ∧ (K h17)))))))))) ∧ (¬ r3 = 33 → (r3 = 40 → Cv (m_X12_condition (d + 57) 0 0) [.ref 1, .int 0] h1 (fun h22 => Wf h22 ∧ (Cv (m_X12_ask (d + 1) 0 0) [.ref 1] h22 (fun h25 => Wf h25 ∧ ((¬ (h_i h25 1 34) = (-1) → K h25) ∧ ((h_i h25 1 34) = (-1) → Cv (m_X12_sum (d + 53) 0 0) [.ref 1] h25 (fun h29 => Wf h29 ∧ (Cv (m_X12_say (d + 0) 0 0) [.ref 1, .int 3] h29 (fun h32 => Wf h32 ∧ (K h32)))))))))) ∧ (¬ r3 = 40 → Cv (m_X12_sum (d + 53) 0 0) [.ref 1] h1 (fun h36 => Wf h36 ∧ (((h_i h36 1 34) = (-1) → Ci (m_X12_look (d + 0) 0 0) [.ref 1] h36 (fun r42 h40 => Wf h40 ∧ (Ci (m_X12_isSign (d + 0) 0 0) [.int r42] h40 (fun r45 h43 => Wf h43 ∧ ((¬ r45 = 0 → Cv (m_X12_condition (d + 57) 0 0) [.ref 1, .int 1] h43 (fun h47 => Wf h47 ∧ (Cv (m_X12_ask (d + 1) 0 0) [.ref 1] h47 (fun h50 => Wf h50 ∧ ((¬ (h_i h50 1 34) = (-1) → K h50) ∧ ((h_i h50 1 34) = (-1) → Cv (m_X12_sum (d + 53) 0 0) [.ref 1] h50 (fun h54 => Wf h54 ∧ (Cv (m_X12_say (d + 0) 0 0) [.ref 1, .int 3] h54 (fun h57 => Wf h57 ∧ (K h57)))))))))) ∧ (r45 = 0 → AW (m_X12_clause (d + 58) 0 0) 0 0 179 [(0, .ref 1), (3, .int (h_i h1 1 36)), (4, .int ((h_i h43 1 36) - 1))] [] h43 (kV K))))))) ∧ (¬ (h_i h36 1 34) = (-1) → K h36)))))) ∧ ((h_i h1 1 37) = 1 → Cv (m_X12_condition (d + 57) 0 0) [.ref 1, .int 0] h1 (fun h60 => Wf h60 ∧ (Cv (m_X12_ask (d + 1) 0 0) [.ref 1] h60 (fun h63 => Wf h63 ∧ (((h_i h63 1 34) = (-1) → Ci (m_X12_look (d + 0) 0 0) [.ref 1] h63 (fun r69 h67 => Wf h67 ∧ ((r69 = 120 → Cv (m_X12_say (d + 0) 0 0) [.ref 1, .int 0] (h_im h67 1 33 ((h_i h67 1 33) + 1)) (fun h71 => Wf h71 ∧ ((¬ r69 = 120 → (¬ r69 = 110 → (¬ r69 = 114 → Cv (m_X12_say (d + 0) 0 0) [.ref 1, .int 3] h71 (fun h77 => Wf h77 ∧ (Cv (m_X12_say (d + 0) 0 0) [.ref 1, .int 3] h77 (fun h80 => Wf h80 ∧ (K h80))))) ∧ (r69 = 114 → Cv (m_X12_say (d + 0) 0 0) [.ref 1, .int 2] h71 (fun h83 => Wf h83 ∧ (Cv (m_X12_say (d + 0) 0 0) [.ref 1, .int 3] h83 (fun h86 => Wf h86 ∧ (K h86)))))) ∧ (r69 = 110 → Cv (m_X12_say (d + 0) 0 0) [.ref 1, .int 1] h71 (fun h89 => Wf h89 ∧ (Cv (m_X12_say (d + 0) 0 0) [.ref 1, .int 3] h89 (fun h92 => Wf h92 ∧ (K h92)))))) ∧ (r69 = 120 → Cv (m_X12_say (d + 0) 0 0) [.ref 1, .int 0] h71 (fun h95 => Wf h95 ∧ (Cv (m_X12_say (d + 0) 0 0) [.ref 1, .int 3] h95 (fun h98 => Wf h98 ∧ (K h98)))))))) ∧ (¬ r69 = 120 → (r69 = 110 → Cv (m_X12_say (d + 0) 0 0) [.ref 1, .int 0] (h_im h67 1 33 ((h_i h67 1 33) + 1)) (fun h102 => Wf h102 ∧ ((¬ r69 = 120 → (¬ r69 = 110 → (¬ r69 = 114 → Cv (m_X12_say (d + 0) 0 0) [.ref 1, .int 3] h102 (fun h108 => Wf h108 ∧ (Cv (m_X12_say (d + 0) 0 0) [.ref 1, .int 3] h108 (fun h111 => Wf h111 ∧ (K h111))))) ∧ (r69 = 114 → Cv (m_X12_say (d + 0) 0 0) [.ref 1, .int 2] h102 (fun h114 => Wf h114 ∧ (Cv (m_X12_say (d + 0) 0 0) [.ref 1, .int 3] h114 (fun h117 => Wf h117 ∧ (K h117)))))) ∧ (r69 = 110 → Cv (m_X12_say (d + 0) 0 0) [.ref 1, .int 1] h102 (fun h120 => Wf h120 ∧ (Cv (m_X12_say (d + 0) 0 0) [.ref 1, .int 3] h120 (fun h123 => Wf h123 ∧ (K h123)))))) ∧ (r69 = 120 → Cv (m_X12_say (d + 0) 0 0) [.ref 1, .int 0] h102 (fun h126 => Wf h126 ∧ (Cv (m_X12_say (d + 0) 0 0) [.ref 1, .int 3] h126 (fun h129 => Wf h129 ∧ (K h129)))))))) ∧ (¬ r69 = 110 → (r69 = 114 → Cv (m_X12_say (d + 0) 0 0) [.ref 1, .int 0] (h_im h67 1 33 ((h_i h67 1 33) + 1)) (fun h133 => Wf h133 ∧ ((¬ r69 = 120 → (¬ r69 = 110 → (¬ r69 = 114 → Cv (m_X12_say (d + 0) 0 0) [.ref 1, .int 3] h133 (fun h139 => Wf h139 ∧ (Cv (m_X12_say (d + 0) 0 0) [.ref 1, .int 3] h139 (fun h142 => Wf h142 ∧ (K h142))))) ∧ (r69 = 114 → Cv (m_X12_say (d + 0) 0 0) [.ref 1, .int 2] h133 (fun h145 => Wf h145 ∧ (Cv (m_X12_say (d + 0) 0 0) [.ref 1, .int 3] h145 (fun h148 => Wf h148 ∧ (K h148)))))) ∧ (r69 = 110 → Cv (m_X12_say (d + 0) 0 0) [.ref 1, .int 1] h133 (fun h151 => Wf h151 ∧ (Cv (m_X12_say (d + 0) 0 0) [.ref 1, .int 3] h151 (fun h154 => Wf h154 ∧ (K h154)))))) ∧ (r69 = 120 → Cv (m_X12_say (d + 0) 0 0) [.ref 1, .int 0] h133 (fun h157 => Wf h157 ∧ (Cv (m_X12_say (d + 0) 0 0) [.ref 1, .int 3] h157 (fun h160 => Wf h160 ∧ (K h160)))))))) ∧ (¬ r69 = 114 → (r69 = 116 → Cv (m_X12_say (d + 0) 0 0) [.ref 1, .int 0] (h_im h67 1 33 ((h_i h67 1 33) + 1)) (fun h164 => Wf h164 ∧ ((¬ r69 = 120 → (¬ r69 = 110 → (¬ r69 = 114 → Cv (m_X12_say (d + 0) 0 0) [.ref 1, .int 3] h164 (fun h170 => Wf h170 ∧ (Cv (m_X12_say (d + 0) 0 0) [.ref 1, .int 3] h170 (fun h173 => Wf h173 ∧ (K h173))))) ∧ (r69 = 114 → Cv (m_X12_say (d + 0) 0 0) [.ref 1, .int 2] h164 (fun h176 => Wf h176 ∧ (Cv (m_X12_say (d + 0) 0 0) [.ref 1, .int 3] h176 (fun h179 => Wf h179 ∧ (K h179)))))) ∧ (r69 = 110 → Cv (m_X12_say (d + 0) 0 0) [.ref 1, .int 1] h164 (fun h182 => Wf h182 ∧ (Cv (m_X12_say (d + 0) 0 0) [.ref 1, .int 3] h182 (fun h185 => Wf h185 ∧ (K h185)))))) ∧ (r69 = 120 → Cv (m_X12_say (d + 0) 0 0) [.ref 1, .int 0] h164 (fun h188 => Wf h188 ∧ (Cv (m_X12_say (d + 0) 0 0) [.ref 1, .int 3] h188 (fun h191 => Wf h191 ∧ (K h191)))))))) ∧ (¬ r69 = 116 → Cv (m_X12_bad (d + 0) 0 0) [.ref 1] h67 (fun h194 => Wf h194 ∧ (K h194))))))))) ∧ (¬ (h_i h63 1 34) = (-1) → K h63))))))))) : Cv (m_X12_clause (d + 58) 0 0) [.ref 1] h K := by
  refine Ct.of (fun _ _ _ => trivial) rfl (Nat.le_of_ble_eq_true rfl) ?_
  show AW (m_X12_clause (d + 58) 0 0) 0 0 0 [(0, .ref 1)] [] h (kV K)
  refine aw_aload_n (i := 0) rfl d_X12_clause_0 0 rfl ?_
  refine aw_Vi 1 [] [] d_X12_clause_1 (cV_X12_look (d + 0) 0 0) kc_12 (ws_1 w) tw_2206 rfl (rr0 (Nat.le_of_ble_eq_true rfl) (Nat.le_of_ble_eq_true rfl)) (Nat.le_of_ble_eq_true rfl) xs0 k (fun r3 h1 kk => ?_)
  obtain ⟨w2, k⟩ := kk
  refine aw_istore_n (i := 1) rfl [(0, .ref 1), (1, .int r3)] d_X12_clause_4 (Nat.le_of_ble_eq_true rfl) rfl rfl ?_
  refine aw_aload_n (i := 0) rfl d_X12_clause_5 0 rfl ?_
  refine aw_geti (k0 := 37) kc_12 (ws_1 w2) (Nat.le_of_ble_eq_true rfl) tw_1779 d_X12_clause_6 rfl ?_
  refine aw_iconst (v := 1) d_X12_clause_9 ic_1 ?_
  refine aw_icmp_ne (tgt := 121) d_X12_clause_10 rfl (fun c4 => ?_) (fun c4 => ?_)
  · have k := k.1 c4
    refine aw_iload_n (i := 1) rfl d_X12_clause_121 1 rfl ?_
    refine aw_bipush (v := 33) d_X12_clause_122 ib_33 ?_
    refine aw_icmp_eq (tgt := 137) d_X12_clause_124 rfl (fun c5 => ?_) (fun c5 => ?_)
    · have k := k.1 c5
      refine aw_iconst (v := 0) d_X12_clause_137 ic_0 ?_
      refine aw_istore_n (i := 2) rfl [(0, .ref 1), (1, .int r3), (2, .int 0)] d_X12_clause_138 (Nat.le_of_ble_eq_true rfl) rfl rfl ?_
      refine aw_iload_n (i := 2) rfl d_X12_clause_139 2 rfl ?_
      refine aw_if_eq (tgt := 248) d_X12_clause_140 rfl (fun _ => ?_) (fun c => absurd c (by decide))
      refine aw_aload_n (i := 0) rfl d_X12_clause_248 0 rfl ?_
      refine aw_iload_n (i := 2) rfl d_X12_clause_249 2 rfl ?_
      refine aw_Vv 1 [.int 0] [] d_X12_clause_250 (cV_X12_condition (d + 57) 0 0) kc_12 (ws_1 w2) tw_2233 rfl (rr0 (Nat.le_of_ble_eq_true rfl) (Nat.le_of_ble_eq_true rfl)) (Nat.le_of_ble_eq_true rfl) xs0 k (fun h7 kk => ?_)
      obtain ⟨w8, k⟩ := kk
      refine aw_aload_n (i := 0) rfl d_X12_clause_253 0 rfl ?_
      refine aw_Vv 1 [] [] d_X12_clause_254 (cV_X12_ask (d + 1) 0 0) kc_12 (ws_1 w8) tw_2275 rfl (rr0 (Nat.le_of_ble_eq_true rfl) (Nat.le_of_ble_eq_true rfl)) (Nat.le_of_ble_eq_true rfl) xs0 k (fun h10 kk => ?_)
      obtain ⟨w11, k⟩ := kk
      refine aw_aload_n (i := 0) rfl d_X12_clause_257 0 rfl ?_
      refine aw_geti (k0 := 34) kc_12 (ws_1 w11) (Nat.le_of_ble_eq_true rfl) tw_1776 d_X12_clause_258 rfl ?_
      refine aw_iconst (v := (-1)) d_X12_clause_261 ic_m1 ?_
      refine aw_icmp_ne (tgt := 274) d_X12_clause_262 rfl (fun c13 => ?_) (fun c13 => ?_)
      · have k := k.1 c13
        exact aw_vret rfl d_X12_clause_274 ⟨Nat.le_refl _, Nat.le_refl _⟩ ⟨rfl, k⟩
      · have k := k.2 c13
        refine aw_aload_n (i := 0) rfl d_X12_clause_265 0 rfl ?_
        refine aw_Vv 1 [] [] d_X12_clause_266 (cV_X12_sum (d + 53) 0 0) kc_12 (ws_1 w11) tw_2248 rfl (rr0 (Nat.le_of_ble_eq_true rfl) (Nat.le_of_ble_eq_true rfl)) (Nat.le_of_ble_eq_true rfl) xs0 k (fun h14 kk => ?_)
        obtain ⟨w15, k⟩ := kk
        refine aw_aload_n (i := 0) rfl d_X12_clause_269 0 rfl ?_
        refine aw_iconst (v := 3) d_X12_clause_270 ic_3 ?_
        refine aw_Vv 1 [.int 3] [] d_X12_clause_271 (cV_X12_say (d + 0) 0 0) kc_12 (ws_1 w15) tw_2210 rfl (rr0 (Nat.le_of_ble_eq_true rfl) (Nat.le_of_ble_eq_true rfl)) (Nat.le_of_ble_eq_true rfl) xs0 k (fun h17 kk => ?_)
        obtain ⟨w18, k⟩ := kk
        exact aw_vret rfl d_X12_clause_274 ⟨Nat.le_refl _, Nat.le_refl _⟩ ⟨rfl, k⟩
    · have k := k.2 c5
      refine aw_iload_n (i := 1) rfl d_X12_clause_127 1 rfl ?_
      refine aw_bipush (v := 40) d_X12_clause_128 ib_40 ?_
      refine aw_icmp_eq (tgt := 137) d_X12_clause_130 rfl (fun c20 => ?_) (fun c20 => ?_)
      · have k := k.1 c20
        refine aw_iconst (v := 0) d_X12_clause_137 ic_0 ?_
        refine aw_istore_n (i := 2) rfl [(0, .ref 1), (1, .int r3), (2, .int 0)] d_X12_clause_138 (Nat.le_of_ble_eq_true rfl) rfl rfl ?_
        refine aw_iload_n (i := 2) rfl d_X12_clause_139 2 rfl ?_
        refine aw_if_eq (tgt := 248) d_X12_clause_140 rfl (fun _ => ?_) (fun c => absurd c (by decide))
        refine aw_aload_n (i := 0) rfl d_X12_clause_248 0 rfl ?_
        refine aw_iload_n (i := 2) rfl d_X12_clause_249 2 rfl ?_
        refine aw_Vv 1 [.int 0] [] d_X12_clause_250 (cV_X12_condition (d + 57) 0 0) kc_12 (ws_1 w2) tw_2233 rfl (rr0 (Nat.le_of_ble_eq_true rfl) (Nat.le_of_ble_eq_true rfl)) (Nat.le_of_ble_eq_true rfl) xs0 k (fun h22 kk => ?_)
        obtain ⟨w23, k⟩ := kk
        refine aw_aload_n (i := 0) rfl d_X12_clause_253 0 rfl ?_
        refine aw_Vv 1 [] [] d_X12_clause_254 (cV_X12_ask (d + 1) 0 0) kc_12 (ws_1 w23) tw_2275 rfl (rr0 (Nat.le_of_ble_eq_true rfl) (Nat.le_of_ble_eq_true rfl)) (Nat.le_of_ble_eq_true rfl) xs0 k (fun h25 kk => ?_)
        obtain ⟨w26, k⟩ := kk
        refine aw_aload_n (i := 0) rfl d_X12_clause_257 0 rfl ?_
        refine aw_geti (k0 := 34) kc_12 (ws_1 w26) (Nat.le_of_ble_eq_true rfl) tw_1776 d_X12_clause_258 rfl ?_
        refine aw_iconst (v := (-1)) d_X12_clause_261 ic_m1 ?_
        refine aw_icmp_ne (tgt := 274) d_X12_clause_262 rfl (fun c28 => ?_) (fun c28 => ?_)
        · have k := k.1 c28
          exact aw_vret rfl d_X12_clause_274 ⟨Nat.le_refl _, Nat.le_refl _⟩ ⟨rfl, k⟩
        · have k := k.2 c28
          refine aw_aload_n (i := 0) rfl d_X12_clause_265 0 rfl ?_
          refine aw_Vv 1 [] [] d_X12_clause_266 (cV_X12_sum (d + 53) 0 0) kc_12 (ws_1 w26) tw_2248 rfl (rr0 (Nat.le_of_ble_eq_true rfl) (Nat.le_of_ble_eq_true rfl)) (Nat.le_of_ble_eq_true rfl) xs0 k (fun h29 kk => ?_)
          obtain ⟨w30, k⟩ := kk
          refine aw_aload_n (i := 0) rfl d_X12_clause_269 0 rfl ?_
          refine aw_iconst (v := 3) d_X12_clause_270 ic_3 ?_
          refine aw_Vv 1 [.int 3] [] d_X12_clause_271 (cV_X12_say (d + 0) 0 0) kc_12 (ws_1 w30) tw_2210 rfl (rr0 (Nat.le_of_ble_eq_true rfl) (Nat.le_of_ble_eq_true rfl)) (Nat.le_of_ble_eq_true rfl) xs0 k (fun h32 kk => ?_)
          obtain ⟨w33, k⟩ := kk
          exact aw_vret rfl d_X12_clause_274 ⟨Nat.le_refl _, Nat.le_refl _⟩ ⟨rfl, k⟩
      · have k := k.2 c20
        refine aw_iconst (v := 1) d_X12_clause_133 ic_1 ?_
        refine aw_goto (tgt := 138) d_X12_clause_134 rfl ?_
        refine aw_istore_n (i := 2) rfl [(0, .ref 1), (1, .int r3), (2, .int 1)] d_X12_clause_138 (Nat.le_of_ble_eq_true rfl) rfl rfl ?_
        refine aw_iload_n (i := 2) rfl d_X12_clause_139 2 rfl ?_
        refine aw_if_eq (tgt := 248) d_X12_clause_140 rfl (fun c => absurd c (by decide)) (fun _ => ?_)
        refine aw_aload_n (i := 0) rfl d_X12_clause_143 0 rfl ?_
        refine aw_geti (k0 := 36) kc_12 (ws_1 w2) (Nat.le_of_ble_eq_true rfl) tw_1778 d_X12_clause_144 rfl ?_
        refine aw_istore_n (i := 3) rfl [(0, .ref 1), (1, .int r3), (2, .int 1), (3, .int (h_i h1 1 36))] d_X12_clause_147 (Nat.le_of_ble_eq_true rfl) rfl rfl ?_
        refine aw_aload_n (i := 0) rfl d_X12_clause_148 0 rfl ?_
        refine aw_Vv 1 [] [] d_X12_clause_149 (cV_X12_sum (d + 53) 0 0) kc_12 (ws_1 w2) tw_2248 rfl (rr0 (Nat.le_of_ble_eq_true rfl) (Nat.le_of_ble_eq_true rfl)) (Nat.le_of_ble_eq_true rfl) xs0 k (fun h36 kk => ?_)
        obtain ⟨w37, k⟩ := kk
        refine aw_aload_n (i := 0) rfl d_X12_clause_152 0 rfl ?_
        refine aw_geti (k0 := 34) kc_12 (ws_1 w37) (Nat.le_of_ble_eq_true rfl) tw_1776 d_X12_clause_153 rfl ?_
        refine aw_iconst (v := (-1)) d_X12_clause_156 ic_m1 ?_
        refine aw_icmp_eq (tgt := 161) d_X12_clause_157 rfl (fun c39 => ?_) (fun c39 => ?_)
        · have k := k.1 c39
          refine aw_aload_n (i := 0) rfl d_X12_clause_161 0 rfl ?_
          refine aw_Vi 1 [] [] d_X12_clause_162 (cV_X12_look (d + 0) 0 0) kc_12 (ws_1 w37) tw_2206 rfl (rr0 (Nat.le_of_ble_eq_true rfl) (Nat.le_of_ble_eq_true rfl)) (Nat.le_of_ble_eq_true rfl) xs0 k (fun r42 h40 kk => ?_)
          obtain ⟨w41, k⟩ := kk
          refine aw_Si [.int r42] [] d_X12_clause_165 (cS_X12_isSign (d + 0) 0 0) tw_2245 rfl (rr0 (Nat.le_of_ble_eq_true rfl) (Nat.le_of_ble_eq_true rfl)) (Nat.le_of_ble_eq_true rfl) xs0 k (fun r45 h43 kk => ?_)
          obtain ⟨w44, k⟩ := kk
          refine aw_if_ne (tgt := 248) d_X12_clause_168 rfl (fun c46 => ?_) (fun c46 => ?_)
          · have k := k.1 c46
            refine aw_aload_n (i := 0) rfl d_X12_clause_248 0 rfl ?_
            refine aw_iload_n (i := 2) rfl d_X12_clause_249 2 rfl ?_
            refine aw_Vv 1 [.int 1] [] d_X12_clause_250 (cV_X12_condition (d + 57) 0 0) kc_12 (ws_1 w44) tw_2233 rfl (rr0 (Nat.le_of_ble_eq_true rfl) (Nat.le_of_ble_eq_true rfl)) (Nat.le_of_ble_eq_true rfl) xs0 k (fun h47 kk => ?_)
            obtain ⟨w48, k⟩ := kk
            refine aw_aload_n (i := 0) rfl d_X12_clause_253 0 rfl ?_
            refine aw_Vv 1 [] [] d_X12_clause_254 (cV_X12_ask (d + 1) 0 0) kc_12 (ws_1 w48) tw_2275 rfl (rr0 (Nat.le_of_ble_eq_true rfl) (Nat.le_of_ble_eq_true rfl)) (Nat.le_of_ble_eq_true rfl) xs0 k (fun h50 kk => ?_)
            obtain ⟨w51, k⟩ := kk
            refine aw_aload_n (i := 0) rfl d_X12_clause_257 0 rfl ?_
            refine aw_geti (k0 := 34) kc_12 (ws_1 w51) (Nat.le_of_ble_eq_true rfl) tw_1776 d_X12_clause_258 rfl ?_
            refine aw_iconst (v := (-1)) d_X12_clause_261 ic_m1 ?_
            refine aw_icmp_ne (tgt := 274) d_X12_clause_262 rfl (fun c53 => ?_) (fun c53 => ?_)
            · have k := k.1 c53
              exact aw_vret rfl d_X12_clause_274 ⟨Nat.le_refl _, Nat.le_refl _⟩ ⟨rfl, k⟩
            · have k := k.2 c53
              refine aw_aload_n (i := 0) rfl d_X12_clause_265 0 rfl ?_
              refine aw_Vv 1 [] [] d_X12_clause_266 (cV_X12_sum (d + 53) 0 0) kc_12 (ws_1 w51) tw_2248 rfl (rr0 (Nat.le_of_ble_eq_true rfl) (Nat.le_of_ble_eq_true rfl)) (Nat.le_of_ble_eq_true rfl) xs0 k (fun h54 kk => ?_)
              obtain ⟨w55, k⟩ := kk
              refine aw_aload_n (i := 0) rfl d_X12_clause_269 0 rfl ?_
              refine aw_iconst (v := 3) d_X12_clause_270 ic_3 ?_
              refine aw_Vv 1 [.int 3] [] d_X12_clause_271 (cV_X12_say (d + 0) 0 0) kc_12 (ws_1 w55) tw_2210 rfl (rr0 (Nat.le_of_ble_eq_true rfl) (Nat.le_of_ble_eq_true rfl)) (Nat.le_of_ble_eq_true rfl) xs0 k (fun h57 kk => ?_)
              obtain ⟨w58, k⟩ := kk
              exact aw_vret rfl d_X12_clause_274 ⟨Nat.le_refl _, Nat.le_refl _⟩ ⟨rfl, k⟩
          · have k := k.2 c46
            refine aw_aload_n (i := 0) rfl d_X12_clause_171 0 rfl ?_
            refine aw_geti (k0 := 36) kc_12 (ws_1 w44) (Nat.le_of_ble_eq_true rfl) tw_1778 d_X12_clause_172 rfl ?_
            refine aw_iconst (v := 1) d_X12_clause_175 ic_1 ?_
            refine aw_isub d_X12_clause_176 ?_
            refine aw_istore [(0, .ref 1), (1, .int r3), (2, .int 1), (3, .int (h_i h1 1 36)), (4, .int ((h_i h43 1 36) - 1))] d_X12_clause_177 (Nat.le_of_ble_eq_true rfl) rfl rfl ?_
            exact aw_lvp [0, 3, 4] [(0, .ref 1), (3, .int (h_i h1 1 36)), (4, .int ((h_i h43 1 36) - 1))] rfl k
        · have k := k.2 c39
          exact aw_vret rfl d_X12_clause_160 ⟨Nat.le_refl _, Nat.le_refl _⟩ ⟨rfl, k⟩
  · have k := k.2 c4
    refine aw_aload_n (i := 0) rfl d_X12_clause_13 0 rfl ?_
    refine aw_iconst (v := 0) d_X12_clause_14 ic_0 ?_
    refine aw_Vv 1 [.int 0] [] d_X12_clause_15 (cV_X12_condition (d + 57) 0 0) kc_12 (ws_1 w2) tw_2233 rfl (rr0 (Nat.le_of_ble_eq_true rfl) (Nat.le_of_ble_eq_true rfl)) (Nat.le_of_ble_eq_true rfl) xs0 k (fun h60 kk => ?_)
    obtain ⟨w61, k⟩ := kk
    refine aw_aload_n (i := 0) rfl d_X12_clause_18 0 rfl ?_
    refine aw_Vv 1 [] [] d_X12_clause_19 (cV_X12_ask (d + 1) 0 0) kc_12 (ws_1 w61) tw_2275 rfl (rr0 (Nat.le_of_ble_eq_true rfl) (Nat.le_of_ble_eq_true rfl)) (Nat.le_of_ble_eq_true rfl) xs0 k (fun h63 kk => ?_)
    obtain ⟨w64, k⟩ := kk
    refine aw_aload_n (i := 0) rfl d_X12_clause_22 0 rfl ?_
    refine aw_geti (k0 := 34) kc_12 (ws_1 w64) (Nat.le_of_ble_eq_true rfl) tw_1776 d_X12_clause_23 rfl ?_
    refine aw_iconst (v := (-1)) d_X12_clause_26 ic_m1 ?_
    refine aw_icmp_eq (tgt := 31) d_X12_clause_27 rfl (fun c66 => ?_) (fun c66 => ?_)
    · have k := k.1 c66
      refine aw_aload_n (i := 0) rfl d_X12_clause_31 0 rfl ?_
      refine aw_Vi 1 [] [] d_X12_clause_32 (cV_X12_look (d + 0) 0 0) kc_12 (ws_1 w64) tw_2206 rfl (rr0 (Nat.le_of_ble_eq_true rfl) (Nat.le_of_ble_eq_true rfl)) (Nat.le_of_ble_eq_true rfl) xs0 k (fun r69 h67 kk => ?_)
      obtain ⟨w68, k⟩ := kk
      refine aw_istore_n (i := 2) rfl [(0, .ref 1), (1, .int r3), (2, .int r69)] d_X12_clause_35 (Nat.le_of_ble_eq_true rfl) rfl rfl ?_
      refine aw_iload_n (i := 2) rfl d_X12_clause_36 2 rfl ?_
      refine aw_bipush (v := 120) d_X12_clause_37 ib_120 ?_
      refine aw_icmp_eq (tgt := 65) d_X12_clause_39 rfl (fun c70 => ?_) (fun c70 => ?_)
      · have k := k.1 c70
        refine aw_aload_n (i := 0) rfl d_X12_clause_65 0 rfl ?_
        refine aw_dup d_X12_clause_66 rfl ?_
        refine aw_geti (k0 := 33) kc_12 (ws_1 w68) (Nat.le_of_ble_eq_true rfl) tw_1775 d_X12_clause_67 rfl ?_
        refine aw_iconst (v := 1) d_X12_clause_70 ic_1 ?_
        refine aw_iadd d_X12_clause_71 ?_
        refine aw_puti (k0 := 33) kc_12 (ws_1 w68) (Nat.le_of_ble_eq_true rfl) tw_1775 d_X12_clause_72 rfl rfl nf_i ?_
        refine aw_aload_n (i := 0) rfl d_X12_clause_75 0 rfl ?_
        refine aw_iconst (v := 0) d_X12_clause_76 ic_0 ?_
        refine aw_Vv 1 [.int 0] [] d_X12_clause_77 (cV_X12_say (d + 0) 0 0) kc_12 (ws_1 w68) tw_2210 rfl (rr0 (Nat.le_of_ble_eq_true rfl) (Nat.le_of_ble_eq_true rfl)) (Nat.le_of_ble_eq_true rfl) xs0 k (fun h71 kk => ?_)
        obtain ⟨w72, k⟩ := kk
        refine aw_aload_n (i := 0) rfl d_X12_clause_80 0 rfl ?_
        refine aw_iload_n (i := 2) rfl d_X12_clause_81 2 rfl ?_
        refine aw_bipush (v := 120) d_X12_clause_82 ib_120 ?_
        refine aw_icmp_ne (tgt := 91) d_X12_clause_84 rfl (fun c74 => ?_) (fun c74 => ?_)
        · have k := k.1 c74
          refine aw_iload_n (i := 2) rfl d_X12_clause_91 2 rfl ?_
          refine aw_bipush (v := 110) d_X12_clause_92 ib_110 ?_
          refine aw_icmp_ne (tgt := 101) d_X12_clause_94 rfl (fun c75 => ?_) (fun c75 => ?_)
          · have k := k.1 c75
            refine aw_iload_n (i := 2) rfl d_X12_clause_101 2 rfl ?_
            refine aw_bipush (v := 114) d_X12_clause_102 ib_114 ?_
            refine aw_icmp_ne (tgt := 111) d_X12_clause_104 rfl (fun c76 => ?_) (fun c76 => ?_)
            · have k := k.1 c76
              refine aw_iconst (v := 3) d_X12_clause_111 ic_3 ?_
              refine aw_Vv 1 [.int 3] [] d_X12_clause_112 (cV_X12_say (d + 0) 0 0) kc_12 (ws_1 w72) tw_2210 rfl (rr0 (Nat.le_of_ble_eq_true rfl) (Nat.le_of_ble_eq_true rfl)) (Nat.le_of_ble_eq_true rfl) xs0 k (fun h77 kk => ?_)
              obtain ⟨w78, k⟩ := kk
              refine aw_aload_n (i := 0) rfl d_X12_clause_115 0 rfl ?_
              refine aw_iconst (v := 3) d_X12_clause_116 ic_3 ?_
              refine aw_Vv 1 [.int 3] [] d_X12_clause_117 (cV_X12_say (d + 0) 0 0) kc_12 (ws_1 w78) tw_2210 rfl (rr0 (Nat.le_of_ble_eq_true rfl) (Nat.le_of_ble_eq_true rfl)) (Nat.le_of_ble_eq_true rfl) xs0 k (fun h80 kk => ?_)
              obtain ⟨w81, k⟩ := kk
              exact aw_vret rfl d_X12_clause_120 ⟨Nat.le_refl _, Nat.le_refl _⟩ ⟨rfl, k⟩
            · have k := k.2 c76
              refine aw_iconst (v := 2) d_X12_clause_107 ic_2 ?_
              refine aw_goto (tgt := 112) d_X12_clause_108 rfl ?_
              refine aw_Vv 1 [.int 2] [] d_X12_clause_112 (cV_X12_say (d + 0) 0 0) kc_12 (ws_1 w72) tw_2210 rfl (rr0 (Nat.le_of_ble_eq_true rfl) (Nat.le_of_ble_eq_true rfl)) (Nat.le_of_ble_eq_true rfl) xs0 k (fun h83 kk => ?_)
              obtain ⟨w84, k⟩ := kk
              refine aw_aload_n (i := 0) rfl d_X12_clause_115 0 rfl ?_
              refine aw_iconst (v := 3) d_X12_clause_116 ic_3 ?_
              refine aw_Vv 1 [.int 3] [] d_X12_clause_117 (cV_X12_say (d + 0) 0 0) kc_12 (ws_1 w84) tw_2210 rfl (rr0 (Nat.le_of_ble_eq_true rfl) (Nat.le_of_ble_eq_true rfl)) (Nat.le_of_ble_eq_true rfl) xs0 k (fun h86 kk => ?_)
              obtain ⟨w87, k⟩ := kk
              exact aw_vret rfl d_X12_clause_120 ⟨Nat.le_refl _, Nat.le_refl _⟩ ⟨rfl, k⟩
          · have k := k.2 c75
            refine aw_iconst (v := 1) d_X12_clause_97 ic_1 ?_
            refine aw_goto (tgt := 112) d_X12_clause_98 rfl ?_
            refine aw_Vv 1 [.int 1] [] d_X12_clause_112 (cV_X12_say (d + 0) 0 0) kc_12 (ws_1 w72) tw_2210 rfl (rr0 (Nat.le_of_ble_eq_true rfl) (Nat.le_of_ble_eq_true rfl)) (Nat.le_of_ble_eq_true rfl) xs0 k (fun h89 kk => ?_)
            obtain ⟨w90, k⟩ := kk
            refine aw_aload_n (i := 0) rfl d_X12_clause_115 0 rfl ?_
            refine aw_iconst (v := 3) d_X12_clause_116 ic_3 ?_
            refine aw_Vv 1 [.int 3] [] d_X12_clause_117 (cV_X12_say (d + 0) 0 0) kc_12 (ws_1 w90) tw_2210 rfl (rr0 (Nat.le_of_ble_eq_true rfl) (Nat.le_of_ble_eq_true rfl)) (Nat.le_of_ble_eq_true rfl) xs0 k (fun h92 kk => ?_)
            obtain ⟨w93, k⟩ := kk
            exact aw_vret rfl d_X12_clause_120 ⟨Nat.le_refl _, Nat.le_refl _⟩ ⟨rfl, k⟩
        · have k := k.2 c74
          refine aw_iconst (v := 0) d_X12_clause_87 ic_0 ?_
          refine aw_goto (tgt := 112) d_X12_clause_88 rfl ?_
          refine aw_Vv 1 [.int 0] [] d_X12_clause_112 (cV_X12_say (d + 0) 0 0) kc_12 (ws_1 w72) tw_2210 rfl (rr0 (Nat.le_of_ble_eq_true rfl) (Nat.le_of_ble_eq_true rfl)) (Nat.le_of_ble_eq_true rfl) xs0 k (fun h95 kk => ?_)
          obtain ⟨w96, k⟩ := kk
          refine aw_aload_n (i := 0) rfl d_X12_clause_115 0 rfl ?_
          refine aw_iconst (v := 3) d_X12_clause_116 ic_3 ?_
          refine aw_Vv 1 [.int 3] [] d_X12_clause_117 (cV_X12_say (d + 0) 0 0) kc_12 (ws_1 w96) tw_2210 rfl (rr0 (Nat.le_of_ble_eq_true rfl) (Nat.le_of_ble_eq_true rfl)) (Nat.le_of_ble_eq_true rfl) xs0 k (fun h98 kk => ?_)
          obtain ⟨w99, k⟩ := kk
          exact aw_vret rfl d_X12_clause_120 ⟨Nat.le_refl _, Nat.le_refl _⟩ ⟨rfl, k⟩
      · have k := k.2 c70
        refine aw_iload_n (i := 2) rfl d_X12_clause_42 2 rfl ?_
        refine aw_bipush (v := 110) d_X12_clause_43 ib_110 ?_
        refine aw_icmp_eq (tgt := 65) d_X12_clause_45 rfl (fun c101 => ?_) (fun c101 => ?_)
        · have k := k.1 c101
          refine aw_aload_n (i := 0) rfl d_X12_clause_65 0 rfl ?_
          refine aw_dup d_X12_clause_66 rfl ?_
          refine aw_geti (k0 := 33) kc_12 (ws_1 w68) (Nat.le_of_ble_eq_true rfl) tw_1775 d_X12_clause_67 rfl ?_
          refine aw_iconst (v := 1) d_X12_clause_70 ic_1 ?_
          refine aw_iadd d_X12_clause_71 ?_
          refine aw_puti (k0 := 33) kc_12 (ws_1 w68) (Nat.le_of_ble_eq_true rfl) tw_1775 d_X12_clause_72 rfl rfl nf_i ?_
          refine aw_aload_n (i := 0) rfl d_X12_clause_75 0 rfl ?_
          refine aw_iconst (v := 0) d_X12_clause_76 ic_0 ?_
          refine aw_Vv 1 [.int 0] [] d_X12_clause_77 (cV_X12_say (d + 0) 0 0) kc_12 (ws_1 w68) tw_2210 rfl (rr0 (Nat.le_of_ble_eq_true rfl) (Nat.le_of_ble_eq_true rfl)) (Nat.le_of_ble_eq_true rfl) xs0 k (fun h102 kk => ?_)
          obtain ⟨w103, k⟩ := kk
          refine aw_aload_n (i := 0) rfl d_X12_clause_80 0 rfl ?_
          refine aw_iload_n (i := 2) rfl d_X12_clause_81 2 rfl ?_
          refine aw_bipush (v := 120) d_X12_clause_82 ib_120 ?_
          refine aw_icmp_ne (tgt := 91) d_X12_clause_84 rfl (fun c105 => ?_) (fun c105 => ?_)
          · have k := k.1 c105
            refine aw_iload_n (i := 2) rfl d_X12_clause_91 2 rfl ?_
            refine aw_bipush (v := 110) d_X12_clause_92 ib_110 ?_
            refine aw_icmp_ne (tgt := 101) d_X12_clause_94 rfl (fun c106 => ?_) (fun c106 => ?_)
            · have k := k.1 c106
              refine aw_iload_n (i := 2) rfl d_X12_clause_101 2 rfl ?_
              refine aw_bipush (v := 114) d_X12_clause_102 ib_114 ?_
              refine aw_icmp_ne (tgt := 111) d_X12_clause_104 rfl (fun c107 => ?_) (fun c107 => ?_)
              · have k := k.1 c107
                refine aw_iconst (v := 3) d_X12_clause_111 ic_3 ?_
                refine aw_Vv 1 [.int 3] [] d_X12_clause_112 (cV_X12_say (d + 0) 0 0) kc_12 (ws_1 w103) tw_2210 rfl (rr0 (Nat.le_of_ble_eq_true rfl) (Nat.le_of_ble_eq_true rfl)) (Nat.le_of_ble_eq_true rfl) xs0 k (fun h108 kk => ?_)
                obtain ⟨w109, k⟩ := kk
                refine aw_aload_n (i := 0) rfl d_X12_clause_115 0 rfl ?_
                refine aw_iconst (v := 3) d_X12_clause_116 ic_3 ?_
                refine aw_Vv 1 [.int 3] [] d_X12_clause_117 (cV_X12_say (d + 0) 0 0) kc_12 (ws_1 w109) tw_2210 rfl (rr0 (Nat.le_of_ble_eq_true rfl) (Nat.le_of_ble_eq_true rfl)) (Nat.le_of_ble_eq_true rfl) xs0 k (fun h111 kk => ?_)
                obtain ⟨w112, k⟩ := kk
                exact aw_vret rfl d_X12_clause_120 ⟨Nat.le_refl _, Nat.le_refl _⟩ ⟨rfl, k⟩
              · have k := k.2 c107
                refine aw_iconst (v := 2) d_X12_clause_107 ic_2 ?_
                refine aw_goto (tgt := 112) d_X12_clause_108 rfl ?_
                refine aw_Vv 1 [.int 2] [] d_X12_clause_112 (cV_X12_say (d + 0) 0 0) kc_12 (ws_1 w103) tw_2210 rfl (rr0 (Nat.le_of_ble_eq_true rfl) (Nat.le_of_ble_eq_true rfl)) (Nat.le_of_ble_eq_true rfl) xs0 k (fun h114 kk => ?_)
                obtain ⟨w115, k⟩ := kk
                refine aw_aload_n (i := 0) rfl d_X12_clause_115 0 rfl ?_
                refine aw_iconst (v := 3) d_X12_clause_116 ic_3 ?_
                refine aw_Vv 1 [.int 3] [] d_X12_clause_117 (cV_X12_say (d + 0) 0 0) kc_12 (ws_1 w115) tw_2210 rfl (rr0 (Nat.le_of_ble_eq_true rfl) (Nat.le_of_ble_eq_true rfl)) (Nat.le_of_ble_eq_true rfl) xs0 k (fun h117 kk => ?_)
                obtain ⟨w118, k⟩ := kk
                exact aw_vret rfl d_X12_clause_120 ⟨Nat.le_refl _, Nat.le_refl _⟩ ⟨rfl, k⟩
            · have k := k.2 c106
              refine aw_iconst (v := 1) d_X12_clause_97 ic_1 ?_
              refine aw_goto (tgt := 112) d_X12_clause_98 rfl ?_
              refine aw_Vv 1 [.int 1] [] d_X12_clause_112 (cV_X12_say (d + 0) 0 0) kc_12 (ws_1 w103) tw_2210 rfl (rr0 (Nat.le_of_ble_eq_true rfl) (Nat.le_of_ble_eq_true rfl)) (Nat.le_of_ble_eq_true rfl) xs0 k (fun h120 kk => ?_)
              obtain ⟨w121, k⟩ := kk
              refine aw_aload_n (i := 0) rfl d_X12_clause_115 0 rfl ?_
              refine aw_iconst (v := 3) d_X12_clause_116 ic_3 ?_
              refine aw_Vv 1 [.int 3] [] d_X12_clause_117 (cV_X12_say (d + 0) 0 0) kc_12 (ws_1 w121) tw_2210 rfl (rr0 (Nat.le_of_ble_eq_true rfl) (Nat.le_of_ble_eq_true rfl)) (Nat.le_of_ble_eq_true rfl) xs0 k (fun h123 kk => ?_)
              obtain ⟨w124, k⟩ := kk
              exact aw_vret rfl d_X12_clause_120 ⟨Nat.le_refl _, Nat.le_refl _⟩ ⟨rfl, k⟩
          · have k := k.2 c105
            refine aw_iconst (v := 0) d_X12_clause_87 ic_0 ?_
            refine aw_goto (tgt := 112) d_X12_clause_88 rfl ?_
            refine aw_Vv 1 [.int 0] [] d_X12_clause_112 (cV_X12_say (d + 0) 0 0) kc_12 (ws_1 w103) tw_2210 rfl (rr0 (Nat.le_of_ble_eq_true rfl) (Nat.le_of_ble_eq_true rfl)) (Nat.le_of_ble_eq_true rfl) xs0 k (fun h126 kk => ?_)
            obtain ⟨w127, k⟩ := kk
            refine aw_aload_n (i := 0) rfl d_X12_clause_115 0 rfl ?_
            refine aw_iconst (v := 3) d_X12_clause_116 ic_3 ?_
            refine aw_Vv 1 [.int 3] [] d_X12_clause_117 (cV_X12_say (d + 0) 0 0) kc_12 (ws_1 w127) tw_2210 rfl (rr0 (Nat.le_of_ble_eq_true rfl) (Nat.le_of_ble_eq_true rfl)) (Nat.le_of_ble_eq_true rfl) xs0 k (fun h129 kk => ?_)
            obtain ⟨w130, k⟩ := kk
            exact aw_vret rfl d_X12_clause_120 ⟨Nat.le_refl _, Nat.le_refl _⟩ ⟨rfl, k⟩
        · have k := k.2 c101
          refine aw_iload_n (i := 2) rfl d_X12_clause_48 2 rfl ?_
          refine aw_bipush (v := 114) d_X12_clause_49 ib_114 ?_
          refine aw_icmp_eq (tgt := 65) d_X12_clause_51 rfl (fun c132 => ?_) (fun c132 => ?_)
          · have k := k.1 c132
            refine aw_aload_n (i := 0) rfl d_X12_clause_65 0 rfl ?_
            refine aw_dup d_X12_clause_66 rfl ?_
            refine aw_geti (k0 := 33) kc_12 (ws_1 w68) (Nat.le_of_ble_eq_true rfl) tw_1775 d_X12_clause_67 rfl ?_
            refine aw_iconst (v := 1) d_X12_clause_70 ic_1 ?_
            refine aw_iadd d_X12_clause_71 ?_
            refine aw_puti (k0 := 33) kc_12 (ws_1 w68) (Nat.le_of_ble_eq_true rfl) tw_1775 d_X12_clause_72 rfl rfl nf_i ?_
            refine aw_aload_n (i := 0) rfl d_X12_clause_75 0 rfl ?_
            refine aw_iconst (v := 0) d_X12_clause_76 ic_0 ?_
            refine aw_Vv 1 [.int 0] [] d_X12_clause_77 (cV_X12_say (d + 0) 0 0) kc_12 (ws_1 w68) tw_2210 rfl (rr0 (Nat.le_of_ble_eq_true rfl) (Nat.le_of_ble_eq_true rfl)) (Nat.le_of_ble_eq_true rfl) xs0 k (fun h133 kk => ?_)
            obtain ⟨w134, k⟩ := kk
            refine aw_aload_n (i := 0) rfl d_X12_clause_80 0 rfl ?_
            refine aw_iload_n (i := 2) rfl d_X12_clause_81 2 rfl ?_
            refine aw_bipush (v := 120) d_X12_clause_82 ib_120 ?_
            refine aw_icmp_ne (tgt := 91) d_X12_clause_84 rfl (fun c136 => ?_) (fun c136 => ?_)
            · have k := k.1 c136
              refine aw_iload_n (i := 2) rfl d_X12_clause_91 2 rfl ?_
              refine aw_bipush (v := 110) d_X12_clause_92 ib_110 ?_
              refine aw_icmp_ne (tgt := 101) d_X12_clause_94 rfl (fun c137 => ?_) (fun c137 => ?_)
              · have k := k.1 c137
                refine aw_iload_n (i := 2) rfl d_X12_clause_101 2 rfl ?_
                refine aw_bipush (v := 114) d_X12_clause_102 ib_114 ?_
                refine aw_icmp_ne (tgt := 111) d_X12_clause_104 rfl (fun c138 => ?_) (fun c138 => ?_)
                · have k := k.1 c138
                  refine aw_iconst (v := 3) d_X12_clause_111 ic_3 ?_
                  refine aw_Vv 1 [.int 3] [] d_X12_clause_112 (cV_X12_say (d + 0) 0 0) kc_12 (ws_1 w134) tw_2210 rfl (rr0 (Nat.le_of_ble_eq_true rfl) (Nat.le_of_ble_eq_true rfl)) (Nat.le_of_ble_eq_true rfl) xs0 k (fun h139 kk => ?_)
                  obtain ⟨w140, k⟩ := kk
                  refine aw_aload_n (i := 0) rfl d_X12_clause_115 0 rfl ?_
                  refine aw_iconst (v := 3) d_X12_clause_116 ic_3 ?_
                  refine aw_Vv 1 [.int 3] [] d_X12_clause_117 (cV_X12_say (d + 0) 0 0) kc_12 (ws_1 w140) tw_2210 rfl (rr0 (Nat.le_of_ble_eq_true rfl) (Nat.le_of_ble_eq_true rfl)) (Nat.le_of_ble_eq_true rfl) xs0 k (fun h142 kk => ?_)
                  obtain ⟨w143, k⟩ := kk
                  exact aw_vret rfl d_X12_clause_120 ⟨Nat.le_refl _, Nat.le_refl _⟩ ⟨rfl, k⟩
                · have k := k.2 c138
                  refine aw_iconst (v := 2) d_X12_clause_107 ic_2 ?_
                  refine aw_goto (tgt := 112) d_X12_clause_108 rfl ?_
                  refine aw_Vv 1 [.int 2] [] d_X12_clause_112 (cV_X12_say (d + 0) 0 0) kc_12 (ws_1 w134) tw_2210 rfl (rr0 (Nat.le_of_ble_eq_true rfl) (Nat.le_of_ble_eq_true rfl)) (Nat.le_of_ble_eq_true rfl) xs0 k (fun h145 kk => ?_)
                  obtain ⟨w146, k⟩ := kk
                  refine aw_aload_n (i := 0) rfl d_X12_clause_115 0 rfl ?_
                  refine aw_iconst (v := 3) d_X12_clause_116 ic_3 ?_
                  refine aw_Vv 1 [.int 3] [] d_X12_clause_117 (cV_X12_say (d + 0) 0 0) kc_12 (ws_1 w146) tw_2210 rfl (rr0 (Nat.le_of_ble_eq_true rfl) (Nat.le_of_ble_eq_true rfl)) (Nat.le_of_ble_eq_true rfl) xs0 k (fun h148 kk => ?_)
                  obtain ⟨w149, k⟩ := kk
                  exact aw_vret rfl d_X12_clause_120 ⟨Nat.le_refl _, Nat.le_refl _⟩ ⟨rfl, k⟩
              · have k := k.2 c137
                refine aw_iconst (v := 1) d_X12_clause_97 ic_1 ?_
                refine aw_goto (tgt := 112) d_X12_clause_98 rfl ?_
                refine aw_Vv 1 [.int 1] [] d_X12_clause_112 (cV_X12_say (d + 0) 0 0) kc_12 (ws_1 w134) tw_2210 rfl (rr0 (Nat.le_of_ble_eq_true rfl) (Nat.le_of_ble_eq_true rfl)) (Nat.le_of_ble_eq_true rfl) xs0 k (fun h151 kk => ?_)
                obtain ⟨w152, k⟩ := kk
                refine aw_aload_n (i := 0) rfl d_X12_clause_115 0 rfl ?_
                refine aw_iconst (v := 3) d_X12_clause_116 ic_3 ?_
                refine aw_Vv 1 [.int 3] [] d_X12_clause_117 (cV_X12_say (d + 0) 0 0) kc_12 (ws_1 w152) tw_2210 rfl (rr0 (Nat.le_of_ble_eq_true rfl) (Nat.le_of_ble_eq_true rfl)) (Nat.le_of_ble_eq_true rfl) xs0 k (fun h154 kk => ?_)
                obtain ⟨w155, k⟩ := kk
                exact aw_vret rfl d_X12_clause_120 ⟨Nat.le_refl _, Nat.le_refl _⟩ ⟨rfl, k⟩
            · have k := k.2 c136
              refine aw_iconst (v := 0) d_X12_clause_87 ic_0 ?_
              refine aw_goto (tgt := 112) d_X12_clause_88 rfl ?_
              refine aw_Vv 1 [.int 0] [] d_X12_clause_112 (cV_X12_say (d + 0) 0 0) kc_12 (ws_1 w134) tw_2210 rfl (rr0 (Nat.le_of_ble_eq_true rfl) (Nat.le_of_ble_eq_true rfl)) (Nat.le_of_ble_eq_true rfl) xs0 k (fun h157 kk => ?_)
              obtain ⟨w158, k⟩ := kk
              refine aw_aload_n (i := 0) rfl d_X12_clause_115 0 rfl ?_
              refine aw_iconst (v := 3) d_X12_clause_116 ic_3 ?_
              refine aw_Vv 1 [.int 3] [] d_X12_clause_117 (cV_X12_say (d + 0) 0 0) kc_12 (ws_1 w158) tw_2210 rfl (rr0 (Nat.le_of_ble_eq_true rfl) (Nat.le_of_ble_eq_true rfl)) (Nat.le_of_ble_eq_true rfl) xs0 k (fun h160 kk => ?_)
              obtain ⟨w161, k⟩ := kk
              exact aw_vret rfl d_X12_clause_120 ⟨Nat.le_refl _, Nat.le_refl _⟩ ⟨rfl, k⟩
          · have k := k.2 c132
            refine aw_iload_n (i := 2) rfl d_X12_clause_54 2 rfl ?_
            refine aw_bipush (v := 116) d_X12_clause_55 ib_116 ?_
            refine aw_icmp_eq (tgt := 65) d_X12_clause_57 rfl (fun c163 => ?_) (fun c163 => ?_)
            · have k := k.1 c163
              refine aw_aload_n (i := 0) rfl d_X12_clause_65 0 rfl ?_
              refine aw_dup d_X12_clause_66 rfl ?_
              refine aw_geti (k0 := 33) kc_12 (ws_1 w68) (Nat.le_of_ble_eq_true rfl) tw_1775 d_X12_clause_67 rfl ?_
              refine aw_iconst (v := 1) d_X12_clause_70 ic_1 ?_
              refine aw_iadd d_X12_clause_71 ?_
              refine aw_puti (k0 := 33) kc_12 (ws_1 w68) (Nat.le_of_ble_eq_true rfl) tw_1775 d_X12_clause_72 rfl rfl nf_i ?_
              refine aw_aload_n (i := 0) rfl d_X12_clause_75 0 rfl ?_
              refine aw_iconst (v := 0) d_X12_clause_76 ic_0 ?_
              refine aw_Vv 1 [.int 0] [] d_X12_clause_77 (cV_X12_say (d + 0) 0 0) kc_12 (ws_1 w68) tw_2210 rfl (rr0 (Nat.le_of_ble_eq_true rfl) (Nat.le_of_ble_eq_true rfl)) (Nat.le_of_ble_eq_true rfl) xs0 k (fun h164 kk => ?_)
              obtain ⟨w165, k⟩ := kk
              refine aw_aload_n (i := 0) rfl d_X12_clause_80 0 rfl ?_
              refine aw_iload_n (i := 2) rfl d_X12_clause_81 2 rfl ?_
              refine aw_bipush (v := 120) d_X12_clause_82 ib_120 ?_
              refine aw_icmp_ne (tgt := 91) d_X12_clause_84 rfl (fun c167 => ?_) (fun c167 => ?_)
              · have k := k.1 c167
                refine aw_iload_n (i := 2) rfl d_X12_clause_91 2 rfl ?_
                refine aw_bipush (v := 110) d_X12_clause_92 ib_110 ?_
                refine aw_icmp_ne (tgt := 101) d_X12_clause_94 rfl (fun c168 => ?_) (fun c168 => ?_)
                · have k := k.1 c168
                  refine aw_iload_n (i := 2) rfl d_X12_clause_101 2 rfl ?_
                  refine aw_bipush (v := 114) d_X12_clause_102 ib_114 ?_
                  refine aw_icmp_ne (tgt := 111) d_X12_clause_104 rfl (fun c169 => ?_) (fun c169 => ?_)
                  · have k := k.1 c169
                    refine aw_iconst (v := 3) d_X12_clause_111 ic_3 ?_
                    refine aw_Vv 1 [.int 3] [] d_X12_clause_112 (cV_X12_say (d + 0) 0 0) kc_12 (ws_1 w165) tw_2210 rfl (rr0 (Nat.le_of_ble_eq_true rfl) (Nat.le_of_ble_eq_true rfl)) (Nat.le_of_ble_eq_true rfl) xs0 k (fun h170 kk => ?_)
                    obtain ⟨w171, k⟩ := kk
                    refine aw_aload_n (i := 0) rfl d_X12_clause_115 0 rfl ?_
                    refine aw_iconst (v := 3) d_X12_clause_116 ic_3 ?_
                    refine aw_Vv 1 [.int 3] [] d_X12_clause_117 (cV_X12_say (d + 0) 0 0) kc_12 (ws_1 w171) tw_2210 rfl (rr0 (Nat.le_of_ble_eq_true rfl) (Nat.le_of_ble_eq_true rfl)) (Nat.le_of_ble_eq_true rfl) xs0 k (fun h173 kk => ?_)
                    obtain ⟨w174, k⟩ := kk
                    exact aw_vret rfl d_X12_clause_120 ⟨Nat.le_refl _, Nat.le_refl _⟩ ⟨rfl, k⟩
                  · have k := k.2 c169
                    refine aw_iconst (v := 2) d_X12_clause_107 ic_2 ?_
                    refine aw_goto (tgt := 112) d_X12_clause_108 rfl ?_
                    refine aw_Vv 1 [.int 2] [] d_X12_clause_112 (cV_X12_say (d + 0) 0 0) kc_12 (ws_1 w165) tw_2210 rfl (rr0 (Nat.le_of_ble_eq_true rfl) (Nat.le_of_ble_eq_true rfl)) (Nat.le_of_ble_eq_true rfl) xs0 k (fun h176 kk => ?_)
                    obtain ⟨w177, k⟩ := kk
                    refine aw_aload_n (i := 0) rfl d_X12_clause_115 0 rfl ?_
                    refine aw_iconst (v := 3) d_X12_clause_116 ic_3 ?_
                    refine aw_Vv 1 [.int 3] [] d_X12_clause_117 (cV_X12_say (d + 0) 0 0) kc_12 (ws_1 w177) tw_2210 rfl (rr0 (Nat.le_of_ble_eq_true rfl) (Nat.le_of_ble_eq_true rfl)) (Nat.le_of_ble_eq_true rfl) xs0 k (fun h179 kk => ?_)
                    obtain ⟨w180, k⟩ := kk
                    exact aw_vret rfl d_X12_clause_120 ⟨Nat.le_refl _, Nat.le_refl _⟩ ⟨rfl, k⟩
                · have k := k.2 c168
                  refine aw_iconst (v := 1) d_X12_clause_97 ic_1 ?_
                  refine aw_goto (tgt := 112) d_X12_clause_98 rfl ?_
                  refine aw_Vv 1 [.int 1] [] d_X12_clause_112 (cV_X12_say (d + 0) 0 0) kc_12 (ws_1 w165) tw_2210 rfl (rr0 (Nat.le_of_ble_eq_true rfl) (Nat.le_of_ble_eq_true rfl)) (Nat.le_of_ble_eq_true rfl) xs0 k (fun h182 kk => ?_)
                  obtain ⟨w183, k⟩ := kk
                  refine aw_aload_n (i := 0) rfl d_X12_clause_115 0 rfl ?_
                  refine aw_iconst (v := 3) d_X12_clause_116 ic_3 ?_
                  refine aw_Vv 1 [.int 3] [] d_X12_clause_117 (cV_X12_say (d + 0) 0 0) kc_12 (ws_1 w183) tw_2210 rfl (rr0 (Nat.le_of_ble_eq_true rfl) (Nat.le_of_ble_eq_true rfl)) (Nat.le_of_ble_eq_true rfl) xs0 k (fun h185 kk => ?_)
                  obtain ⟨w186, k⟩ := kk
                  exact aw_vret rfl d_X12_clause_120 ⟨Nat.le_refl _, Nat.le_refl _⟩ ⟨rfl, k⟩
              · have k := k.2 c167
                refine aw_iconst (v := 0) d_X12_clause_87 ic_0 ?_
                refine aw_goto (tgt := 112) d_X12_clause_88 rfl ?_
                refine aw_Vv 1 [.int 0] [] d_X12_clause_112 (cV_X12_say (d + 0) 0 0) kc_12 (ws_1 w165) tw_2210 rfl (rr0 (Nat.le_of_ble_eq_true rfl) (Nat.le_of_ble_eq_true rfl)) (Nat.le_of_ble_eq_true rfl) xs0 k (fun h188 kk => ?_)
                obtain ⟨w189, k⟩ := kk
                refine aw_aload_n (i := 0) rfl d_X12_clause_115 0 rfl ?_
                refine aw_iconst (v := 3) d_X12_clause_116 ic_3 ?_
                refine aw_Vv 1 [.int 3] [] d_X12_clause_117 (cV_X12_say (d + 0) 0 0) kc_12 (ws_1 w189) tw_2210 rfl (rr0 (Nat.le_of_ble_eq_true rfl) (Nat.le_of_ble_eq_true rfl)) (Nat.le_of_ble_eq_true rfl) xs0 k (fun h191 kk => ?_)
                obtain ⟨w192, k⟩ := kk
                exact aw_vret rfl d_X12_clause_120 ⟨Nat.le_refl _, Nat.le_refl _⟩ ⟨rfl, k⟩
            · have k := k.2 c163
              refine aw_aload_n (i := 0) rfl d_X12_clause_60 0 rfl ?_
              refine aw_Vv 1 [] [] d_X12_clause_61 (cV_X12_bad (d + 0) 0 0) kc_12 (ws_1 w68) tw_2225 rfl (rr0 (Nat.le_of_ble_eq_true rfl) (Nat.le_of_ble_eq_true rfl)) (Nat.le_of_ble_eq_true rfl) xs0 k (fun h194 kk => ?_)
              obtain ⟨w195, k⟩ := kk
              exact aw_vret rfl d_X12_clause_64 ⟨Nat.le_refl _, Nat.le_refl _⟩ ⟨rfl, k⟩
    · have k := k.2 c66
      exact aw_vret rfl d_X12_clause_30 ⟨Nat.le_refl _, Nat.le_refl _⟩ ⟨rfl, k⟩
theorem t_X12_clause_179 (d : Nat) (h : Hp_) (w : Wf h) (x3 : Int32) (x4 : Int32) (K : Hp_ → Prop) (k : (x4 < x3 → vp_in x3 560 ∧ (vp_in (x3 + 1) 560 ∧ (vp_in (x3 + 2) 560 ∧ (Cv (m_X12_say (d + 0) 0 0) [.ref 1, .int 3] (h_im (h_im (h_im (h_im h 226 x3.toNatClampNeg 0) 226 ((x3 + 1) : Int32).toNatClampNeg 1) 226 ((x3 + 2) : Int32).toNatClampNeg 2) 1 36 ((h_i h 1 36) + 3)) (fun h201 => Wf h201 ∧ (K h201)))))) ∧ (¬ x4 < x3 → vp_in x4 560 ∧ (vp_in (x4 + 3) 560 ∧ (AW (m_X12_clause (d + 58) 0 0) 0 0 179 [(0, .ref 1), (3, .int x3), (4, .int (x4 + (-1)))] [] (h_im h 226 ((x4 + 3) : Int32).toNatClampNeg (h_i h 226 x4.toNatClampNeg)) (kV K))))) : AW (m_X12_clause (d + 58) 0 0) 0 0 179 [(0, .ref 1), (3, .int x3), (4, .int x4)] [] h (kV K) := by
  refine aw_iload d_X12_clause_179 2 rfl ?_
  refine aw_iload_n (i := 3) rfl d_X12_clause_181 1 rfl ?_
  refine aw_icmp_lt (tgt := 207) d_X12_clause_182 rfl (fun c197 => ?_) (fun c197 => ?_)
  · have k := k.1 c197
    refine aw_aload_n (i := 0) rfl d_X12_clause_207 0 rfl ?_
    refine aw_getr (k0 := 31) kc_12 (ws_1 w) (Nat.le_of_ble_eq_true rfl) tw_1773 d_X12_clause_208 rfl (wr_1_31 w) ?_
    refine aw_iload_n (i := 3) rfl d_X12_clause_211 1 rfl ?_
    refine aw_iconst (v := 0) d_X12_clause_212 ic_0 ?_
    obtain ⟨b198, k⟩ := k
    refine aw_iast (ws_226 w) b198 d_X12_clause_213 ?_
    refine aw_aload_n (i := 0) rfl d_X12_clause_214 0 rfl ?_
    refine aw_getr (k0 := 31) kc_12 (ws_1 w) (Nat.le_of_ble_eq_true rfl) tw_1773 d_X12_clause_215 rfl (wr_1_31 w) ?_
    refine aw_iload_n (i := 3) rfl d_X12_clause_218 1 rfl ?_
    refine aw_iconst (v := 1) d_X12_clause_219 ic_1 ?_
    refine aw_iadd d_X12_clause_220 ?_
    refine aw_iconst (v := 1) d_X12_clause_221 ic_1 ?_
    obtain ⟨b199, k⟩ := k
    refine aw_iast (ws_226 w) b199 d_X12_clause_222 ?_
    refine aw_aload_n (i := 0) rfl d_X12_clause_223 0 rfl ?_
    refine aw_getr (k0 := 31) kc_12 (ws_1 w) (Nat.le_of_ble_eq_true rfl) tw_1773 d_X12_clause_224 rfl (wr_1_31 w) ?_
    refine aw_iload_n (i := 3) rfl d_X12_clause_227 1 rfl ?_
    refine aw_iconst (v := 2) d_X12_clause_228 ic_2 ?_
    refine aw_iadd d_X12_clause_229 ?_
    refine aw_iconst (v := 2) d_X12_clause_230 ic_2 ?_
    obtain ⟨b200, k⟩ := k
    refine aw_iast (ws_226 w) b200 d_X12_clause_231 ?_
    refine aw_aload_n (i := 0) rfl d_X12_clause_232 0 rfl ?_
    refine aw_dup d_X12_clause_233 rfl ?_
    refine aw_geti (k0 := 36) kc_12 (ws_1 w) (Nat.le_of_ble_eq_true rfl) tw_1778 d_X12_clause_234 rfl ?_
    refine aw_vi (v2 := (h_i h 1 36)) (rfl) ?_
    refine aw_iconst (v := 3) d_X12_clause_237 ic_3 ?_
    refine aw_iadd d_X12_clause_238 ?_
    refine aw_puti (k0 := 36) kc_12 (ws_1 w) (Nat.le_of_ble_eq_true rfl) tw_1778 d_X12_clause_239 rfl rfl nf_i ?_
    refine aw_aload_n (i := 0) rfl d_X12_clause_242 0 rfl ?_
    refine aw_iconst (v := 3) d_X12_clause_243 ic_3 ?_
    refine aw_Vv 1 [.int 3] [] d_X12_clause_244 (cV_X12_say (d + 0) 0 0) kc_12 (ws_1 w) tw_2210 rfl (rr0 (Nat.le_of_ble_eq_true rfl) (Nat.le_of_ble_eq_true rfl)) (Nat.le_of_ble_eq_true rfl) xs0 k (fun h201 kk => ?_)
    obtain ⟨w202, k⟩ := kk
    exact aw_vret rfl d_X12_clause_247 ⟨Nat.le_refl _, Nat.le_refl _⟩ ⟨rfl, k⟩
  · have k := k.2 c197
    refine aw_aload_n (i := 0) rfl d_X12_clause_185 0 rfl ?_
    refine aw_getr (k0 := 31) kc_12 (ws_1 w) (Nat.le_of_ble_eq_true rfl) tw_1773 d_X12_clause_186 rfl (wr_1_31 w) ?_
    refine aw_iload d_X12_clause_189 2 rfl ?_
    refine aw_iconst (v := 3) d_X12_clause_191 ic_3 ?_
    refine aw_iadd d_X12_clause_192 ?_
    refine aw_aload_n (i := 0) rfl d_X12_clause_193 0 rfl ?_
    refine aw_getr (k0 := 31) kc_12 (ws_1 w) (Nat.le_of_ble_eq_true rfl) tw_1773 d_X12_clause_194 rfl (wr_1_31 w) ?_
    refine aw_iload d_X12_clause_197 2 rfl ?_
    obtain ⟨b204, k⟩ := k
    refine aw_iald (ws_226 w) b204 d_X12_clause_199 ?_
    obtain ⟨b205, k⟩ := k
    refine aw_iast (ws_226 w) b205 d_X12_clause_200 ?_
    refine aw_iinc (v := (x4 + (-1))) [(0, .ref 1), (3, .int x3), (4, .int (x4 + (-1)))] d_X12_clause_201 2 rfl rfl (Nat.le_of_ble_eq_true rfl) rfl rfl ?_
    refine aw_goto (tgt := 179) d_X12_clause_204 rfl ?_
    exact k
theorem t_X12_fault (d : Nat) (h : Hp_) (w : Wf h) (x1 : Int32) (K : Int32 → Hp_ → Prop) (k : ((0 ≤ x1 ∧ x1 ≤ 2) → (¬ x1 = 0 → Cv (m_X12_clause (d + 58) 0 0) [.ref 1] (h_im (h_im (h_im (h_im (h_im h 1 37 x1) 1 33 0) 1 34 (-1)) 1 35 0) 1 36 0) (fun h5 => Wf h5 ∧ (AW (m_X12_fault (d + 59) 0 0) 0 0 52 [(0, .ref 1)] [] h5 (kI K)))) ∧ (x1 = 0 → Cv (m_X12_stepsRead (d + 52) 0 0) [.ref 1] (h_im (h_im (h_im (h_im (h_im h 1 37 x1) 1 33 0) 1 34 (-1)) 1 35 0) 1 36 0) (fun h8 => Wf h8 ∧ ((¬ (h_i h8 1 34) = (-1) → K (h_i h8 1 34) h8) ∧ ((h_i h8 1 34) = (-1) → Ci (m_X12_look (d + 0) 0 0) [.ref 1] h8 (fun r14 h12 => Wf h12 ∧ ((r14 = (-1) → K (h_i h12 1 34) h12) ∧ (¬ r14 = (-1) → Cv (m_X12_bad (d + 0) 0 0) [.ref 1] h12 (fun h16 => Wf h16 ∧ (K (h_i h16 1 34) h16)))))))))) ∧ (¬ (0 ≤ x1 ∧ x1 ≤ 2) → K (-2) h)) : Ci (m_X12_fault (d + 59) 0 0) [.ref 1, .int x1] h K := by
  refine Ct.of (fun _ _ _ => trivial) rfl (Nat.le_of_ble_eq_true rfl) ?_
  show AW (m_X12_fault (d + 59) 0 0) 0 0 0 [(0, .ref 1), (1, .int x1)] [] h (kI K)
  refine aw_iload_n (i := 1) rfl d_X12_fault_0 1 rfl ?_
  refine aw_iconst (v := 0) d_X12_fault_1 ic_0 ?_
  refine aw_iconst (v := 2) d_X12_fault_2 ic_2 ?_
  refine aw_Si [.int x1, .int 0, .int 2] [] d_X12_fault_3 (cS_X12_in (d + 0) 0 0) tw_2143 rfl (rr0 (Nat.le_of_ble_eq_true rfl) (Nat.le_of_ble_eq_true rfl)) (Nat.le_of_ble_eq_true rfl) xs0 (s_X12_in _ _ x1 0 2) (fun _ _ kk => ?_)
  obtain ⟨e1, e2⟩ := kk
  rw [e1, e2]
  refine aw_ifb_ne (tgt := 12) d_X12_fault_6 rfl (fun c3 => ?_) (fun c3 => ?_)
  · have k := k.1 c3
    refine aw_aload_n (i := 0) rfl d_X12_fault_12 0 rfl ?_
    refine aw_iload_n (i := 1) rfl d_X12_fault_13 1 rfl ?_
    refine aw_puti (k0 := 37) kc_12 (ws_1 w) (Nat.le_of_ble_eq_true rfl) tw_1779 d_X12_fault_14 rfl rfl nf_i ?_
    refine aw_aload_n (i := 0) rfl d_X12_fault_17 0 rfl ?_
    refine aw_iconst (v := 0) d_X12_fault_18 ic_0 ?_
    refine aw_puti (k0 := 33) kc_12 (ws_1 w) (Nat.le_of_ble_eq_true rfl) tw_1775 d_X12_fault_19 rfl rfl nf_i ?_
    refine aw_aload_n (i := 0) rfl d_X12_fault_22 0 rfl ?_
    refine aw_iconst (v := (-1)) d_X12_fault_23 ic_m1 ?_
    refine aw_puti (k0 := 34) kc_12 (ws_1 w) (Nat.le_of_ble_eq_true rfl) tw_1776 d_X12_fault_24 rfl rfl nf_i ?_
    refine aw_aload_n (i := 0) rfl d_X12_fault_27 0 rfl ?_
    refine aw_iconst (v := 0) d_X12_fault_28 ic_0 ?_
    refine aw_puti (k0 := 35) kc_12 (ws_1 w) (Nat.le_of_ble_eq_true rfl) tw_1777 d_X12_fault_29 rfl rfl nf_i ?_
    refine aw_aload_n (i := 0) rfl d_X12_fault_32 0 rfl ?_
    refine aw_iconst (v := 0) d_X12_fault_33 ic_0 ?_
    refine aw_puti (k0 := 36) kc_12 (ws_1 w) (Nat.le_of_ble_eq_true rfl) tw_1778 d_X12_fault_34 rfl rfl nf_i ?_
    refine aw_iload_n (i := 1) rfl d_X12_fault_37 1 rfl ?_
    refine aw_if_ne (tgt := 48) d_X12_fault_38 rfl (fun c4 => ?_) (fun c4 => ?_)
    · have k := k.1 c4
      refine aw_aload_n (i := 0) rfl d_X12_fault_48 0 rfl ?_
      refine aw_Vv 1 [] [] d_X12_fault_49 (cV_X12_clause (d + 58) 0 0) kc_12 (ws_1 w) tw_2229 rfl (rr0 (Nat.le_of_ble_eq_true rfl) (Nat.le_of_ble_eq_true rfl)) (Nat.le_of_ble_eq_true rfl) xs0 k (fun h5 kk => ?_)
      obtain ⟨w6, k⟩ := kk
      exact aw_lvp [0] [(0, .ref 1)] rfl k
    · have k := k.2 c4
      refine aw_aload_n (i := 0) rfl d_X12_fault_41 0 rfl ?_
      refine aw_Vv 1 [] [] d_X12_fault_42 (cV_X12_stepsRead (d + 52) 0 0) kc_12 (ws_1 w) tw_2198 rfl (rr0 (Nat.le_of_ble_eq_true rfl) (Nat.le_of_ble_eq_true rfl)) (Nat.le_of_ble_eq_true rfl) xs0 k (fun h8 kk => ?_)
      obtain ⟨w9, k⟩ := kk
      refine aw_goto (tgt := 86) d_X12_fault_45 rfl ?_
      refine aw_aload_n (i := 0) rfl d_X12_fault_86 0 rfl ?_
      refine aw_geti (k0 := 34) kc_12 (ws_1 w9) (Nat.le_of_ble_eq_true rfl) tw_1776 d_X12_fault_87 rfl ?_
      refine aw_iconst (v := (-1)) d_X12_fault_90 ic_m1 ?_
      refine aw_icmp_ne (tgt := 106) d_X12_fault_91 rfl (fun c11 => ?_) (fun c11 => ?_)
      · have k := k.1 c11
        refine aw_aload_n (i := 0) rfl d_X12_fault_106 0 rfl ?_
        refine aw_geti (k0 := 34) kc_12 (ws_1 w9) (Nat.le_of_ble_eq_true rfl) tw_1776 d_X12_fault_107 rfl ?_
        exact aw_iret rfl d_X12_fault_110 ⟨Nat.le_refl _, Nat.le_refl _⟩ ⟨_, rfl, k⟩
      · have k := k.2 c11
        refine aw_aload_n (i := 0) rfl d_X12_fault_94 0 rfl ?_
        refine aw_Vi 1 [] [] d_X12_fault_95 (cV_X12_look (d + 0) 0 0) kc_12 (ws_1 w9) tw_2206 rfl (rr0 (Nat.le_of_ble_eq_true rfl) (Nat.le_of_ble_eq_true rfl)) (Nat.le_of_ble_eq_true rfl) xs0 k (fun r14 h12 kk => ?_)
        obtain ⟨w13, k⟩ := kk
        refine aw_iconst (v := (-1)) d_X12_fault_98 ic_m1 ?_
        refine aw_icmp_eq (tgt := 106) d_X12_fault_99 rfl (fun c15 => ?_) (fun c15 => ?_)
        · have k := k.1 c15
          refine aw_aload_n (i := 0) rfl d_X12_fault_106 0 rfl ?_
          refine aw_geti (k0 := 34) kc_12 (ws_1 w13) (Nat.le_of_ble_eq_true rfl) tw_1776 d_X12_fault_107 rfl ?_
          exact aw_iret rfl d_X12_fault_110 ⟨Nat.le_refl _, Nat.le_refl _⟩ ⟨_, rfl, k⟩
        · have k := k.2 c15
          refine aw_aload_n (i := 0) rfl d_X12_fault_102 0 rfl ?_
          refine aw_Vv 1 [] [] d_X12_fault_103 (cV_X12_bad (d + 0) 0 0) kc_12 (ws_1 w13) tw_2225 rfl (rr0 (Nat.le_of_ble_eq_true rfl) (Nat.le_of_ble_eq_true rfl)) (Nat.le_of_ble_eq_true rfl) xs0 k (fun h16 kk => ?_)
          obtain ⟨w17, k⟩ := kk
          refine aw_aload_n (i := 0) rfl d_X12_fault_106 0 rfl ?_
          refine aw_geti (k0 := 34) kc_12 (ws_1 w17) (Nat.le_of_ble_eq_true rfl) tw_1776 d_X12_fault_107 rfl ?_
          exact aw_iret rfl d_X12_fault_110 ⟨Nat.le_refl _, Nat.le_refl _⟩ ⟨_, rfl, k⟩
  · have k := k.2 c3
    refine aw_bipush (v := (-2)) d_X12_fault_9 ib_m2 ?_
    exact aw_iret rfl d_X12_fault_11 ⟨Nat.le_refl _, Nat.le_refl _⟩ ⟨_, rfl, k⟩
theorem t_X12_fault_52 (d : Nat) (h : Hp_) (w : Wf h)  (K : Int32 → Hp_ → Prop) (k : (¬ (h_i h 1 34) = (-1) → (¬ (h_i h 1 34) = (-1) → K (h_i h 1 34) h) ∧ ((h_i h 1 34) = (-1) → Ci (m_X12_look (d + 0) 0 0) [.ref 1] h (fun r23 h21 => Wf h21 ∧ ((r23 = (-1) → K (h_i h21 1 34) h21) ∧ (¬ r23 = (-1) → Cv (m_X12_bad (d + 0) 0 0) [.ref 1] h21 (fun h25 => Wf h25 ∧ (K (h_i h25 1 34) h25))))))) ∧ ((h_i h 1 34) = (-1) → Ci (m_X12_look (d + 0) 0 0) [.ref 1] h (fun r30 h28 => Wf h28 ∧ ((¬ r30 = 59 → (¬ (h_i h28 1 34) = (-1) → K (h_i h28 1 34) h28) ∧ ((h_i h28 1 34) = (-1) → Ci (m_X12_look (d + 0) 0 0) [.ref 1] h28 (fun r35 h33 => Wf h33 ∧ ((r35 = (-1) → K (h_i h33 1 34) h33) ∧ (¬ r35 = (-1) → Cv (m_X12_bad (d + 0) 0 0) [.ref 1] h33 (fun h37 => Wf h37 ∧ (K (h_i h37 1 34) h37))))))) ∧ (r30 = 59 → Cv (m_X12_clause (d + 58) 0 0) [.ref 1] (h_im h28 1 33 ((h_i h28 1 33) + 1)) (fun h40 => Wf h40 ∧ (AW (m_X12_fault (d + 59) 0 0) 0 0 52 [(0, .ref 1)] [] h40 (kI K)))))))) : AW (m_X12_fault (d + 59) 0 0) 0 0 52 [(0, .ref 1)] [] h (kI K) := by
  refine aw_aload_n (i := 0) rfl d_X12_fault_52 0 rfl ?_
  refine aw_geti (k0 := 34) kc_12 (ws_1 w) (Nat.le_of_ble_eq_true rfl) tw_1776 d_X12_fault_53 rfl ?_
  refine aw_iconst (v := (-1)) d_X12_fault_56 ic_m1 ?_
  refine aw_icmp_ne (tgt := 86) d_X12_fault_57 rfl (fun c19 => ?_) (fun c19 => ?_)
  · have k := k.1 c19
    refine aw_aload_n (i := 0) rfl d_X12_fault_86 0 rfl ?_
    refine aw_geti (k0 := 34) kc_12 (ws_1 w) (Nat.le_of_ble_eq_true rfl) tw_1776 d_X12_fault_87 rfl ?_
    refine aw_iconst (v := (-1)) d_X12_fault_90 ic_m1 ?_
    refine aw_icmp_ne (tgt := 106) d_X12_fault_91 rfl (fun c20 => ?_) (fun c20 => ?_)
    · have k := k.1 c20
      refine aw_aload_n (i := 0) rfl d_X12_fault_106 0 rfl ?_
      refine aw_geti (k0 := 34) kc_12 (ws_1 w) (Nat.le_of_ble_eq_true rfl) tw_1776 d_X12_fault_107 rfl ?_
      exact aw_iret rfl d_X12_fault_110 ⟨Nat.le_refl _, Nat.le_refl _⟩ ⟨_, rfl, k⟩
    · have k := k.2 c20
      refine aw_aload_n (i := 0) rfl d_X12_fault_94 0 rfl ?_
      refine aw_Vi 1 [] [] d_X12_fault_95 (cV_X12_look (d + 0) 0 0) kc_12 (ws_1 w) tw_2206 rfl (rr0 (Nat.le_of_ble_eq_true rfl) (Nat.le_of_ble_eq_true rfl)) (Nat.le_of_ble_eq_true rfl) xs0 k (fun r23 h21 kk => ?_)
      obtain ⟨w22, k⟩ := kk
      refine aw_iconst (v := (-1)) d_X12_fault_98 ic_m1 ?_
      refine aw_icmp_eq (tgt := 106) d_X12_fault_99 rfl (fun c24 => ?_) (fun c24 => ?_)
      · have k := k.1 c24
        refine aw_aload_n (i := 0) rfl d_X12_fault_106 0 rfl ?_
        refine aw_geti (k0 := 34) kc_12 (ws_1 w22) (Nat.le_of_ble_eq_true rfl) tw_1776 d_X12_fault_107 rfl ?_
        exact aw_iret rfl d_X12_fault_110 ⟨Nat.le_refl _, Nat.le_refl _⟩ ⟨_, rfl, k⟩
      · have k := k.2 c24
        refine aw_aload_n (i := 0) rfl d_X12_fault_102 0 rfl ?_
        refine aw_Vv 1 [] [] d_X12_fault_103 (cV_X12_bad (d + 0) 0 0) kc_12 (ws_1 w22) tw_2225 rfl (rr0 (Nat.le_of_ble_eq_true rfl) (Nat.le_of_ble_eq_true rfl)) (Nat.le_of_ble_eq_true rfl) xs0 k (fun h25 kk => ?_)
        obtain ⟨w26, k⟩ := kk
        refine aw_aload_n (i := 0) rfl d_X12_fault_106 0 rfl ?_
        refine aw_geti (k0 := 34) kc_12 (ws_1 w26) (Nat.le_of_ble_eq_true rfl) tw_1776 d_X12_fault_107 rfl ?_
        exact aw_iret rfl d_X12_fault_110 ⟨Nat.le_refl _, Nat.le_refl _⟩ ⟨_, rfl, k⟩
  · have k := k.2 c19
    refine aw_aload_n (i := 0) rfl d_X12_fault_60 0 rfl ?_
    refine aw_Vi 1 [] [] d_X12_fault_61 (cV_X12_look (d + 0) 0 0) kc_12 (ws_1 w) tw_2206 rfl (rr0 (Nat.le_of_ble_eq_true rfl) (Nat.le_of_ble_eq_true rfl)) (Nat.le_of_ble_eq_true rfl) xs0 k (fun r30 h28 kk => ?_)
    obtain ⟨w29, k⟩ := kk
    refine aw_bipush (v := 59) d_X12_fault_64 ib_59 ?_
    refine aw_icmp_ne (tgt := 86) d_X12_fault_66 rfl (fun c31 => ?_) (fun c31 => ?_)
    · have k := k.1 c31
      refine aw_aload_n (i := 0) rfl d_X12_fault_86 0 rfl ?_
      refine aw_geti (k0 := 34) kc_12 (ws_1 w29) (Nat.le_of_ble_eq_true rfl) tw_1776 d_X12_fault_87 rfl ?_
      refine aw_iconst (v := (-1)) d_X12_fault_90 ic_m1 ?_
      refine aw_icmp_ne (tgt := 106) d_X12_fault_91 rfl (fun c32 => ?_) (fun c32 => ?_)
      · have k := k.1 c32
        refine aw_aload_n (i := 0) rfl d_X12_fault_106 0 rfl ?_
        refine aw_geti (k0 := 34) kc_12 (ws_1 w29) (Nat.le_of_ble_eq_true rfl) tw_1776 d_X12_fault_107 rfl ?_
        exact aw_iret rfl d_X12_fault_110 ⟨Nat.le_refl _, Nat.le_refl _⟩ ⟨_, rfl, k⟩
      · have k := k.2 c32
        refine aw_aload_n (i := 0) rfl d_X12_fault_94 0 rfl ?_
        refine aw_Vi 1 [] [] d_X12_fault_95 (cV_X12_look (d + 0) 0 0) kc_12 (ws_1 w29) tw_2206 rfl (rr0 (Nat.le_of_ble_eq_true rfl) (Nat.le_of_ble_eq_true rfl)) (Nat.le_of_ble_eq_true rfl) xs0 k (fun r35 h33 kk => ?_)
        obtain ⟨w34, k⟩ := kk
        refine aw_iconst (v := (-1)) d_X12_fault_98 ic_m1 ?_
        refine aw_icmp_eq (tgt := 106) d_X12_fault_99 rfl (fun c36 => ?_) (fun c36 => ?_)
        · have k := k.1 c36
          refine aw_aload_n (i := 0) rfl d_X12_fault_106 0 rfl ?_
          refine aw_geti (k0 := 34) kc_12 (ws_1 w34) (Nat.le_of_ble_eq_true rfl) tw_1776 d_X12_fault_107 rfl ?_
          exact aw_iret rfl d_X12_fault_110 ⟨Nat.le_refl _, Nat.le_refl _⟩ ⟨_, rfl, k⟩
        · have k := k.2 c36
          refine aw_aload_n (i := 0) rfl d_X12_fault_102 0 rfl ?_
          refine aw_Vv 1 [] [] d_X12_fault_103 (cV_X12_bad (d + 0) 0 0) kc_12 (ws_1 w34) tw_2225 rfl (rr0 (Nat.le_of_ble_eq_true rfl) (Nat.le_of_ble_eq_true rfl)) (Nat.le_of_ble_eq_true rfl) xs0 k (fun h37 kk => ?_)
          obtain ⟨w38, k⟩ := kk
          refine aw_aload_n (i := 0) rfl d_X12_fault_106 0 rfl ?_
          refine aw_geti (k0 := 34) kc_12 (ws_1 w38) (Nat.le_of_ble_eq_true rfl) tw_1776 d_X12_fault_107 rfl ?_
          exact aw_iret rfl d_X12_fault_110 ⟨Nat.le_refl _, Nat.le_refl _⟩ ⟨_, rfl, k⟩
    · have k := k.2 c31
      refine aw_aload_n (i := 0) rfl d_X12_fault_69 0 rfl ?_
      refine aw_dup d_X12_fault_70 rfl ?_
      refine aw_geti (k0 := 33) kc_12 (ws_1 w29) (Nat.le_of_ble_eq_true rfl) tw_1775 d_X12_fault_71 rfl ?_
      refine aw_iconst (v := 1) d_X12_fault_74 ic_1 ?_
      refine aw_iadd d_X12_fault_75 ?_
      refine aw_puti (k0 := 33) kc_12 (ws_1 w29) (Nat.le_of_ble_eq_true rfl) tw_1775 d_X12_fault_76 rfl rfl nf_i ?_
      refine aw_aload_n (i := 0) rfl d_X12_fault_79 0 rfl ?_
      refine aw_Vv 1 [] [] d_X12_fault_80 (cV_X12_clause (d + 58) 0 0) kc_12 (ws_1 w29) tw_2229 rfl (rr0 (Nat.le_of_ble_eq_true rfl) (Nat.le_of_ble_eq_true rfl)) (Nat.le_of_ble_eq_true rfl) xs0 k (fun h40 kk => ?_)
      obtain ⟨w41, k⟩ := kk
      refine aw_goto (tgt := 52) d_X12_fault_83 rfl ?_
      exact k
theorem t_X12_stepRead (d : Nat) (h : Hp_) (w : Wf h)  (K : Hp_ → Prop) (k : Ci (m_X12_look (d + 0) 0 0) [.ref 1] h (fun r3 h1 => Wf h1 ∧ ((¬ r3 = 103 → (¬ r3 = 119 → (¬ r3 = 112 → (¬ r3 = 108 → (¬ r3 = 40 → Cv (m_X12_bad (d + 0) 0 0) [.ref 1] h1 (fun h9 => Wf h9 ∧ (K h9))) ∧ (r3 = 40 → (4 ≤ (h_i h1 1 35) → Cv (m_X12_bad (d + 0) 0 0) [.ref 1] h1 (fun h13 => Wf h13 ∧ (K h13))) ∧ (¬ 4 ≤ (h_i h1 1 35) → Cv (m_X12_say (d + 0) 0 0) [.ref 1, .int 4] (h_im (h_im h1 1 35 ((h_i h1 1 35) + 1)) 1 33 ((h_i h1 1 33) + 1)) (fun h16 => Wf h16 ∧ (Cv (m_X12_stepsRead (d + 52) 0 0) [.ref 1] h16 (fun h19 => Wf h19 ∧ ((¬ (h_i h19 1 34) = (-1) → (¬ (h_i h19 1 34) = (-1) → K (h_im (h_im h19 1 33 ((h_i h19 1 33) + 1)) 1 35 ((h_i h19 1 35) - 1))) ∧ ((h_i h19 1 34) = (-1) → Cv (m_X12_say (d + 0) 0 0) [.ref 1, .int 5] (h_im (h_im h19 1 33 ((h_i h19 1 33) + 1)) 1 35 ((h_i h19 1 35) - 1)) (fun h24 => Wf h24 ∧ (Ci (m_X12_within (d + 2) 0 0) [.ref 1, .int 1, .int 20] h24 (fun r29 h27 => Wf h27 ∧ (Cv (m_X12_say (d + 0) 0 0) [.ref 1, .int r29] h27 (fun h30 => Wf h30 ∧ (K h30)))))))) ∧ ((h_i h19 1 34) = (-1) → Ci (m_X12_look (d + 0) 0 0) [.ref 1] h19 (fun r35 h33 => Wf h33 ∧ ((r35 = 41 → (¬ (h_i h33 1 34) = (-1) → K (h_im (h_im h33 1 33 ((h_i h33 1 33) + 1)) 1 35 ((h_i h33 1 35) - 1))) ∧ ((h_i h33 1 34) = (-1) → Cv (m_X12_say (d + 0) 0 0) [.ref 1, .int 5] (h_im (h_im h33 1 33 ((h_i h33 1 33) + 1)) 1 35 ((h_i h33 1 35) - 1)) (fun h38 => Wf h38 ∧ (Ci (m_X12_within (d + 2) 0 0) [.ref 1, .int 1, .int 20] h38 (fun r43 h41 => Wf h41 ∧ (Cv (m_X12_say (d + 0) 0 0) [.ref 1, .int r43] h41 (fun h44 => Wf h44 ∧ (K h44)))))))) ∧ (¬ r35 = 41 → Cv (m_X12_bad (d + 0) 0 0) [.ref 1] h33 (fun h47 => Wf h47 ∧ ((¬ (h_i h47 1 34) = (-1) → K (h_im (h_im h47 1 33 ((h_i h47 1 33) + 1)) 1 35 ((h_i h47 1 35) - 1))) ∧ ((h_i h47 1 34) = (-1) → Cv (m_X12_say (d + 0) 0 0) [.ref 1, .int 5] (h_im (h_im h47 1 33 ((h_i h47 1 33) + 1)) 1 35 ((h_i h47 1 35) - 1)) (fun h51 => Wf h51 ∧ (Ci (m_X12_within (d + 2) 0 0) [.ref 1, .int 1, .int 20] h51 (fun r56 h54 => Wf h54 ∧ (Cv (m_X12_say (d + 0) 0 0) [.ref 1, .int r56] h54 (fun h57 => Wf h57 ∧ (K h57)))))))))))))))))))) ∧ (r3 = 108 → Cv (m_X12_say (d + 0) 0 0) [.ref 1, .int 3] (h_im h1 1 33 ((h_i h1 1 33) + 1)) (fun h60 => Wf h60 ∧ (K h60)))) ∧ (r3 = 112 → Cv (m_X12_say (d + 0) 0 0) [.ref 1, .int 2] (h_im h1 1 33 ((h_i h1 1 33) + 1)) (fun h63 => Wf h63 ∧ (Ci (m_X12_within (d + 2) 0 0) [.ref 1, .int 0, .int 15] h63 (fun r68 h66 => Wf h66 ∧ (Cv (m_X12_say (d + 0) 0 0) [.ref 1, .int r68] h66 (fun h69 => Wf h69 ∧ ((¬ (h_i h69 1 34) = (-1) → K h69) ∧ ((h_i h69 1 34) = (-1) → Ci (m_X12_within (d + 2) 0 0) [.ref 1, .int 0, .int 1440] h69 (fun r75 h73 => Wf h73 ∧ (Cv (m_X12_say (d + 0) 0 0) [.ref 1, .int r75] h73 (fun h76 => Wf h76 ∧ (K h76))))))))))))) ∧ (r3 = 119 → Cv (m_X12_say (d + 0) 0 0) [.ref 1, .int 1] (h_im h1 1 33 ((h_i h1 1 33) + 1)) (fun h79 => Wf h79 ∧ (Ci (m_X12_within (d + 2) 0 0) [.ref 1, .int 1, .int 240] h79 (fun r84 h82 => Wf h82 ∧ (Cv (m_X12_say (d + 0) 0 0) [.ref 1, .int r84] h82 (fun h85 => Wf h85 ∧ (K h85)))))))) ∧ (r3 = 103 → Cv (m_X12_say (d + 0) 0 0) [.ref 1, .int 0] (h_im h1 1 33 ((h_i h1 1 33) + 1)) (fun h88 => Wf h88 ∧ (Ci (m_X12_within (d + 2) 0 0) [.ref 1, .int 0, .int 15] h88 (fun r93 h91 => Wf h91 ∧ (Cv (m_X12_say (d + 0) 0 0) [.ref 1, .int r93] h91 (fun h94 => Wf h94 ∧ (K h94)))))))))) : Cv (m_X12_stepRead (d + 61) 0 0) [.ref 1] h K := by
  refine Ct.of (fun _ _ _ => trivial) rfl (Nat.le_of_ble_eq_true rfl) ?_
  show AW (m_X12_stepRead (d + 61) 0 0) 0 0 0 [(0, .ref 1)] [] h (kV K)
  refine aw_aload_n (i := 0) rfl d_X12_stepRead_0 0 rfl ?_
  refine aw_Vi 1 [] [] d_X12_stepRead_1 (cV_X12_look (d + 0) 0 0) kc_12 (ws_1 w) tw_2206 rfl (rr0 (Nat.le_of_ble_eq_true rfl) (Nat.le_of_ble_eq_true rfl)) (Nat.le_of_ble_eq_true rfl) xs0 k (fun r3 h1 kk => ?_)
  obtain ⟨w2, k⟩ := kk
  refine aw_istore_n (i := 1) rfl [(0, .ref 1), (1, .int r3)] d_X12_stepRead_4 (Nat.le_of_ble_eq_true rfl) rfl rfl ?_
  refine aw_iload_n (i := 1) rfl d_X12_stepRead_5 1 rfl ?_
  refine aw_bipush (v := 103) d_X12_stepRead_6 ib_103 ?_
  refine aw_icmp_ne (tgt := 40) d_X12_stepRead_8 rfl (fun c4 => ?_) (fun c4 => ?_)
  · have k := k.1 c4
    refine aw_iload_n (i := 1) rfl d_X12_stepRead_40 1 rfl ?_
    refine aw_bipush (v := 119) d_X12_stepRead_41 ib_119 ?_
    refine aw_icmp_ne (tgt := 76) d_X12_stepRead_43 rfl (fun c5 => ?_) (fun c5 => ?_)
    · have k := k.1 c5
      refine aw_iload_n (i := 1) rfl d_X12_stepRead_76 1 rfl ?_
      refine aw_bipush (v := 112) d_X12_stepRead_77 ib_112 ?_
      refine aw_icmp_ne (tgt := 131) d_X12_stepRead_79 rfl (fun c6 => ?_) (fun c6 => ?_)
      · have k := k.1 c6
        refine aw_iload_n (i := 1) rfl d_X12_stepRead_131 1 rfl ?_
        refine aw_bipush (v := 108) d_X12_stepRead_132 ib_108 ?_
        refine aw_icmp_ne (tgt := 155) d_X12_stepRead_134 rfl (fun c7 => ?_) (fun c7 => ?_)
        · have k := k.1 c7
          refine aw_iload_n (i := 1) rfl d_X12_stepRead_155 1 rfl ?_
          refine aw_bipush (v := 40) d_X12_stepRead_156 ib_40 ?_
          refine aw_icmp_ne (tgt := 266) d_X12_stepRead_158 rfl (fun c8 => ?_) (fun c8 => ?_)
          · have k := k.1 c8
            refine aw_aload_n (i := 0) rfl d_X12_stepRead_266 0 rfl ?_
            refine aw_Vv 1 [] [] d_X12_stepRead_267 (cV_X12_bad (d + 0) 0 0) kc_12 (ws_1 w2) tw_2225 rfl (rr0 (Nat.le_of_ble_eq_true rfl) (Nat.le_of_ble_eq_true rfl)) (Nat.le_of_ble_eq_true rfl) xs0 k (fun h9 kk => ?_)
            obtain ⟨w10, k⟩ := kk
            exact aw_vret rfl d_X12_stepRead_270 ⟨Nat.le_refl _, Nat.le_refl _⟩ ⟨rfl, k⟩
          · have k := k.2 c8
            refine aw_aload_n (i := 0) rfl d_X12_stepRead_161 0 rfl ?_
            refine aw_geti (k0 := 35) kc_12 (ws_1 w2) (Nat.le_of_ble_eq_true rfl) tw_1777 d_X12_stepRead_162 rfl ?_
            refine aw_iconst (v := 4) d_X12_stepRead_165 ic_4 ?_
            refine aw_icmp_ge (tgt := 266) d_X12_stepRead_166 rfl (fun c12 => ?_) (fun c12 => ?_)
            · have k := k.1 c12
              refine aw_aload_n (i := 0) rfl d_X12_stepRead_266 0 rfl ?_
              refine aw_Vv 1 [] [] d_X12_stepRead_267 (cV_X12_bad (d + 0) 0 0) kc_12 (ws_1 w2) tw_2225 rfl (rr0 (Nat.le_of_ble_eq_true rfl) (Nat.le_of_ble_eq_true rfl)) (Nat.le_of_ble_eq_true rfl) xs0 k (fun h13 kk => ?_)
              obtain ⟨w14, k⟩ := kk
              exact aw_vret rfl d_X12_stepRead_270 ⟨Nat.le_refl _, Nat.le_refl _⟩ ⟨rfl, k⟩
            · have k := k.2 c12
              refine aw_aload_n (i := 0) rfl d_X12_stepRead_169 0 rfl ?_
              refine aw_dup d_X12_stepRead_170 rfl ?_
              refine aw_geti (k0 := 35) kc_12 (ws_1 w2) (Nat.le_of_ble_eq_true rfl) tw_1777 d_X12_stepRead_171 rfl ?_
              refine aw_iconst (v := 1) d_X12_stepRead_174 ic_1 ?_
              refine aw_iadd d_X12_stepRead_175 ?_
              refine aw_puti (k0 := 35) kc_12 (ws_1 w2) (Nat.le_of_ble_eq_true rfl) tw_1777 d_X12_stepRead_176 rfl rfl nf_i ?_
              refine aw_aload_n (i := 0) rfl d_X12_stepRead_179 0 rfl ?_
              refine aw_dup d_X12_stepRead_180 rfl ?_
              refine aw_geti (k0 := 33) kc_12 (ws_1 w2) (Nat.le_of_ble_eq_true rfl) tw_1775 d_X12_stepRead_181 rfl ?_
              refine aw_vi (v2 := (h_i h1 1 33)) (rfl) ?_
              refine aw_iconst (v := 1) d_X12_stepRead_184 ic_1 ?_
              refine aw_iadd d_X12_stepRead_185 ?_
              refine aw_puti (k0 := 33) kc_12 (ws_1 w2) (Nat.le_of_ble_eq_true rfl) tw_1775 d_X12_stepRead_186 rfl rfl nf_i ?_
              refine aw_aload_n (i := 0) rfl d_X12_stepRead_189 0 rfl ?_
              refine aw_iconst (v := 4) d_X12_stepRead_190 ic_4 ?_
              refine aw_Vv 1 [.int 4] [] d_X12_stepRead_191 (cV_X12_say (d + 0) 0 0) kc_12 (ws_1 w2) tw_2210 rfl (rr0 (Nat.le_of_ble_eq_true rfl) (Nat.le_of_ble_eq_true rfl)) (Nat.le_of_ble_eq_true rfl) xs0 k (fun h16 kk => ?_)
              obtain ⟨w17, k⟩ := kk
              refine aw_aload_n (i := 0) rfl d_X12_stepRead_194 0 rfl ?_
              refine aw_Vv 1 [] [] d_X12_stepRead_195 (cV_X12_stepsRead (d + 52) 0 0) kc_12 (ws_1 w17) tw_2198 rfl (rr0 (Nat.le_of_ble_eq_true rfl) (Nat.le_of_ble_eq_true rfl)) (Nat.le_of_ble_eq_true rfl) xs0 k (fun h19 kk => ?_)
              obtain ⟨w20, k⟩ := kk
              refine aw_aload_n (i := 0) rfl d_X12_stepRead_198 0 rfl ?_
              refine aw_geti (k0 := 34) kc_12 (ws_1 w20) (Nat.le_of_ble_eq_true rfl) tw_1776 d_X12_stepRead_199 rfl ?_
              refine aw_iconst (v := (-1)) d_X12_stepRead_202 ic_m1 ?_
              refine aw_icmp_ne (tgt := 219) d_X12_stepRead_203 rfl (fun c22 => ?_) (fun c22 => ?_)
              · have k := k.1 c22
                refine aw_aload_n (i := 0) rfl d_X12_stepRead_219 0 rfl ?_
                refine aw_dup d_X12_stepRead_220 rfl ?_
                refine aw_geti (k0 := 33) kc_12 (ws_1 w20) (Nat.le_of_ble_eq_true rfl) tw_1775 d_X12_stepRead_221 rfl ?_
                refine aw_iconst (v := 1) d_X12_stepRead_224 ic_1 ?_
                refine aw_iadd d_X12_stepRead_225 ?_
                refine aw_puti (k0 := 33) kc_12 (ws_1 w20) (Nat.le_of_ble_eq_true rfl) tw_1775 d_X12_stepRead_226 rfl rfl nf_i ?_
                refine aw_aload_n (i := 0) rfl d_X12_stepRead_229 0 rfl ?_
                refine aw_dup d_X12_stepRead_230 rfl ?_
                refine aw_geti (k0 := 35) kc_12 (ws_1 w20) (Nat.le_of_ble_eq_true rfl) tw_1777 d_X12_stepRead_231 rfl ?_
                refine aw_vi (v2 := (h_i h19 1 35)) (rfl) ?_
                refine aw_iconst (v := 1) d_X12_stepRead_234 ic_1 ?_
                refine aw_isub d_X12_stepRead_235 ?_
                refine aw_puti (k0 := 35) kc_12 (ws_1 w20) (Nat.le_of_ble_eq_true rfl) tw_1777 d_X12_stepRead_236 rfl rfl nf_i ?_
                refine aw_aload_n (i := 0) rfl d_X12_stepRead_239 0 rfl ?_
                refine aw_geti (k0 := 34) kc_12 (ws_1 w20) (Nat.le_of_ble_eq_true rfl) tw_1776 d_X12_stepRead_240 rfl ?_
                refine aw_vi (v2 := (h_i h19 1 34)) (rfl) ?_
                refine aw_iconst (v := (-1)) d_X12_stepRead_243 ic_m1 ?_
                refine aw_icmp_ne (tgt := 270) d_X12_stepRead_244 rfl (fun c23 => ?_) (fun c23 => ?_)
                · have k := k.1 c23
                  exact aw_vret rfl d_X12_stepRead_270 ⟨Nat.le_refl _, Nat.le_refl _⟩ ⟨rfl, k⟩
                · have k := k.2 c23
                  refine aw_aload_n (i := 0) rfl d_X12_stepRead_247 0 rfl ?_
                  refine aw_iconst (v := 5) d_X12_stepRead_248 ic_5 ?_
                  refine aw_Vv 1 [.int 5] [] d_X12_stepRead_249 (cV_X12_say (d + 0) 0 0) kc_12 (ws_1 w20) tw_2210 rfl (rr0 (Nat.le_of_ble_eq_true rfl) (Nat.le_of_ble_eq_true rfl)) (Nat.le_of_ble_eq_true rfl) xs0 k (fun h24 kk => ?_)
                  obtain ⟨w25, k⟩ := kk
                  refine aw_aload_n (i := 0) rfl d_X12_stepRead_252 0 rfl ?_
                  refine aw_aload_n (i := 0) rfl d_X12_stepRead_253 0 rfl ?_
                  refine aw_iconst (v := 1) d_X12_stepRead_254 ic_1 ?_
                  refine aw_bipush (v := 20) d_X12_stepRead_255 ib_20 ?_
                  refine aw_Vi 1 [.int 1, .int 20] [.ref 1] d_X12_stepRead_257 (cV_X12_within (d + 2) 0 0) kc_12 (ws_1 w25) tw_2214 rfl (rr0 (Nat.le_of_ble_eq_true rfl) (Nat.le_of_ble_eq_true rfl)) (Nat.le_of_ble_eq_true rfl) xs0 k (fun r29 h27 kk => ?_)
                  obtain ⟨w28, k⟩ := kk
                  refine aw_Vv 1 [.int r29] [] d_X12_stepRead_260 (cV_X12_say (d + 0) 0 0) kc_12 (ws_1 w28) tw_2210 rfl (rr0 (Nat.le_of_ble_eq_true rfl) (Nat.le_of_ble_eq_true rfl)) (Nat.le_of_ble_eq_true rfl) xs0 k (fun h30 kk => ?_)
                  obtain ⟨w31, k⟩ := kk
                  refine aw_goto (tgt := 270) d_X12_stepRead_263 rfl ?_
                  exact aw_vret rfl d_X12_stepRead_270 ⟨Nat.le_refl _, Nat.le_refl _⟩ ⟨rfl, k⟩
              · have k := k.2 c22
                refine aw_aload_n (i := 0) rfl d_X12_stepRead_206 0 rfl ?_
                refine aw_Vi 1 [] [] d_X12_stepRead_207 (cV_X12_look (d + 0) 0 0) kc_12 (ws_1 w20) tw_2206 rfl (rr0 (Nat.le_of_ble_eq_true rfl) (Nat.le_of_ble_eq_true rfl)) (Nat.le_of_ble_eq_true rfl) xs0 k (fun r35 h33 kk => ?_)
                obtain ⟨w34, k⟩ := kk
                refine aw_bipush (v := 41) d_X12_stepRead_210 ib_41 ?_
                refine aw_icmp_eq (tgt := 219) d_X12_stepRead_212 rfl (fun c36 => ?_) (fun c36 => ?_)
                · have k := k.1 c36
                  refine aw_aload_n (i := 0) rfl d_X12_stepRead_219 0 rfl ?_
                  refine aw_dup d_X12_stepRead_220 rfl ?_
                  refine aw_geti (k0 := 33) kc_12 (ws_1 w34) (Nat.le_of_ble_eq_true rfl) tw_1775 d_X12_stepRead_221 rfl ?_
                  refine aw_iconst (v := 1) d_X12_stepRead_224 ic_1 ?_
                  refine aw_iadd d_X12_stepRead_225 ?_
                  refine aw_puti (k0 := 33) kc_12 (ws_1 w34) (Nat.le_of_ble_eq_true rfl) tw_1775 d_X12_stepRead_226 rfl rfl nf_i ?_
                  refine aw_aload_n (i := 0) rfl d_X12_stepRead_229 0 rfl ?_
                  refine aw_dup d_X12_stepRead_230 rfl ?_
                  refine aw_geti (k0 := 35) kc_12 (ws_1 w34) (Nat.le_of_ble_eq_true rfl) tw_1777 d_X12_stepRead_231 rfl ?_
                  refine aw_vi (v2 := (h_i h33 1 35)) (rfl) ?_
                  refine aw_iconst (v := 1) d_X12_stepRead_234 ic_1 ?_
                  refine aw_isub d_X12_stepRead_235 ?_
                  refine aw_puti (k0 := 35) kc_12 (ws_1 w34) (Nat.le_of_ble_eq_true rfl) tw_1777 d_X12_stepRead_236 rfl rfl nf_i ?_
                  refine aw_aload_n (i := 0) rfl d_X12_stepRead_239 0 rfl ?_
                  refine aw_geti (k0 := 34) kc_12 (ws_1 w34) (Nat.le_of_ble_eq_true rfl) tw_1776 d_X12_stepRead_240 rfl ?_
                  refine aw_vi (v2 := (h_i h33 1 34)) (rfl) ?_
                  refine aw_iconst (v := (-1)) d_X12_stepRead_243 ic_m1 ?_
                  refine aw_icmp_ne (tgt := 270) d_X12_stepRead_244 rfl (fun c37 => ?_) (fun c37 => ?_)
                  · have k := k.1 c37
                    exact aw_vret rfl d_X12_stepRead_270 ⟨Nat.le_refl _, Nat.le_refl _⟩ ⟨rfl, k⟩
                  · have k := k.2 c37
                    refine aw_aload_n (i := 0) rfl d_X12_stepRead_247 0 rfl ?_
                    refine aw_iconst (v := 5) d_X12_stepRead_248 ic_5 ?_
                    refine aw_Vv 1 [.int 5] [] d_X12_stepRead_249 (cV_X12_say (d + 0) 0 0) kc_12 (ws_1 w34) tw_2210 rfl (rr0 (Nat.le_of_ble_eq_true rfl) (Nat.le_of_ble_eq_true rfl)) (Nat.le_of_ble_eq_true rfl) xs0 k (fun h38 kk => ?_)
                    obtain ⟨w39, k⟩ := kk
                    refine aw_aload_n (i := 0) rfl d_X12_stepRead_252 0 rfl ?_
                    refine aw_aload_n (i := 0) rfl d_X12_stepRead_253 0 rfl ?_
                    refine aw_iconst (v := 1) d_X12_stepRead_254 ic_1 ?_
                    refine aw_bipush (v := 20) d_X12_stepRead_255 ib_20 ?_
                    refine aw_Vi 1 [.int 1, .int 20] [.ref 1] d_X12_stepRead_257 (cV_X12_within (d + 2) 0 0) kc_12 (ws_1 w39) tw_2214 rfl (rr0 (Nat.le_of_ble_eq_true rfl) (Nat.le_of_ble_eq_true rfl)) (Nat.le_of_ble_eq_true rfl) xs0 k (fun r43 h41 kk => ?_)
                    obtain ⟨w42, k⟩ := kk
                    refine aw_Vv 1 [.int r43] [] d_X12_stepRead_260 (cV_X12_say (d + 0) 0 0) kc_12 (ws_1 w42) tw_2210 rfl (rr0 (Nat.le_of_ble_eq_true rfl) (Nat.le_of_ble_eq_true rfl)) (Nat.le_of_ble_eq_true rfl) xs0 k (fun h44 kk => ?_)
                    obtain ⟨w45, k⟩ := kk
                    refine aw_goto (tgt := 270) d_X12_stepRead_263 rfl ?_
                    exact aw_vret rfl d_X12_stepRead_270 ⟨Nat.le_refl _, Nat.le_refl _⟩ ⟨rfl, k⟩
                · have k := k.2 c36
                  refine aw_aload_n (i := 0) rfl d_X12_stepRead_215 0 rfl ?_
                  refine aw_Vv 1 [] [] d_X12_stepRead_216 (cV_X12_bad (d + 0) 0 0) kc_12 (ws_1 w34) tw_2225 rfl (rr0 (Nat.le_of_ble_eq_true rfl) (Nat.le_of_ble_eq_true rfl)) (Nat.le_of_ble_eq_true rfl) xs0 k (fun h47 kk => ?_)
                  obtain ⟨w48, k⟩ := kk
                  refine aw_aload_n (i := 0) rfl d_X12_stepRead_219 0 rfl ?_
                  refine aw_dup d_X12_stepRead_220 rfl ?_
                  refine aw_geti (k0 := 33) kc_12 (ws_1 w48) (Nat.le_of_ble_eq_true rfl) tw_1775 d_X12_stepRead_221 rfl ?_
                  refine aw_iconst (v := 1) d_X12_stepRead_224 ic_1 ?_
                  refine aw_iadd d_X12_stepRead_225 ?_
                  refine aw_puti (k0 := 33) kc_12 (ws_1 w48) (Nat.le_of_ble_eq_true rfl) tw_1775 d_X12_stepRead_226 rfl rfl nf_i ?_
                  refine aw_aload_n (i := 0) rfl d_X12_stepRead_229 0 rfl ?_
                  refine aw_dup d_X12_stepRead_230 rfl ?_
                  refine aw_geti (k0 := 35) kc_12 (ws_1 w48) (Nat.le_of_ble_eq_true rfl) tw_1777 d_X12_stepRead_231 rfl ?_
                  refine aw_vi (v2 := (h_i h47 1 35)) (rfl) ?_
                  refine aw_iconst (v := 1) d_X12_stepRead_234 ic_1 ?_
                  refine aw_isub d_X12_stepRead_235 ?_
                  refine aw_puti (k0 := 35) kc_12 (ws_1 w48) (Nat.le_of_ble_eq_true rfl) tw_1777 d_X12_stepRead_236 rfl rfl nf_i ?_
                  refine aw_aload_n (i := 0) rfl d_X12_stepRead_239 0 rfl ?_
                  refine aw_geti (k0 := 34) kc_12 (ws_1 w48) (Nat.le_of_ble_eq_true rfl) tw_1776 d_X12_stepRead_240 rfl ?_
                  refine aw_vi (v2 := (h_i h47 1 34)) (rfl) ?_
                  refine aw_iconst (v := (-1)) d_X12_stepRead_243 ic_m1 ?_
                  refine aw_icmp_ne (tgt := 270) d_X12_stepRead_244 rfl (fun c50 => ?_) (fun c50 => ?_)
                  · have k := k.1 c50
                    exact aw_vret rfl d_X12_stepRead_270 ⟨Nat.le_refl _, Nat.le_refl _⟩ ⟨rfl, k⟩
                  · have k := k.2 c50
                    refine aw_aload_n (i := 0) rfl d_X12_stepRead_247 0 rfl ?_
                    refine aw_iconst (v := 5) d_X12_stepRead_248 ic_5 ?_
                    refine aw_Vv 1 [.int 5] [] d_X12_stepRead_249 (cV_X12_say (d + 0) 0 0) kc_12 (ws_1 w48) tw_2210 rfl (rr0 (Nat.le_of_ble_eq_true rfl) (Nat.le_of_ble_eq_true rfl)) (Nat.le_of_ble_eq_true rfl) xs0 k (fun h51 kk => ?_)
                    obtain ⟨w52, k⟩ := kk
                    refine aw_aload_n (i := 0) rfl d_X12_stepRead_252 0 rfl ?_
                    refine aw_aload_n (i := 0) rfl d_X12_stepRead_253 0 rfl ?_
                    refine aw_iconst (v := 1) d_X12_stepRead_254 ic_1 ?_
                    refine aw_bipush (v := 20) d_X12_stepRead_255 ib_20 ?_
                    refine aw_Vi 1 [.int 1, .int 20] [.ref 1] d_X12_stepRead_257 (cV_X12_within (d + 2) 0 0) kc_12 (ws_1 w52) tw_2214 rfl (rr0 (Nat.le_of_ble_eq_true rfl) (Nat.le_of_ble_eq_true rfl)) (Nat.le_of_ble_eq_true rfl) xs0 k (fun r56 h54 kk => ?_)
                    obtain ⟨w55, k⟩ := kk
                    refine aw_Vv 1 [.int r56] [] d_X12_stepRead_260 (cV_X12_say (d + 0) 0 0) kc_12 (ws_1 w55) tw_2210 rfl (rr0 (Nat.le_of_ble_eq_true rfl) (Nat.le_of_ble_eq_true rfl)) (Nat.le_of_ble_eq_true rfl) xs0 k (fun h57 kk => ?_)
                    obtain ⟨w58, k⟩ := kk
                    refine aw_goto (tgt := 270) d_X12_stepRead_263 rfl ?_
                    exact aw_vret rfl d_X12_stepRead_270 ⟨Nat.le_refl _, Nat.le_refl _⟩ ⟨rfl, k⟩
        · have k := k.2 c7
          refine aw_aload_n (i := 0) rfl d_X12_stepRead_137 0 rfl ?_
          refine aw_dup d_X12_stepRead_138 rfl ?_
          refine aw_geti (k0 := 33) kc_12 (ws_1 w2) (Nat.le_of_ble_eq_true rfl) tw_1775 d_X12_stepRead_139 rfl ?_
          refine aw_iconst (v := 1) d_X12_stepRead_142 ic_1 ?_
          refine aw_iadd d_X12_stepRead_143 ?_
          refine aw_puti (k0 := 33) kc_12 (ws_1 w2) (Nat.le_of_ble_eq_true rfl) tw_1775 d_X12_stepRead_144 rfl rfl nf_i ?_
          refine aw_aload_n (i := 0) rfl d_X12_stepRead_147 0 rfl ?_
          refine aw_iconst (v := 3) d_X12_stepRead_148 ic_3 ?_
          refine aw_Vv 1 [.int 3] [] d_X12_stepRead_149 (cV_X12_say (d + 0) 0 0) kc_12 (ws_1 w2) tw_2210 rfl (rr0 (Nat.le_of_ble_eq_true rfl) (Nat.le_of_ble_eq_true rfl)) (Nat.le_of_ble_eq_true rfl) xs0 k (fun h60 kk => ?_)
          obtain ⟨w61, k⟩ := kk
          refine aw_goto (tgt := 270) d_X12_stepRead_152 rfl ?_
          exact aw_vret rfl d_X12_stepRead_270 ⟨Nat.le_refl _, Nat.le_refl _⟩ ⟨rfl, k⟩
      · have k := k.2 c6
        refine aw_aload_n (i := 0) rfl d_X12_stepRead_82 0 rfl ?_
        refine aw_dup d_X12_stepRead_83 rfl ?_
        refine aw_geti (k0 := 33) kc_12 (ws_1 w2) (Nat.le_of_ble_eq_true rfl) tw_1775 d_X12_stepRead_84 rfl ?_
        refine aw_iconst (v := 1) d_X12_stepRead_87 ic_1 ?_
        refine aw_iadd d_X12_stepRead_88 ?_
        refine aw_puti (k0 := 33) kc_12 (ws_1 w2) (Nat.le_of_ble_eq_true rfl) tw_1775 d_X12_stepRead_89 rfl rfl nf_i ?_
        refine aw_aload_n (i := 0) rfl d_X12_stepRead_92 0 rfl ?_
        refine aw_iconst (v := 2) d_X12_stepRead_93 ic_2 ?_
        refine aw_Vv 1 [.int 2] [] d_X12_stepRead_94 (cV_X12_say (d + 0) 0 0) kc_12 (ws_1 w2) tw_2210 rfl (rr0 (Nat.le_of_ble_eq_true rfl) (Nat.le_of_ble_eq_true rfl)) (Nat.le_of_ble_eq_true rfl) xs0 k (fun h63 kk => ?_)
        obtain ⟨w64, k⟩ := kk
        refine aw_aload_n (i := 0) rfl d_X12_stepRead_97 0 rfl ?_
        refine aw_aload_n (i := 0) rfl d_X12_stepRead_98 0 rfl ?_
        refine aw_iconst (v := 0) d_X12_stepRead_99 ic_0 ?_
        refine aw_bipush (v := 15) d_X12_stepRead_100 ib_15 ?_
        refine aw_Vi 1 [.int 0, .int 15] [.ref 1] d_X12_stepRead_102 (cV_X12_within (d + 2) 0 0) kc_12 (ws_1 w64) tw_2214 rfl (rr0 (Nat.le_of_ble_eq_true rfl) (Nat.le_of_ble_eq_true rfl)) (Nat.le_of_ble_eq_true rfl) xs0 k (fun r68 h66 kk => ?_)
        obtain ⟨w67, k⟩ := kk
        refine aw_Vv 1 [.int r68] [] d_X12_stepRead_105 (cV_X12_say (d + 0) 0 0) kc_12 (ws_1 w67) tw_2210 rfl (rr0 (Nat.le_of_ble_eq_true rfl) (Nat.le_of_ble_eq_true rfl)) (Nat.le_of_ble_eq_true rfl) xs0 k (fun h69 kk => ?_)
        obtain ⟨w70, k⟩ := kk
        refine aw_aload_n (i := 0) rfl d_X12_stepRead_108 0 rfl ?_
        refine aw_geti (k0 := 34) kc_12 (ws_1 w70) (Nat.le_of_ble_eq_true rfl) tw_1776 d_X12_stepRead_109 rfl ?_
        refine aw_iconst (v := (-1)) d_X12_stepRead_112 ic_m1 ?_
        refine aw_icmp_ne (tgt := 270) d_X12_stepRead_113 rfl (fun c72 => ?_) (fun c72 => ?_)
        · have k := k.1 c72
          exact aw_vret rfl d_X12_stepRead_270 ⟨Nat.le_refl _, Nat.le_refl _⟩ ⟨rfl, k⟩
        · have k := k.2 c72
          refine aw_aload_n (i := 0) rfl d_X12_stepRead_116 0 rfl ?_
          refine aw_aload_n (i := 0) rfl d_X12_stepRead_117 0 rfl ?_
          refine aw_iconst (v := 0) d_X12_stepRead_118 ic_0 ?_
          refine aw_sipush (v := 1440) d_X12_stepRead_119 is_1440 ?_
          refine aw_Vi 1 [.int 0, .int 1440] [.ref 1] d_X12_stepRead_122 (cV_X12_within (d + 2) 0 0) kc_12 (ws_1 w70) tw_2214 rfl (rr0 (Nat.le_of_ble_eq_true rfl) (Nat.le_of_ble_eq_true rfl)) (Nat.le_of_ble_eq_true rfl) xs0 k (fun r75 h73 kk => ?_)
          obtain ⟨w74, k⟩ := kk
          refine aw_Vv 1 [.int r75] [] d_X12_stepRead_125 (cV_X12_say (d + 0) 0 0) kc_12 (ws_1 w74) tw_2210 rfl (rr0 (Nat.le_of_ble_eq_true rfl) (Nat.le_of_ble_eq_true rfl)) (Nat.le_of_ble_eq_true rfl) xs0 k (fun h76 kk => ?_)
          obtain ⟨w77, k⟩ := kk
          refine aw_goto (tgt := 270) d_X12_stepRead_128 rfl ?_
          exact aw_vret rfl d_X12_stepRead_270 ⟨Nat.le_refl _, Nat.le_refl _⟩ ⟨rfl, k⟩
    · have k := k.2 c5
      refine aw_aload_n (i := 0) rfl d_X12_stepRead_46 0 rfl ?_
      refine aw_dup d_X12_stepRead_47 rfl ?_
      refine aw_geti (k0 := 33) kc_12 (ws_1 w2) (Nat.le_of_ble_eq_true rfl) tw_1775 d_X12_stepRead_48 rfl ?_
      refine aw_iconst (v := 1) d_X12_stepRead_51 ic_1 ?_
      refine aw_iadd d_X12_stepRead_52 ?_
      refine aw_puti (k0 := 33) kc_12 (ws_1 w2) (Nat.le_of_ble_eq_true rfl) tw_1775 d_X12_stepRead_53 rfl rfl nf_i ?_
      refine aw_aload_n (i := 0) rfl d_X12_stepRead_56 0 rfl ?_
      refine aw_iconst (v := 1) d_X12_stepRead_57 ic_1 ?_
      refine aw_Vv 1 [.int 1] [] d_X12_stepRead_58 (cV_X12_say (d + 0) 0 0) kc_12 (ws_1 w2) tw_2210 rfl (rr0 (Nat.le_of_ble_eq_true rfl) (Nat.le_of_ble_eq_true rfl)) (Nat.le_of_ble_eq_true rfl) xs0 k (fun h79 kk => ?_)
      obtain ⟨w80, k⟩ := kk
      refine aw_aload_n (i := 0) rfl d_X12_stepRead_61 0 rfl ?_
      refine aw_aload_n (i := 0) rfl d_X12_stepRead_62 0 rfl ?_
      refine aw_iconst (v := 1) d_X12_stepRead_63 ic_1 ?_
      refine aw_sipush (v := 240) d_X12_stepRead_64 is_240 ?_
      refine aw_Vi 1 [.int 1, .int 240] [.ref 1] d_X12_stepRead_67 (cV_X12_within (d + 2) 0 0) kc_12 (ws_1 w80) tw_2214 rfl (rr0 (Nat.le_of_ble_eq_true rfl) (Nat.le_of_ble_eq_true rfl)) (Nat.le_of_ble_eq_true rfl) xs0 k (fun r84 h82 kk => ?_)
      obtain ⟨w83, k⟩ := kk
      refine aw_Vv 1 [.int r84] [] d_X12_stepRead_70 (cV_X12_say (d + 0) 0 0) kc_12 (ws_1 w83) tw_2210 rfl (rr0 (Nat.le_of_ble_eq_true rfl) (Nat.le_of_ble_eq_true rfl)) (Nat.le_of_ble_eq_true rfl) xs0 k (fun h85 kk => ?_)
      obtain ⟨w86, k⟩ := kk
      refine aw_goto (tgt := 270) d_X12_stepRead_73 rfl ?_
      exact aw_vret rfl d_X12_stepRead_270 ⟨Nat.le_refl _, Nat.le_refl _⟩ ⟨rfl, k⟩
  · have k := k.2 c4
    refine aw_aload_n (i := 0) rfl d_X12_stepRead_11 0 rfl ?_
    refine aw_dup d_X12_stepRead_12 rfl ?_
    refine aw_geti (k0 := 33) kc_12 (ws_1 w2) (Nat.le_of_ble_eq_true rfl) tw_1775 d_X12_stepRead_13 rfl ?_
    refine aw_iconst (v := 1) d_X12_stepRead_16 ic_1 ?_
    refine aw_iadd d_X12_stepRead_17 ?_
    refine aw_puti (k0 := 33) kc_12 (ws_1 w2) (Nat.le_of_ble_eq_true rfl) tw_1775 d_X12_stepRead_18 rfl rfl nf_i ?_
    refine aw_aload_n (i := 0) rfl d_X12_stepRead_21 0 rfl ?_
    refine aw_iconst (v := 0) d_X12_stepRead_22 ic_0 ?_
    refine aw_Vv 1 [.int 0] [] d_X12_stepRead_23 (cV_X12_say (d + 0) 0 0) kc_12 (ws_1 w2) tw_2210 rfl (rr0 (Nat.le_of_ble_eq_true rfl) (Nat.le_of_ble_eq_true rfl)) (Nat.le_of_ble_eq_true rfl) xs0 k (fun h88 kk => ?_)
    obtain ⟨w89, k⟩ := kk
    refine aw_aload_n (i := 0) rfl d_X12_stepRead_26 0 rfl ?_
    refine aw_aload_n (i := 0) rfl d_X12_stepRead_27 0 rfl ?_
    refine aw_iconst (v := 0) d_X12_stepRead_28 ic_0 ?_
    refine aw_bipush (v := 15) d_X12_stepRead_29 ib_15 ?_
    refine aw_Vi 1 [.int 0, .int 15] [.ref 1] d_X12_stepRead_31 (cV_X12_within (d + 2) 0 0) kc_12 (ws_1 w89) tw_2214 rfl (rr0 (Nat.le_of_ble_eq_true rfl) (Nat.le_of_ble_eq_true rfl)) (Nat.le_of_ble_eq_true rfl) xs0 k (fun r93 h91 kk => ?_)
    obtain ⟨w92, k⟩ := kk
    refine aw_Vv 1 [.int r93] [] d_X12_stepRead_34 (cV_X12_say (d + 0) 0 0) kc_12 (ws_1 w92) tw_2210 rfl (rr0 (Nat.le_of_ble_eq_true rfl) (Nat.le_of_ble_eq_true rfl)) (Nat.le_of_ble_eq_true rfl) xs0 k (fun h94 kk => ?_)
    obtain ⟨w95, k⟩ := kk
    refine aw_goto (tgt := 270) d_X12_stepRead_37 rfl ?_
    exact aw_vret rfl d_X12_stepRead_270 ⟨Nat.le_refl _, Nat.le_refl _⟩ ⟨rfl, k⟩
theorem t_X12_stepsRead (d : Nat) (h : Hp_) (w : Wf h)  (K : Hp_ → Prop) (k : Cv (m_X12_stepRead (d + 51) 0 0) [.ref 1] h (fun h1 => Wf h1 ∧ (AW (m_X12_stepsRead (d + 52) 0 0) 0 0 4 [(0, .ref 1)] [] h1 (kV K)))) : Cv (m_X12_stepsRead (d + 52) 0 0) [.ref 1] h K := by
  refine Ct.of (fun _ _ _ => trivial) rfl (Nat.le_of_ble_eq_true rfl) ?_
  show AW (m_X12_stepsRead (d + 52) 0 0) 0 0 0 [(0, .ref 1)] [] h (kV K)
  refine aw_aload_n (i := 0) rfl d_X12_stepsRead_0 0 rfl ?_
  refine aw_Vv 1 [] [] d_X12_stepsRead_1 (cV_X12_stepRead (d + 51) 0 0) kc_12 (ws_1 w) tw_2202 rfl (rr0 (Nat.le_of_ble_eq_true rfl) (Nat.le_of_ble_eq_true rfl)) (Nat.le_of_ble_eq_true rfl) xs0 k (fun h1 kk => ?_)
  obtain ⟨w2, k⟩ := kk
  exact k
theorem t_X12_stepsRead_4 (d : Nat) (h : Hp_) (w : Wf h)  (K : Hp_ → Prop) (k : (¬ (h_i h 1 34) = (-1) → K h) ∧ ((h_i h 1 34) = (-1) → Ci (m_X12_look (d + 0) 0 0) [.ref 1] h (fun r7 h5 => Wf h5 ∧ ((¬ r7 = 59 → K h5) ∧ (r7 = 59 → Cv (m_X12_stepRead (d + 51) 0 0) [.ref 1] (h_im h5 1 33 ((h_i h5 1 33) + 1)) (fun h9 => Wf h9 ∧ (AW (m_X12_stepsRead (d + 52) 0 0) 0 0 4 [(0, .ref 1)] [] h9 (kV K)))))))) : AW (m_X12_stepsRead (d + 52) 0 0) 0 0 4 [(0, .ref 1)] [] h (kV K) := by
  refine aw_aload_n (i := 0) rfl d_X12_stepsRead_4 0 rfl ?_
  refine aw_geti (k0 := 34) kc_12 (ws_1 w) (Nat.le_of_ble_eq_true rfl) tw_1776 d_X12_stepsRead_5 rfl ?_
  refine aw_iconst (v := (-1)) d_X12_stepsRead_8 ic_m1 ?_
  refine aw_icmp_ne (tgt := 38) d_X12_stepsRead_9 rfl (fun c4 => ?_) (fun c4 => ?_)
  · have k := k.1 c4
    exact aw_vret rfl d_X12_stepsRead_38 ⟨Nat.le_refl _, Nat.le_refl _⟩ ⟨rfl, k⟩
  · have k := k.2 c4
    refine aw_aload_n (i := 0) rfl d_X12_stepsRead_12 0 rfl ?_
    refine aw_Vi 1 [] [] d_X12_stepsRead_13 (cV_X12_look (d + 0) 0 0) kc_12 (ws_1 w) tw_2206 rfl (rr0 (Nat.le_of_ble_eq_true rfl) (Nat.le_of_ble_eq_true rfl)) (Nat.le_of_ble_eq_true rfl) xs0 k (fun r7 h5 kk => ?_)
    obtain ⟨w6, k⟩ := kk
    refine aw_bipush (v := 59) d_X12_stepsRead_16 ib_59 ?_
    refine aw_icmp_ne (tgt := 38) d_X12_stepsRead_18 rfl (fun c8 => ?_) (fun c8 => ?_)
    · have k := k.1 c8
      exact aw_vret rfl d_X12_stepsRead_38 ⟨Nat.le_refl _, Nat.le_refl _⟩ ⟨rfl, k⟩
    · have k := k.2 c8
      refine aw_aload_n (i := 0) rfl d_X12_stepsRead_21 0 rfl ?_
      refine aw_dup d_X12_stepsRead_22 rfl ?_
      refine aw_geti (k0 := 33) kc_12 (ws_1 w6) (Nat.le_of_ble_eq_true rfl) tw_1775 d_X12_stepsRead_23 rfl ?_
      refine aw_iconst (v := 1) d_X12_stepsRead_26 ic_1 ?_
      refine aw_iadd d_X12_stepsRead_27 ?_
      refine aw_puti (k0 := 33) kc_12 (ws_1 w6) (Nat.le_of_ble_eq_true rfl) tw_1775 d_X12_stepsRead_28 rfl rfl nf_i ?_
      refine aw_aload_n (i := 0) rfl d_X12_stepsRead_31 0 rfl ?_
      refine aw_Vv 1 [] [] d_X12_stepsRead_32 (cV_X12_stepRead (d + 51) 0 0) kc_12 (ws_1 w6) tw_2202 rfl (rr0 (Nat.le_of_ble_eq_true rfl) (Nat.le_of_ble_eq_true rfl)) (Nat.le_of_ble_eq_true rfl) xs0 k (fun h9 kk => ?_)
      obtain ⟨w10, k⟩ := kk
      refine aw_goto (tgt := 4) d_X12_stepsRead_35 rfl ?_
      exact k
theorem t_X12_text (d : Nat) (h : Hp_) (w : Wf h) (x1 : Int32) (x2 : Int32) (K : Int32 → Hp_ → Prop) (k : (¬ (0 ≤ x2 ∧ x2 ≤ 30) → K (-1) h) ∧ ((0 ≤ x2 ∧ x2 ≤ 30) → vp_in x1 2 ∧ (((h_i h 235 x1.toNatClampNeg) = 20 → K (-1) h) ∧ (¬ (h_i h 235 x1.toNatClampNeg) = 20 → Ci (m_X12_fault (d + 59) 0 0) [.ref 1, .int (x1 + 1)] h (fun r8 h6 => Wf h6 ∧ ((r8 = (-1) → vp_in x1 2 ∧ (AW (m_X12_text (d + 60) 0 0) 0 0 49 [(0, .ref 1), (1, .int x1), (2, .int x2), (3, .int ((20 * x1) + (h_i h6 235 x1.toNatClampNeg))), (4, .int 0)] [] h6 (kI K))) ∧ (¬ r8 = (-1) → K (-1) h6))))))) : Ci (m_X12_text (d + 60) 0 0) [.ref 1, .int x1, .int x2] h K := by
  refine Ct.of (fun _ _ _ => trivial) rfl (Nat.le_of_ble_eq_true rfl) ?_
  show AW (m_X12_text (d + 60) 0 0) 0 0 0 [(0, .ref 1), (1, .int x1), (2, .int x2)] [] h (kI K)
  refine aw_iload_n (i := 2) rfl d_X12_text_0 2 rfl ?_
  refine aw_iconst (v := 0) d_X12_text_1 ic_0 ?_
  refine aw_bipush (v := 30) d_X12_text_2 ib_30 ?_
  refine aw_Si [.int x2, .int 0, .int 30] [] d_X12_text_4 (cS_X12_in (d + 0) 0 0) tw_2143 rfl (rr0 (Nat.le_of_ble_eq_true rfl) (Nat.le_of_ble_eq_true rfl)) (Nat.le_of_ble_eq_true rfl) xs0 (s_X12_in _ _ x2 0 30) (fun _ _ kk => ?_)
  obtain ⟨e1, e2⟩ := kk
  rw [e1, e2]
  refine aw_ifb_eq (tgt := 32) d_X12_text_7 rfl (fun c3 => ?_) (fun c3 => ?_)
  · have k := k.1 c3
    refine aw_iconst (v := (-1)) d_X12_text_32 ic_m1 ?_
    exact aw_iret rfl d_X12_text_33 ⟨Nat.le_refl _, Nat.le_refl _⟩ ⟨_, rfl, k⟩
  · have k := k.2 c3
    refine aw_aload_n (i := 0) rfl d_X12_text_10 0 rfl ?_
    refine aw_getr (k0 := 49) kc_12 (ws_1 w) (Nat.le_of_ble_eq_true rfl) tw_1791 d_X12_text_11 rfl (wr_1_49 w) ?_
    refine aw_iload_n (i := 1) rfl d_X12_text_14 1 rfl ?_
    obtain ⟨b4, k⟩ := k
    refine aw_iald (ws_235 w) b4 d_X12_text_15 ?_
    refine aw_bipush (v := 20) d_X12_text_16 ib_20 ?_
    refine aw_icmp_eq (tgt := 32) d_X12_text_18 rfl (fun c5 => ?_) (fun c5 => ?_)
    · have k := k.1 c5
      refine aw_iconst (v := (-1)) d_X12_text_32 ic_m1 ?_
      exact aw_iret rfl d_X12_text_33 ⟨Nat.le_refl _, Nat.le_refl _⟩ ⟨_, rfl, k⟩
    · have k := k.2 c5
      refine aw_aload_n (i := 0) rfl d_X12_text_21 0 rfl ?_
      refine aw_iload_n (i := 1) rfl d_X12_text_22 1 rfl ?_
      refine aw_iconst (v := 1) d_X12_text_23 ic_1 ?_
      refine aw_iadd d_X12_text_24 ?_
      refine aw_Vi 1 [.int (x1 + 1)] [] d_X12_text_25 (cV_X12_fault (d + 59) 0 0) kc_12 (ws_1 w) tw_2194 rfl (rr0 (Nat.le_of_ble_eq_true rfl) (Nat.le_of_ble_eq_true rfl)) (Nat.le_of_ble_eq_true rfl) xs0 k (fun r8 h6 kk => ?_)
      obtain ⟨w7, k⟩ := kk
      refine aw_iconst (v := (-1)) d_X12_text_28 ic_m1 ?_
      refine aw_icmp_eq (tgt := 34) d_X12_text_29 rfl (fun c9 => ?_) (fun c9 => ?_)
      · have k := k.1 c9
        refine aw_bipush (v := 20) d_X12_text_34 ib_20 ?_
        refine aw_iload_n (i := 1) rfl d_X12_text_36 1 rfl ?_
        refine aw_imul d_X12_text_37 ?_
        refine aw_aload_n (i := 0) rfl d_X12_text_38 0 rfl ?_
        refine aw_getr (k0 := 49) kc_12 (ws_1 w7) (Nat.le_of_ble_eq_true rfl) tw_1791 d_X12_text_39 rfl (wr_1_49 w7) ?_
        refine aw_iload_n (i := 1) rfl d_X12_text_42 1 rfl ?_
        obtain ⟨b10, k⟩ := k
        refine aw_iald (ws_235 w7) b10 d_X12_text_43 ?_
        refine aw_iadd d_X12_text_44 ?_
        refine aw_istore_n (i := 3) rfl [(0, .ref 1), (1, .int x1), (2, .int x2), (3, .int ((20 * x1) + (h_i h6 235 x1.toNatClampNeg)))] d_X12_text_45 (Nat.le_of_ble_eq_true rfl) rfl rfl ?_
        refine aw_iconst (v := 0) d_X12_text_46 ic_0 ?_
        refine aw_istore [(0, .ref 1), (1, .int x1), (2, .int x2), (3, .int ((20 * x1) + (h_i h6 235 x1.toNatClampNeg))), (4, .int 0)] d_X12_text_47 (Nat.le_of_ble_eq_true rfl) rfl rfl ?_
        exact k
      · have k := k.2 c9
        refine aw_iconst (v := (-1)) d_X12_text_32 ic_m1 ?_
        exact aw_iret rfl d_X12_text_33 ⟨Nat.le_refl _, Nat.le_refl _⟩ ⟨_, rfl, k⟩
theorem t_X12_text_49 (d : Nat) (h : Hp_) (w : Wf h) (x1 : Int32) (x2 : Int32) (x3 : Int32) (x4 : Int32) (K : Int32 → Hp_ → Prop) (k : ((h_i h 1 36) ≤ x4 → vp_in x3 40 ∧ (vp_in x3 40 ∧ (vp_in x3 40 ∧ (vp_in x1 2 ∧ (vp_in x1 2 ∧ (vp_in x1 2 ∧ (K (((h_i h 235 x1.toNatClampNeg) + 1) - 1) (h_im (h_im (h_im (h_im (h_im h 232 x3.toNatClampNeg (h_i h 1 36)) 233 x3.toNatClampNeg x2) 234 x3.toNatClampNeg (h_i h 1 0)) 235 x1.toNatClampNeg ((h_i h 235 x1.toNatClampNeg) + 1)) 1 32 0)))))))) ∧ (¬ (h_i h 1 36) ≤ x4 → vp_in x4 560 ∧ (vp_in ((560 * x3) + x4) 22400 ∧ (AW (m_X12_text (d + 60) 0 0) 0 0 49 [(0, .ref 1), (1, .int x1), (2, .int x2), (3, .int x3), (4, .int (x4 + 1))] [] (h_im h 231 (((560 * x3) + x4) : Int32).toNatClampNeg (h_i h 226 x4.toNatClampNeg)) (kI K))))) : AW (m_X12_text (d + 60) 0 0) 0 0 49 [(0, .ref 1), (1, .int x1), (2, .int x2), (3, .int x3), (4, .int x4)] [] h (kI K) := by
  refine aw_iload d_X12_text_49 4 rfl ?_
  refine aw_aload_n (i := 0) rfl d_X12_text_51 0 rfl ?_
  refine aw_geti (k0 := 36) kc_12 (ws_1 w) (Nat.le_of_ble_eq_true rfl) tw_1778 d_X12_text_52 rfl ?_
  refine aw_icmp_ge (tgt := 84) d_X12_text_55 rfl (fun c11 => ?_) (fun c11 => ?_)
  · have k := k.1 c11
    refine aw_aload_n (i := 0) rfl d_X12_text_84 0 rfl ?_
    refine aw_getr (k0 := 46) kc_12 (ws_1 w) (Nat.le_of_ble_eq_true rfl) tw_1788 d_X12_text_85 rfl (wr_1_46 w) ?_
    refine aw_iload_n (i := 3) rfl d_X12_text_88 3 rfl ?_
    refine aw_aload_n (i := 0) rfl d_X12_text_89 0 rfl ?_
    refine aw_geti (k0 := 36) kc_12 (ws_1 w) (Nat.le_of_ble_eq_true rfl) tw_1778 d_X12_text_90 rfl ?_
    obtain ⟨b12, k⟩ := k
    refine aw_iast (ws_232 w) b12 d_X12_text_93 ?_
    refine aw_aload_n (i := 0) rfl d_X12_text_94 0 rfl ?_
    refine aw_getr (k0 := 47) kc_12 (ws_1 w) (Nat.le_of_ble_eq_true rfl) tw_1789 d_X12_text_95 rfl (wr_1_47 w) ?_
    refine aw_iload_n (i := 3) rfl d_X12_text_98 3 rfl ?_
    refine aw_iload_n (i := 2) rfl d_X12_text_99 2 rfl ?_
    obtain ⟨b13, k⟩ := k
    refine aw_iast (ws_233 w) b13 d_X12_text_100 ?_
    refine aw_aload_n (i := 0) rfl d_X12_text_101 0 rfl ?_
    refine aw_getr (k0 := 48) kc_12 (ws_1 w) (Nat.le_of_ble_eq_true rfl) tw_1790 d_X12_text_102 rfl (wr_1_48 w) ?_
    refine aw_iload_n (i := 3) rfl d_X12_text_105 3 rfl ?_
    refine aw_aload_n (i := 0) rfl d_X12_text_106 0 rfl ?_
    refine aw_geti (k0 := 0) kc_12 (ws_1 w) (Nat.le_of_ble_eq_true rfl) tw_1742 d_X12_text_107 rfl ?_
    refine aw_vi (v2 := (h_i h 1 0)) (rfl) ?_
    obtain ⟨b14, k⟩ := k
    refine aw_iast (ws_234 w) b14 d_X12_text_110 ?_
    refine aw_aload_n (i := 0) rfl d_X12_text_111 0 rfl ?_
    refine aw_getr (k0 := 49) kc_12 (ws_1 w) (Nat.le_of_ble_eq_true rfl) tw_1791 d_X12_text_112 rfl (wr_1_49 w) ?_
    refine aw_iload_n (i := 1) rfl d_X12_text_115 1 rfl ?_
    refine aw_dup2 d_X12_text_116 ⟨rfl, rfl⟩ ?_
    obtain ⟨b15, k⟩ := k
    refine aw_iald (ws_235 w) b15 d_X12_text_117 ?_
    refine aw_vi (v2 := (h_i h 235 x1.toNatClampNeg)) (rfl) ?_
    refine aw_iconst (v := 1) d_X12_text_118 ic_1 ?_
    refine aw_iadd d_X12_text_119 ?_
    obtain ⟨b16, k⟩ := k
    refine aw_iast (ws_235 w) b16 d_X12_text_120 ?_
    refine aw_aload_n (i := 0) rfl d_X12_text_121 0 rfl ?_
    refine aw_iconst (v := 0) d_X12_text_122 ic_0 ?_
    refine aw_puti (k0 := 32) kc_12 (ws_1 w) (Nat.le_of_ble_eq_true rfl) tw_1774 d_X12_text_123 rfl rfl nf_i ?_
    refine aw_aload_n (i := 0) rfl d_X12_text_126 0 rfl ?_
    refine aw_getr (k0 := 49) kc_12 (ws_1 w) (Nat.le_of_ble_eq_true rfl) tw_1791 d_X12_text_127 rfl (wr_1_49 w) ?_
    refine aw_iload_n (i := 1) rfl d_X12_text_130 1 rfl ?_
    obtain ⟨b17, k⟩ := k
    refine aw_iald (ws_235 w) b17 d_X12_text_131 ?_
    refine aw_vi (v2 := ((h_i h 235 x1.toNatClampNeg) + 1)) (by rw [im_ne (by decide), im_at]) ?_
    refine aw_iconst (v := 1) d_X12_text_132 ic_1 ?_
    refine aw_isub d_X12_text_133 ?_
    exact aw_iret rfl d_X12_text_134 ⟨Nat.le_refl _, Nat.le_refl _⟩ ⟨_, rfl, k⟩
  · have k := k.2 c11
    refine aw_aload_n (i := 0) rfl d_X12_text_58 0 rfl ?_
    refine aw_getr (k0 := 45) kc_12 (ws_1 w) (Nat.le_of_ble_eq_true rfl) tw_1787 d_X12_text_59 rfl (wr_1_45 w) ?_
    refine aw_sipush (v := 560) d_X12_text_62 is_560 ?_
    refine aw_iload_n (i := 3) rfl d_X12_text_65 3 rfl ?_
    refine aw_imul d_X12_text_66 ?_
    refine aw_iload d_X12_text_67 4 rfl ?_
    refine aw_iadd d_X12_text_69 ?_
    refine aw_aload_n (i := 0) rfl d_X12_text_70 0 rfl ?_
    refine aw_getr (k0 := 31) kc_12 (ws_1 w) (Nat.le_of_ble_eq_true rfl) tw_1773 d_X12_text_71 rfl (wr_1_31 w) ?_
    refine aw_iload d_X12_text_74 4 rfl ?_
    obtain ⟨b18, k⟩ := k
    refine aw_iald (ws_226 w) b18 d_X12_text_76 ?_
    obtain ⟨b19, k⟩ := k
    refine aw_iast (ws_231 w) b19 d_X12_text_77 ?_
    refine aw_iinc (v := (x4 + 1)) [(0, .ref 1), (1, .int x1), (2, .int x2), (3, .int x3), (4, .int (x4 + 1))] d_X12_text_78 4 rfl rfl (Nat.le_of_ble_eq_true rfl) rfl rfl ?_
    refine aw_goto (tgt := 49) d_X12_text_81 rfl ?_
    exact k
theorem t_X12_act (d : Nat) (h : Hp_) (w : Wf h) (x1 : Int32) (K : Int32 → Hp_ → Prop) (k : Ci (m_X12_text (d + 60) 0 0) [.ref 1, .int 0, .int x1] h (fun r3 h1 => Wf h1 ∧ (K r3 h1))) : Ci (m_X12_act (d + 61) 0 0) [.ref 1, .int x1] h K := by
  refine Ct.of (fun _ _ _ => trivial) rfl (Nat.le_of_ble_eq_true rfl) ?_
  show AW (m_X12_act (d + 61) 0 0) 0 0 0 [(0, .ref 1), (1, .int x1)] [] h (kI K)
  refine aw_aload_n (i := 0) rfl d_X12_act_0 0 rfl ?_
  refine aw_iconst (v := 0) d_X12_act_1 ic_0 ?_
  refine aw_iload_n (i := 1) rfl d_X12_act_2 1 rfl ?_
  refine aw_Vi 1 [.int 0, .int x1] [] d_X12_act_3 (cV_X12_text (d + 60) 0 0) kc_12 (ws_1 w) tw_2296 rfl (rr0 (Nat.le_of_ble_eq_true rfl) (Nat.le_of_ble_eq_true rfl)) (Nat.le_of_ble_eq_true rfl) xs0 k (fun r3 h1 kk => ?_)
  obtain ⟨w2, k⟩ := kk
  exact aw_iret rfl d_X12_act_6 ⟨Nat.le_refl _, Nat.le_refl _⟩ ⟨_, rfl, k⟩
theorem t_X12_pay (d : Nat) (h : Hp_) (w : Wf h) (x1 : Int32) (K : Int32 → Hp_ → Prop) (k : Ci (m_X12_text (d + 60) 0 0) [.ref 1, .int 1, .int x1] h (fun r3 h1 => Wf h1 ∧ (K r3 h1))) : Ci (m_X12_pay (d + 61) 0 0) [.ref 1, .int x1] h K := by
  refine Ct.of (fun _ _ _ => trivial) rfl (Nat.le_of_ble_eq_true rfl) ?_
  show AW (m_X12_pay (d + 61) 0 0) 0 0 0 [(0, .ref 1), (1, .int x1)] [] h (kI K)
  refine aw_aload_n (i := 0) rfl d_X12_pay_0 0 rfl ?_
  refine aw_iconst (v := 1) d_X12_pay_1 ic_1 ?_
  refine aw_iload_n (i := 1) rfl d_X12_pay_2 1 rfl ?_
  refine aw_Vi 1 [.int 1, .int x1] [] d_X12_pay_3 (cV_X12_text (d + 60) 0 0) kc_12 (ws_1 w) tw_2296 rfl (rr0 (Nat.le_of_ble_eq_true rfl) (Nat.le_of_ble_eq_true rfl)) (Nat.le_of_ble_eq_true rfl) xs0 k (fun r3 h1 kk => ?_)
  obtain ⟨w2, k⟩ := kk
  exact aw_iret rfl d_X12_pay_6 ⟨Nat.le_refl _, Nat.le_refl _⟩ ⟨_, rfl, k⟩
theorem t_X12_beat (d : Nat) (h : Hp_) (w : Wf h)  (K : Int32 → Hp_ → Prop) (k : ((h_i h 1 42) = 12 → K (-1) h) ∧ (¬ (h_i h 1 42) = 12 → Ci (m_X12_fault (d + 59) 0 0) [.ref 1, .int 0] h (fun r4 h2 => Wf h2 ∧ ((r4 = (-1) → Ci (m_X12_unfold (d + 0) 0 0) [.ref 1, .int 0, .int 1] (h_im h2 1 43 0) (fun r8 h6 => Wf h6 ∧ ((¬ r8 = 0 → vp_in (h_i h6 1 42) 12 ∧ (K (((h_i h6 1 42) + 1) - 1) (h_im (h_im (h_im h6 227 ((h_i h6 1 42) : Int32).toNatClampNeg (h_i h6 1 43)) 1 42 ((h_i h6 1 42) + 1)) 1 32 0))) ∧ (r8 = 0 → K (-1) h6)))) ∧ (¬ r4 = (-1) → K (-1) h2))))) : Ci (m_X12_beat (d + 60) 0 0) [.ref 1] h K := by
  refine Ct.of (fun _ _ _ => trivial) rfl (Nat.le_of_ble_eq_true rfl) ?_
  show AW (m_X12_beat (d + 60) 0 0) 0 0 0 [(0, .ref 1)] [] h (kI K)
  refine aw_aload_n (i := 0) rfl d_X12_beat_0 0 rfl ?_
  refine aw_geti (k0 := 42) kc_12 (ws_1 w) (Nat.le_of_ble_eq_true rfl) tw_1784 d_X12_beat_1 rfl ?_
  refine aw_bipush (v := 12) d_X12_beat_4 ib_12 ?_
  refine aw_icmp_eq (tgt := 18) d_X12_beat_6 rfl (fun c1 => ?_) (fun c1 => ?_)
  · have k := k.1 c1
    refine aw_iconst (v := (-1)) d_X12_beat_18 ic_m1 ?_
    exact aw_iret rfl d_X12_beat_19 ⟨Nat.le_refl _, Nat.le_refl _⟩ ⟨_, rfl, k⟩
  · have k := k.2 c1
    refine aw_aload_n (i := 0) rfl d_X12_beat_9 0 rfl ?_
    refine aw_iconst (v := 0) d_X12_beat_10 ic_0 ?_
    refine aw_Vi 1 [.int 0] [] d_X12_beat_11 (cV_X12_fault (d + 59) 0 0) kc_12 (ws_1 w) tw_2194 rfl (rr0 (Nat.le_of_ble_eq_true rfl) (Nat.le_of_ble_eq_true rfl)) (Nat.le_of_ble_eq_true rfl) xs0 k (fun r4 h2 kk => ?_)
    obtain ⟨w3, k⟩ := kk
    refine aw_iconst (v := (-1)) d_X12_beat_14 ic_m1 ?_
    refine aw_icmp_eq (tgt := 20) d_X12_beat_15 rfl (fun c5 => ?_) (fun c5 => ?_)
    · have k := k.1 c5
      refine aw_aload_n (i := 0) rfl d_X12_beat_20 0 rfl ?_
      refine aw_iconst (v := 0) d_X12_beat_21 ic_0 ?_
      refine aw_puti (k0 := 43) kc_12 (ws_1 w3) (Nat.le_of_ble_eq_true rfl) tw_1785 d_X12_beat_22 rfl rfl nf_i ?_
      refine aw_aload_n (i := 0) rfl d_X12_beat_25 0 rfl ?_
      refine aw_iconst (v := 0) d_X12_beat_26 ic_0 ?_
      refine aw_iconst (v := 1) d_X12_beat_27 ic_1 ?_
      refine aw_Vi 1 [.int 0, .int 1] [] d_X12_beat_28 (cV_X12_unfold (d + 0) 0 0) kc_12 (ws_1 w3) tw_2279 rfl (rr0 (Nat.le_of_ble_eq_true rfl) (Nat.le_of_ble_eq_true rfl)) (Nat.le_of_ble_eq_true rfl) xs0 k (fun r8 h6 kk => ?_)
      obtain ⟨w7, k⟩ := kk
      refine aw_if_ne (tgt := 36) d_X12_beat_31 rfl (fun c9 => ?_) (fun c9 => ?_)
      · have k := k.1 c9
        refine aw_aload_n (i := 0) rfl d_X12_beat_36 0 rfl ?_
        refine aw_getr (k0 := 38) kc_12 (ws_1 w7) (Nat.le_of_ble_eq_true rfl) tw_1780 d_X12_beat_37 rfl (wr_1_38 w7) ?_
        refine aw_aload_n (i := 0) rfl d_X12_beat_40 0 rfl ?_
        refine aw_geti (k0 := 42) kc_12 (ws_1 w7) (Nat.le_of_ble_eq_true rfl) tw_1784 d_X12_beat_41 rfl ?_
        refine aw_aload_n (i := 0) rfl d_X12_beat_44 0 rfl ?_
        refine aw_geti (k0 := 43) kc_12 (ws_1 w7) (Nat.le_of_ble_eq_true rfl) tw_1785 d_X12_beat_45 rfl ?_
        obtain ⟨b10, k⟩ := k
        refine aw_iast (ws_227 w7) b10 d_X12_beat_48 ?_
        refine aw_aload_n (i := 0) rfl d_X12_beat_49 0 rfl ?_
        refine aw_dup d_X12_beat_50 rfl ?_
        refine aw_geti (k0 := 42) kc_12 (ws_1 w7) (Nat.le_of_ble_eq_true rfl) tw_1784 d_X12_beat_51 rfl ?_
        refine aw_vi (v2 := (h_i h6 1 42)) (rfl) ?_
        refine aw_iconst (v := 1) d_X12_beat_54 ic_1 ?_
        refine aw_iadd d_X12_beat_55 ?_
        refine aw_puti (k0 := 42) kc_12 (ws_1 w7) (Nat.le_of_ble_eq_true rfl) tw_1784 d_X12_beat_56 rfl rfl nf_i ?_
        refine aw_aload_n (i := 0) rfl d_X12_beat_59 0 rfl ?_
        refine aw_iconst (v := 0) d_X12_beat_60 ic_0 ?_
        refine aw_puti (k0 := 32) kc_12 (ws_1 w7) (Nat.le_of_ble_eq_true rfl) tw_1774 d_X12_beat_61 rfl rfl nf_i ?_
        refine aw_aload_n (i := 0) rfl d_X12_beat_64 0 rfl ?_
        refine aw_geti (k0 := 42) kc_12 (ws_1 w7) (Nat.le_of_ble_eq_true rfl) tw_1784 d_X12_beat_65 rfl ?_
        refine aw_vi (v2 := ((h_i h6 1 42) + 1)) (rfl) ?_
        refine aw_iconst (v := 1) d_X12_beat_68 ic_1 ?_
        refine aw_isub d_X12_beat_69 ?_
        exact aw_iret rfl d_X12_beat_70 ⟨Nat.le_refl _, Nat.le_refl _⟩ ⟨_, rfl, k⟩
      · have k := k.2 c9
        refine aw_iconst (v := (-1)) d_X12_beat_34 ic_m1 ?_
        exact aw_iret rfl d_X12_beat_35 ⟨Nat.le_refl _, Nat.le_refl _⟩ ⟨_, rfl, k⟩
    · have k := k.2 c5
      refine aw_iconst (v := (-1)) d_X12_beat_18 ic_m1 ?_
      exact aw_iret rfl d_X12_beat_19 ⟨Nat.le_refl _, Nat.le_refl _⟩ ⟨_, rfl, k⟩
end
