/-! brackets, letters, numbers: atoms -/
theorem c_isLetter (d : Nat) (h : Hp_) (x : Int32) {s : Nat} (hs : s = 1 ∨ s = 2) : Ci (m_X12_isLetter (d + 0) 0 0) [.int x, .int (Int32.ofNat s)] h (fun r h' => h' = h ∧ (r = 0 ∨ (¬ r = 0 ∧ ¬ x = -1 ∧ okl s x = true))) :=
  t_X12_isLetter d h x (Int32.ofNat s) _ ⟨fun e => ⟨fun _ => ⟨rfl, Or.inl rfl⟩, fun f => ⟨rfl, Or.inr ⟨by decide, by rw [e]; decide, by rw [e]; rcases hs with u | u <;> subst u <;> first | decide | exact absurd f (by decide)⟩⟩⟩,
    fun e => ⟨rfl, Or.inr ⟨by decide, by rw [e]; decide, by rw [e]; rcases hs with u | u <;> subst u <;> decide⟩⟩,
    fun e => ⟨fun _ => ⟨rfl, Or.inl rfl⟩, fun f => ⟨rfl, Or.inr ⟨by decide, by rw [e]; decide, by rw [e]; rcases hs with u | u <;> subst u <;> first | decide | exact absurd f (by decide)⟩⟩⟩,
    fun e => ⟨fun _ => ⟨rfl, Or.inl rfl⟩, fun f => ⟨rfl, Or.inr ⟨by decide, by rw [e]; decide, by rw [e]; rcases hs with u | u <;> subst u <;> first | decide | exact absurd f (by decide)⟩⟩⟩,
    fun e => ⟨fun _ => ⟨rfl, Or.inl rfl⟩, fun f => ⟨rfl, Or.inr ⟨by decide, by rw [e]; decide, by rw [e]; rcases hs with u | u <;> subst u <;> first | decide | exact absurd f (by decide)⟩⟩⟩,
    fun e => ⟨fun _ => ⟨rfl, Or.inl rfl⟩, fun f => ⟨rfl, Or.inr ⟨by decide, by rw [e]; decide, by rw [e]; rcases hs with u | u <;> subst u <;> first | decide | exact absurd f (by decide)⟩⟩⟩,
    fun e => ⟨fun _ => ⟨rfl, Or.inl rfl⟩, fun f => ⟨rfl, Or.inr ⟨by decide, by rw [e]; decide, by rw [e]; rcases hs with u | u <;> subst u <;> first | decide | exact absurd f (by decide)⟩⟩⟩,
    fun e => ⟨fun _ => ⟨rfl, Or.inl rfl⟩, fun f => ⟨rfl, Or.inr ⟨by decide, by rw [e]; decide, by rw [e]; rcases hs with u | u <;> subst u <;> first | decide | exact absurd f (by decide)⟩⟩⟩,
    fun e => ⟨fun _ => ⟨rfl, Or.inl rfl⟩, fun f => ⟨rfl, Or.inr ⟨by decide, by rw [e]; decide, by rw [e]; rcases hs with u | u <;> subst u <;> first | decide | exact absurd f (by decide)⟩⟩⟩,
    fun e => ⟨rfl, Or.inr ⟨by decide, by rw [e]; decide, by rw [e]; rcases hs with u | u <;> subst u <;> decide⟩⟩,
    fun e => ⟨fun _ => ⟨rfl, Or.inl rfl⟩, fun f => ⟨rfl, Or.inr ⟨by decide, by rw [e]; decide, by rw [e]; rcases hs with u | u <;> subst u <;> first | decide | exact absurd f (by decide)⟩⟩⟩,
    fun e => ⟨fun _ => ⟨rfl, Or.inl rfl⟩, fun f => ⟨rfl, Or.inr ⟨by decide, by rw [e]; decide, by rw [e]; rcases hs with u | u <;> subst u <;> first | decide | exact absurd f (by decide)⟩⟩⟩,
    fun e => ⟨fun _ => ⟨rfl, Or.inl rfl⟩, fun f => ⟨rfl, Or.inr ⟨by decide, by rw [e]; decide, by rw [e]; rcases hs with u | u <;> subst u <;> first | decide | exact absurd f (by decide)⟩⟩⟩,
    fun _ => ⟨rfl, Or.inl rfl⟩⟩

theorem Pq.said {h : Hp_} (I : Iv h) (q : Pq h) : ps h ≤ 484 := by
  obtain ⟨q1, q2, q3, q4⟩ := q
  have z1 : pz h ≤ 160 := (pz_in I).2
  omega
/-- a bracket read from its opening to its end -/
theorem Pe.br {s : Nat} {h h2 h3 h4 : Hp_} (I : Iv h) (q : Pq h) (F : Fr [1033, 1034, 1035] h h2) (a2 : pa h + 1 ≤ pa h2) (d2 : pd h2 = pd h + 1) (d5 : pd h ≤ 5) (Q : Pe s h2 h3)
    (C : Iv h4 ∧ Fr [1033, 1034, 1035] h3 h4 ∧ (h_i h4 1 35).toInt = (h_i h3 1 35).toInt - 1 ∧ pa h3 + 1 ≤ pa h4 ∧ (¬ h_i h3 1 34 = -1 → h_i h4 1 34 = h_i h3 1 34 ∧ pa h4 = pa h3 + 1) ∧ (h_i h3 1 34 = -1 → pa h4 ≤ pz h3 + 1 ∧ (h_i h4 1 34 = -1 → pa h4 ≤ pz h3))) : Pe s h h4 := by
  obtain ⟨p1, p2, p3, p4, p5, p6, p7, p8⟩ := Q
  obtain ⟨c1, c2, c3, c4, c5, c6⟩ := C
  have z2 := zf F (by decide +kernel)
  have z3 := zf p2 (by decide +kernel)
  have e36 : h_i h2 1 36 = h_i h 1 36 := (F.2 1 36 (by decide +kernel)).1
  have s2 : ps h2 = ps h := by show (h_i h2 1 36).toInt = _; rw [e36]
  have n2 : sN h2 = sN h := by show (h_i h2 1 36).toNatClampNeg = _; rw [e36]
  have e36' : h_i h4 1 36 = h_i h3 1 36 := (c2.2 1 36 (by decide +kernel)).1
  have s4 : ps h4 = ps h3 := by show (h_i h4 1 36).toInt = _; rw [e36']
  have n4 : sN h4 = sN h3 := by show (h_i h4 1 36).toNatClampNeg = _; rw [e36']
  have f2 : h_i h2 226 = h_i h 226 := funext (fun k => fr_i F (by decide +kernel) k)
  have f4 : h_i h4 226 = h_i h3 226 := funext (fun k => fr_i c2 (by decide +kernel) k)
  have d3 : pd h4 = pd h3 - 1 := c3
  refine ⟨c1, ((F.more (by decide +kernel)).tr p2).tr (c2.more (by decide +kernel)), by omega, by omega, fun k hk => by rw [f4, p5 k (by omega), f2], by omega, fun w => ?_, fun w => ?_⟩
  · have w3 : h_i h3 1 34 = -1 := by
      refine Classical.byContradiction (fun n => ?_)
      rw [(c5 n).1] at w
      exact n w
    obtain ⟨t1, t2, t3, K, t4, t5⟩ := p7 w3
    have := (c6 w3).2 w
    refine ⟨by omega, by omega, by omega, K, by omega, ?_⟩
    rw [n4, f4, ← n2]; exact t5
  · by_cases w3 : h_i h3 1 34 = -1
    · obtain ⟨t1, t2, t3, K, t4, t5⟩ := p7 w3
      have := (c6 w3).1
      exact ⟨by omega, by omega⟩
    · obtain ⟨t1, t2⟩ := p8 w3
      have := (c5 w3).2
      exact ⟨by omega, by omega⟩
/-- one behind the bracket's opening -/
theorem op_q {h h1 h2 : Hp_} {r : Int32} (I : Iv h) (q : Pq h) (L : Lk h r h1) (l : pa h1 < pz h) (I2 : Iv h2) (F : Fr [1033, 1034, 1035] h1 h2) (w : h_i h2 1 34 = h_i h1 1 34) (a : pa h2 = pa h1 + 1) (e : (h_i h2 1 35).toInt = (h_i h1 1 35).toInt + 1) (e5 : (h_i h1 1 35).toInt ≤ 5) :
    Pq h2 ∧ Fr [1033, 1034, 1035] h h2 ∧ pa h + 1 ≤ pa h2 ∧ pd h2 = pd h + 1 ∧ pd h ≤ 5 ∧ h_i h2 1 37 = h_i h 1 37 := by
  obtain ⟨l1, l2, l3, l4, l5⟩ := L
  obtain ⟨q1, q2, q3, q4⟩ := q
  have z1 := zf l2 (by decide +kernel)
  have z2 := zf F (by decide +kernel)
  have e36 : ps h2 = ps h := by show (h_i h2 1 36).toInt = _; rw [(F.2 1 36 (by decide +kernel)).1, (l2.2 1 36 (by decide +kernel)).1]
  have e35 : pd h1 = pd h := by show (h_i h1 1 35).toInt = _; rw [(l2.2 1 35 (by decide +kernel)).1]
  have e' : pd h2 = pd h1 + 1 := e
  have e5' : pd h1 ≤ 5 := e5
  refine ⟨⟨by rw [w, (l2.2 1 34 (by decide +kernel)).1]; exact q1, by omega, by omega, by omega⟩, (l2.more (by decide +kernel)).tr F, by omega, by omega, by omega, ?_⟩
  rw [(F.2 1 37 (by decide +kernel)).1, (l2.2 1 37 (by decide +kernel)).1]
/-- wrong before anything was said -/
theorem Pe.no {s : Nat} {h h1 h2 : Hp_} {r : Int32} (I : Iv h) (q : Pq h) (L : Lk h r h1) (I2 : Iv h2) (F : Fr [1033, 1034, 1035] h1 h2) (w : ¬ h_i h2 1 34 = -1) (a : h_i h2 1 33 = h_i h1 1 33) (e : h_i h2 1 35 = h_i h1 1 35) : Pe s h h2 := by
  obtain ⟨l1, l2, l3, l4, l5⟩ := L
  obtain ⟨q1, q2, q3, q4⟩ := q
  have e36 : ps h2 = ps h := by show (h_i h2 1 36).toInt = _; rw [(F.2 1 36 (by decide +kernel)).1, (l2.2 1 36 (by decide +kernel)).1]
  have e35 : pd h2 = pd h := by show (h_i h2 1 35).toInt = _; rw [e, (l2.2 1 35 (by decide +kernel)).1]
  have e33 : pa h2 = pa h1 := by show (h_i h2 1 33).toInt = _; rw [a]
  refine ⟨I2, (l2.more (by decide +kernel)).tr (F.more (by decide +kernel)), by omega, by omega, fun k hk => ?_, by omega, fun w' => absurd w' w, fun _ => ?_⟩
  · rw [fr_i F (a := 226) (by decide +kernel), fr_i l2 (a := 226) (by decide +kernel)]
  · rcases l4 with u | u
    · exact ⟨by omega, by omega⟩
    · exact ⟨by omega, by omega⟩
/-- two codes said: a number or a letter -/
theorem Pe.two {s : Nat} {h h2 h3 h4 : Hp_} {x y : Int32} (I : Iv h) (q : Pq h) (F : Fr [1033, 1034] h h2) (a0 : pa h ≤ pa h2) (az : pa h2 ≤ pz h) (ao : h_i h2 1 34 = -1 → pa h < pa h2)
    (S : Iv h3 ∧ Fr [1036, 226999] h2 h3 ∧ (h_i h3 1 36).toInt = (h_i h2 1 36).toInt + 1 ∧ h_i h3 226 (h_i h2 1 36).toNatClampNeg = x ∧ ∀ k, k ≠ (h_i h2 1 36).toNatClampNeg → h_i h3 226 k = h_i h2 226 k)
    (S' : Iv h4 ∧ Fr [1036, 226999] h3 h4 ∧ (h_i h4 1 36).toInt = (h_i h3 1 36).toInt + 1 ∧ h_i h4 226 (h_i h3 1 36).toNatClampNeg = y ∧ ∀ k, k ≠ (h_i h3 1 36).toNatClampNeg → h_i h4 226 k = h_i h3 226 k)
    (o : x = 0 ∨ (x = 1 ∧ okl s y = true)) : Pe s h h4 := by
  obtain ⟨q1, q2, q3, q4⟩ := q
  obtain ⟨s1, s2, s3, s4, s5⟩ := S
  obtain ⟨r1, r2, r3, r4, r5⟩ := S'
  have e33 : pa h4 = pa h2 := by show (h_i h4 1 33).toInt = _; rw [(r2.2 1 33 (by decide +kernel)).1, (s2.2 1 33 (by decide +kernel)).1]
  have e34 : h_i h4 1 34 = h_i h2 1 34 := by rw [(r2.2 1 34 (by decide +kernel)).1, (s2.2 1 34 (by decide +kernel)).1]
  have e35 : pd h4 = pd h := by show (h_i h4 1 35).toInt = _; rw [(r2.2 1 35 (by decide +kernel)).1, (s2.2 1 35 (by decide +kernel)).1, (F.2 1 35 (by decide +kernel)).1]
  have e36 : h_i h2 1 36 = h_i h 1 36 := (F.2 1 36 (by decide +kernel)).1
  rw [e36] at s3 s4 s5
  have t3 : ps h3 = ps h + 1 := s3
  have t4 : ps h4 = ps h3 + 1 := r3
  have n0 := sN_i I
  have n3 := sN_i s1
  have n4 := sN_i r1
  have m3 : sN h3 = sN h + 1 := by omega
  have m4 : sN h4 = sN h + 2 := by omega
  have b0 : h_i h4 226 (sN h) = x := by rw [r5 _ (by show sN h ≠ sN h3; omega)]; exact s4
  have b1 : h_i h4 226 (sN h + 1) = y := by rw [← m3]; exact r4
  refine ⟨r1, (F.more (by decide +kernel)).tr ((s2.more (by decide +kernel)).tr (r2.more (by decide +kernel))), by omega, by omega, fun k hk => ?_, by omega, fun w => ?_, fun w => ?_⟩
  · rw [r5 k (by show k ≠ sN h3; omega), s5 k (by show k ≠ sN h; omega), fr_i F (a := 226) (by decide +kernel)]
  · rw [e34] at w
    have := ao w
    refine ⟨by omega, by omega, by omega, 1, by omega, ?_⟩
    rw [m4]
    rcases o with o | o
    · exact PR.num (by rw [b0]; exact o)
    · exact PR.let_ (by rw [b0]; exact o.1) (by rw [b1]; exact o.2)
  · exact ⟨by omega, by omega⟩
theorem c_atom (s e : Nat) (D : Int) (hs : s = 1 ∨ s = 2) (B : D ≤ 5 → Rd s (D + 1) (fun d h K => Cv (m_X12_sum (d + e + 53) 0 0) [.ref 1] h K)) : Rd s D (fun d h K => Cv (m_X12_atom (d + e + 61) 0 0) [.ref 1] h K) := by
  intro d h I q eD es
  have z1 : pz h ≤ 160 := (pz_in I).2
  have q1 := q.1
  have q2 := q.2.1
  have q3 := q.2.2.1
  have q5 := q.said I
  refine t_X12_atom (d + e) h I.1 _ (Ci.mono (c_look (d + e) I) (fun r h1 L => ⟨L.1.1, fun _ => ?_, fun er => ?_⟩))
  · have s1 : h_i h1 1 37 = Int32.ofNat s := by rw [(L.2.1.2 1 37 (by decide +kernel)).1]; exact es
    rw [s1]
    refine Ci.mono (c_isLetter (d + e) h1 r hs) (fun r2 h2 k => ?_)
    obtain ⟨e2, k⟩ := k
    subst e2
    have w1 : h_i h2 1 34 = -1 := by rw [(L.2.1.2 1 34 (by decide +kernel)).1]; exact q1
    have z2 := zf L.2.1 (by decide +kernel)
    have a1 : pa h2 ≤ pz h := by
      rcases L.2.2.2.1 with u | u
      · omega
      · exact u
    have l3 := L.2.2.1
    have p1 : ps h2 = ps h := by show (h_i h2 1 36).toInt = _; rw [(L.2.1.2 1 36 (by decide +kernel)).1]
    refine ⟨L.1.1, fun r0 => ?_, fun r0 => ?_⟩
    · refine Ci.mono (c_number (d + e) L.1 w1 (by omega)) (fun v h3 N => ⟨N.1.1, ?_⟩)
      obtain ⟨n1, n2, n3, n4, n5⟩ := N
      have p3 : ps h3 = ps h2 := by show (h_i h3 1 36).toInt = _; rw [(n2.2 1 36 (by decide +kernel)).1]
      refine Cv.mono (c_say (d + e) n1 0 (by show ps h3 ≤ 558; omega)) (fun h4 S => ⟨S.1.1, Cv.mono (c_say (d + e) S.1 v ?_) (fun h5 S' => ⟨S'.1.1, ?_⟩)⟩)
      · have := S.2.2.1
        show ps h4 ≤ 558
        have e4 : ps h4 = ps h3 + 1 := this
        omega
      · exact Pe.two I q ((L.2.1.more (by decide +kernel)).tr n2) (by omega) (by omega) (fun w => by have := n5 w; omega) S S' (Or.inl rfl)
    · have k : ¬ r = -1 ∧ okl s r = true := by
        rcases k with k | k
        · exact absurd k r0
        · exact k.2
      have l5 : pa h2 < pz h := by
        rcases L.fwd rfl with u | u
        · exact absurd u k.1
        · exact u
      have a0 : 0 ≤ pa h2 := (pa_in L.1).1
      have o1 : (1 : Int32).toInt = 1 := rfl
      have e33 : (h_i h2 1 33 + 1).toInt = pa h2 + 1 := by
        show (h_i h2 1 33 + 1).toInt = (h_i h2 1 33).toInt + 1
        have a0' : 0 ≤ (h_i h2 1 33).toInt := a0
        have l' : (h_i h2 1 33).toInt < pz h := l5
        rw [tx_add (by rw [o1]; omega) (by rw [o1]; omega), o1]
      have I3 : Iv (h_im h2 1 33 ((h_i h2 1 33) + 1)) := i33 L.1 ⟨by rw [e33]; show (0 : Int) ≤ _; omega, by rw [e33]; show _ ≤ (180 : Int); omega⟩
      have F3 : Fr [1033] h2 (h_im h2 1 33 ((h_i h2 1 33) + 1)) := (Fr.rf _ _).im (by decide +kernel)
      have ea : pa (h_im h2 1 33 ((h_i h2 1 33) + 1)) = pa h2 + 1 := by
        show (h_i (h_im h2 1 33 _) 1 33).toInt = _
        rw [im_at]; exact e33
      have es' : ps (h_im h2 1 33 ((h_i h2 1 33) + 1)) = ps h2 := by
        show (h_i (h_im h2 1 33 _) 1 36).toInt = _
        rw [f_ne (by decide)]
      refine Cv.mono (c_say (d + e) I3 1 (by show ps (h_im h2 1 33 _) ≤ 558; omega)) (fun h4 S => ⟨S.1.1, Cv.mono (c_say (d + e) S.1 r ?_) (fun h5 S' => ⟨S'.1.1, ?_⟩)⟩)
      · have e4 : ps h4 = ps (h_im h2 1 33 ((h_i h2 1 33) + 1)) + 1 := S.2.2.1
        show ps h4 ≤ 558
        omega
      · exact Pe.two I q ((L.2.1.tr F3).more (by decide +kernel)) (by omega) (by omega) (fun w => by omega) S S' (Or.inr ⟨rfl, k.2⟩)
  · have l5 : pa h1 < pz h := by
      rcases L.fwd rfl with u | u
      · rw [er] at u; exact absurd u (by decide)
      · exact u
    have z2 := zf L.2.1 (by decide +kernel)
    have e35 : pd h1 = pd h := by show (h_i h1 1 35).toInt = _; rw [(L.2.1.2 1 35 (by decide +kernel)).1]
    refine Ci.mono (c_opens (d + e) L.1 (by omega) (by show pd h1 ≤ 6; omega)) (fun r2 h2 k => ?_)
    obtain ⟨I2, F2, k⟩ := k
    refine ⟨I2.1, fun r0 => ?_, fun r0 => ?_⟩
    · rcases k with k | k
      · rw [k.1] at r0; exact absurd r0 (by decide)
      · exact Pe.no I q L I2 F2 k.2.1 k.2.2.1 k.2.2.2
    · rcases k with k | k
      · obtain ⟨k1, k2, k3, k4, k5⟩ := k
        obtain ⟨Q2, G2, b2, d2, d5, s2⟩ := op_q I q L l5 I2 F2 k2 k3 k4 k5
        refine Cv.mono (B (by omega) d h2 I2 Q2 (by omega) (by rw [s2]; exact es)) (fun h3 P => ⟨P.1.1, Cv.mono (c_closes (d + e) P.1 93 ?_ (by decide) ?_) (fun h4 C => ⟨C.1.1, Pe.br I q G2 b2 d2 d5 P C⟩)⟩)
        · have z3 := zf P.2.1 (by decide +kernel)
          have z4 := zf G2 (by decide +kernel)
          refine ⟨fun w => ?_, ?_⟩
          · have := (P.2.2.2.2.2.2.1 w).1
            omega
          · have d0 : 0 ≤ pd h2 := (dp_in7 I2).1
            by_cases w : h_i h3 1 34 = -1
            · have := (P.2.2.2.2.2.2.1 w).1
              omega
            · have := (P.2.2.2.2.2.2.2 w).1
              omega
        · have p3 := P.2.2.1
          have d0 : 0 ≤ pd h := (dp_in7 I).1
          show 1 ≤ pd h3
          omega
      · exact absurd k.1 r0
