/-! conditions -/
theorem part_lp (s e : Nat) (D : Int) (A : Rd s D (fun d h K => Cv (m_X12_unit (d + e + 55) 0 0) [.ref 1] h K)) (d : Nat) {h : Hp_} (I : Iv h) (q : Pq h) (eD : pd h = D) (es : h_i h 1 37 = Int32.ofNat s) :
    ∀ (n : Nat) (h2 : Hp_), Pe s h h2 → pz h - pa h2 ≤ n → AW (m_X12_part (d + e + 56) 0 0) 0 0 15 [(0, .ref 1)] [] h2 (kV (fun h' => Pe s h h')) := by
  intro n
  induction n with
  | zero =>
    intro h2 P m
    refine t_X12_part_15 (d + e) h2 P.1.1 _ ⟨fun _ => P, fun w => Ci.mono (c_look (d + e) P.1) (fun r h5 L => ⟨L.1.1, fun _ => P.lk I L, fun er => ?_⟩)⟩
    have l3 := L.2.2.1
    rcases L.fwd (zf P.2.1 (by decide +kernel)) with u | u
    · rw [er] at u; exact absurd u (by decide)
    · omega
  | succ n ih =>
    intro h2 P m
    refine t_X12_part_15 (d + e) h2 P.1.1 _ ⟨fun _ => P, fun w => Ci.mono (c_look (d + e) P.1) (fun r h5 L => ⟨L.1.1, fun _ => P.lk I L, fun er => ?_⟩)⟩
    have P5 := P.lk I L
    have w5 : h_i h5 1 34 = -1 := by rw [(L.2.1.2 1 34 (by decide +kernel)).1]; exact w
    have l3 := L.2.2.1
    have l5 : pa h5 < pz h := by
      rcases L.fwd (zf P.2.1 (by decide +kernel)) with u | u
      · rw [er] at u; exact absurd u (by decide)
      · exact u
    obtain ⟨I6, F6, a6, q6, d6, s6⟩ := P5.nx I q w5 l5
    refine Cv.mono (A d _ I6 q6 (by omega) (by rw [s6]; exact es)) (fun h9 Q => ⟨Q.1.1, Cv.mono (c_say (d + e) Q.1 38 (Q.room I6 q6)) (fun h12 S => ?_)⟩)
    have P12 := P5.op w5 I I6 F6 (by omega) Q S (by decide)
    have e33 : pa h12 = pa h9 := by show (h_i h12 1 33).toInt = _; rw [(S.2.1.2 1 33 (by decide +kernel)).1]
    have q4 := Q.2.2.2.1
    exact ⟨S.1.1, ih h12 P12 (by omega)⟩
theorem Pe.m {s : Nat} {h h2 : Hp_} (I : Iv h) (P : Pe s h h2) : pz h - pa h2 ≤ (160 : Nat) := by
  have z1 : pz h ≤ 160 := (pz_in I).2
  have a1 : 0 ≤ pa h2 := (pa_in P.1).1
  omega
theorem c_part0 (s e : Nat) (D : Int) (A : Rd s D (fun d h K => Cv (m_X12_unit (d + e + 55) 0 0) [.ref 1] h K)) : Rd s D (fun d h K => Cv (m_X12_part (d + e + 56) 0 0) [.ref 1, .int 0] h K) := by
  intro d h I q eD es
  refine t_X12_part (d + e) h I.1 0 _ ⟨fun _ => Cv.mono (A d h I q eD es) (fun h2 P => ⟨P.1.1, part_lp s e D A d I q eD es 160 h2 P (P.m I)⟩), fun n => absurd rfl n⟩
theorem c_part1 (s e : Nat) (D : Int) (A : Rd s D (fun d h K => Cv (m_X12_unit (d + e + 55) 0 0) [.ref 1] h K)) (B : Rd s D (fun d h K => Cv (m_X12_sum (d + e + 53) 0 0) [.ref 1] h K)) (d : Nat) {h h2 : Hp_} (I : Iv h) (q : Pq h) (eD : pd h = D) (es : h_i h 1 37 = Int32.ofNat s) (P : Pe s h h2) :
    Cv (m_X12_part (d + e + 56) 0 0) [.ref 1, .int 1] h2 (fun h' => Pe s h h') := by
  refine t_X12_part (d + e) h2 P.1.1 1 _ ⟨fun n => absurd n (by decide), fun _ => Cv.mono (c_compare s e D B d I q eD es P) (fun h3 P3 => ⟨P3.1.1, part_lp s e D A d I q eD es 160 h3 P3 (P3.m I)⟩)⟩
theorem cond_lp (s e : Nat) (D : Int) (A : Rd s D (fun d h K => Cv (m_X12_part (d + e + 56) 0 0) [.ref 1, .int 0] h K)) (d : Nat) {h : Hp_} (I : Iv h) (q : Pq h) (eD : pd h = D) (es : h_i h 1 37 = Int32.ofNat s) :
    ∀ (n : Nat) (h2 : Hp_), Pe s h h2 → pz h - pa h2 ≤ n → AW (m_X12_condition (d + e + 57) 0 0) 0 0 5 [(0, .ref 1)] [] h2 (kV (fun h' => Pe s h h')) := by
  intro n
  induction n with
  | zero =>
    intro h2 P m
    refine t_X12_condition_5 (d + e) h2 P.1.1 _ ⟨fun _ => P, fun w => Ci.mono (c_look (d + e) P.1) (fun r h5 L => ⟨L.1.1, fun _ => P.lk I L, fun er => ?_⟩)⟩
    have l3 := L.2.2.1
    rcases L.fwd (zf P.2.1 (by decide +kernel)) with u | u
    · rw [er] at u; exact absurd u (by decide)
    · omega
  | succ n ih =>
    intro h2 P m
    refine t_X12_condition_5 (d + e) h2 P.1.1 _ ⟨fun _ => P, fun w => Ci.mono (c_look (d + e) P.1) (fun r h5 L => ⟨L.1.1, fun _ => P.lk I L, fun er => ?_⟩)⟩
    have P5 := P.lk I L
    have w5 : h_i h5 1 34 = -1 := by rw [(L.2.1.2 1 34 (by decide +kernel)).1]; exact w
    have l3 := L.2.2.1
    have l5 : pa h5 < pz h := by
      rcases L.fwd (zf P.2.1 (by decide +kernel)) with u | u
      · rw [er] at u; exact absurd u (by decide)
      · exact u
    obtain ⟨I6, F6, a6, q6, d6, s6⟩ := P5.nx I q w5 l5
    refine Cv.mono (A d _ I6 q6 (by omega) (by rw [s6]; exact es)) (fun h9 Q => ⟨Q.1.1, Cv.mono (c_say (d + e) Q.1 124 (Q.room I6 q6)) (fun h12 S => ?_)⟩)
    have P12 := P5.op w5 I I6 F6 (by omega) Q S (by decide)
    have e33 : pa h12 = pa h9 := by show (h_i h12 1 33).toInt = _; rw [(S.2.1.2 1 33 (by decide +kernel)).1]
    have q4 := Q.2.2.2.1
    exact ⟨S.1.1, ih h12 P12 (by omega)⟩
theorem c_cond0 (s e : Nat) (D : Int) (A : Rd s D (fun d h K => Cv (m_X12_unit (d + e + 55) 0 0) [.ref 1] h K)) : Rd s D (fun d h K => Cv (m_X12_condition (d + e + 57) 0 0) [.ref 1, .int 0] h K) := by
  intro d h I q eD es
  exact t_X12_condition (d + e) h I.1 0 _ (Cv.mono (c_part0 s e D A d h I q eD es) (fun h2 P => ⟨P.1.1, cond_lp s e D (c_part0 s e D A) d I q eD es 160 h2 P (P.m I)⟩))
theorem c_cond1 (s e : Nat) (D : Int) (A : Rd s D (fun d h K => Cv (m_X12_unit (d + e + 55) 0 0) [.ref 1] h K)) (B : Rd s D (fun d h K => Cv (m_X12_sum (d + e + 53) 0 0) [.ref 1] h K)) (d : Nat) {h h2 : Hp_} (I : Iv h) (q : Pq h) (eD : pd h = D) (es : h_i h 1 37 = Int32.ofNat s) (P : Pe s h h2) :
    Cv (m_X12_condition (d + e + 57) 0 0) [.ref 1, .int 1] h2 (fun h' => Pe s h h') :=
  t_X12_condition (d + e) h2 P.1.1 1 _ (Cv.mono (c_part1 s e D A B d I q eD es P) (fun h3 P3 => ⟨P3.1.1, cond_lp s e D (c_part0 s e D A) d I q eD es 160 h3 P3 (P3.m I)⟩))
/-- a not -/
theorem Pe.nt {s : Nat} {h h2 h3 h5 : Hp_} (I : Iv h) (q : Pq h) (F : Fr [1033, 1034, 1035] h h2) (a2 : pa h + 1 ≤ pa h2) (d2 : pd h2 = pd h + 1) (d5 : pd h ≤ 5) (Q : Pe s h2 h3)
    (S : Iv h5 ∧ Fr [1036, 226999] (h_im h3 1 35 ((h_i h3 1 35) - 1)) h5 ∧ (h_i h5 1 36).toInt = (h_i (h_im h3 1 35 ((h_i h3 1 35) - 1)) 1 36).toInt + 1 ∧ h_i h5 226 (h_i (h_im h3 1 35 ((h_i h3 1 35) - 1)) 1 36).toNatClampNeg = 33 ∧ ∀ k, k ≠ (h_i (h_im h3 1 35 ((h_i h3 1 35) - 1)) 1 36).toNatClampNeg → h_i h5 226 k = h_i (h_im h3 1 35 ((h_i h3 1 35) - 1)) 226 k) : Pe s h h5 := by
  obtain ⟨p1, p2, p3, p4, p5, p6, p7, p8⟩ := Q
  obtain ⟨s1, s2, s3, s4, s5⟩ := S
  rw [f_ne (by decide)] at s3 s4 s5
  have z2 := zf F (by decide +kernel)
  have z3 := zf p2 (by decide +kernel)
  have e36 : h_i h2 1 36 = h_i h 1 36 := (F.2 1 36 (by decide +kernel)).1
  have s2' : ps h2 = ps h := by show (h_i h2 1 36).toInt = _; rw [e36]
  have n2 : sN h2 = sN h := by show (h_i h2 1 36).toNatClampNeg = _; rw [e36]
  have t5 : ps h5 = ps h3 + 1 := s3
  have m3 := sN_i p1
  have m5 := sN_i s1
  have n5 : sN h5 = sN h3 + 1 := by omega
  have f2 : h_i h2 226 = h_i h 226 := funext (fun k => fr_i F (by decide +kernel) k)
  have f4 : ∀ k, h_i (h_im h3 1 35 ((h_i h3 1 35) - 1)) 226 k = h_i h3 226 k := fun k => by rw [h_i_im, if_neg (fun u => absurd u.1 (by decide))]
  have e33 : pa h5 = pa h3 := by show (h_i h5 1 33).toInt = _; rw [(s2.2 1 33 (by decide +kernel)).1, f_ne (by decide)]
  have e34 : h_i h5 1 34 = h_i h3 1 34 := by rw [(s2.2 1 34 (by decide +kernel)).1, f_ne (by decide)]
  have o1 : (1 : Int32).toInt = 1 := rfl
  have d0 : 0 ≤ pd h := (dp_in7 I).1
  have d1 : 1 ≤ (h_i h3 1 35).toInt := by show 1 ≤ pd h3; omega
  have d7 : (h_i h3 1 35).toInt ≤ 7 := (dp_in7 p1).2
  have e35 : pd h5 = pd h3 - 1 := by
    show (h_i h5 1 35).toInt = (h_i h3 1 35).toInt - 1
    rw [(s2.2 1 35 (by decide +kernel)).1, im_at, tx_sub (by rw [o1]; omega) (by rw [o1]; omega), o1]
  have F35 : Fr [1035] h3 (h_im h3 1 35 ((h_i h3 1 35) - 1)) := (Fr.rf _ _).im (by decide +kernel)
  have m2 := sN_i I
  refine ⟨s1, ((F.more (by decide +kernel)).tr p2).tr ((F35.more (by decide +kernel)).tr (s2.more (by decide +kernel))), by omega, by omega, fun k hk => ?_, by omega, fun w => ?_, fun w => ?_⟩
  · rw [s5 k (by show k ≠ sN h3; omega), f4, p5 k (by omega), f2]
  · rw [e34] at w
    obtain ⟨t1, t2, t3, K, t4, t6⟩ := p7 w
    refine ⟨by omega, by omega, by omega, K, by omega, ?_⟩
    rw [n5, ← n2]
    refine PR.not_ (PR.same (fun k a b => ?_) t6) s4
    rw [s5 k (by show k ≠ sN h3; omega), f4]
  · rw [e34] at w
    obtain ⟨t1, t2⟩ := p8 w
    exact ⟨by omega, by omega⟩
theorem c_unit (s e : Nat) (D : Int) (B : Rd s D (fun d h K => Cv (m_X12_sum (d + e + 53) 0 0) [.ref 1] h K)) (U : D ≤ 5 → Rd s (D + 1) (fun d h K => Cv (m_X12_unit (d + e + 55) 0 0) [.ref 1] h K)) : Rd s D (fun d h K => Cv (m_X12_unit (d + e + 65) 0 0) [.ref 1] h K) := by
  intro d h I q eD es
  have z1 : pz h ≤ 160 := (pz_in I).2
  have q1 := q.1
  have q2 := q.2.1
  have q3 := q.2.2.1
  have q5 := q.said I
  have d0 : 0 ≤ pd h := (dp_in7 I).1
  refine t_X12_unit (d + e) h I.1 _ (Ci.mono (c_look (d + e) I) (fun r h1 L => ?_))
  have z2 := zf L.2.1 (by decide +kernel)
  have e35 : pd h1 = pd h := by show (h_i h1 1 35).toInt = _; rw [(L.2.1.2 1 35 (by decide +kernel)).1]
  have e36 : h_i h1 1 36 = h_i h 1 36 := (L.2.1.2 1 36 (by decide +kernel)).1
  have f226 : h_i h1 226 = h_i h 226 := funext (fun k => fr_i L.2.1 (by decide +kernel) k)
  have ps1 : ps h1 = ps h := by show (h_i h1 1 36).toInt = _; rw [e36]
  have sn1 : sN h1 = sN h := by show (h_i h1 1 36).toNatClampNeg = _; rw [e36]
  have l3 := L.2.2.1
  have a1 : pa h1 ≤ pz h := by
    rcases L.2.2.2.1 with u | u
    · omega
    · exact u
  have op : pa h1 < pz h → Ci (m_X12_opens (d + e + 1) 0 0) [.ref 1] h1 (fun r2 h2 => Iv h2 ∧ (r2 = 0 → Pe s h h2) ∧ (¬ r2 = 0 → Pq h2 ∧ Fr [1033, 1034, 1035] h h2 ∧ pa h + 1 ≤ pa h2 ∧ pd h2 = pd h + 1 ∧ pd h ≤ 5 ∧ h_i h2 1 37 = h_i h 1 37)) := by
    intro l5
    refine Ci.mono (c_opens (d + e) L.1 (by omega) (by show pd h1 ≤ 6; omega)) (fun r2 h2 k => ?_)
    obtain ⟨I2, F2, k⟩ := k
    refine ⟨I2, fun r0 => ?_, fun r0 => ?_⟩
    · rcases k with k | k
      · rw [k.1] at r0; exact absurd r0 (by decide)
      · exact Pe.no I q L I2 F2 k.2.1 k.2.2.1 k.2.2.2
    · rcases k with k | k
      · obtain ⟨k1, k2, k3, k4, k5⟩ := k
        exact op_q I q L l5 I2 F2 k2 k3 k4 k5
      · exact absurd k.1 r0
  refine ⟨L.1.1, fun n1 => ⟨fun n2 => ?_, fun er => ?_⟩, fun er => ?_⟩
  · have qh1 : Pq h1 := ⟨by rw [(L.2.1.2 1 34 (by decide +kernel)).1]; exact q1, by omega, by omega, by have := q.2.2.2; omega⟩
    have Pl : ∀ h6, Pe s h1 h6 → Pe s h h6 := fun h6 P => by
      obtain ⟨p1, p2, p3, p4, p5, p6, p7, p8⟩ := P
      refine ⟨p1, (L.2.1.more (by decide +kernel)).tr p2, by omega, by omega, fun k hk => by rw [p5 k (by omega), f226], by omega, fun w => ?_, fun w => ?_⟩
      · obtain ⟨t1, t2, t3, K, t4, t5⟩ := p7 w
        exact ⟨by omega, by omega, by omega, K, by omega, by rw [← sn1]; exact t5⟩
      · obtain ⟨t1, t2⟩ := p8 w
        exact ⟨by omega, by omega⟩
    refine Cv.mono (B d h1 L.1 qh1 (by omega) (by rw [(L.2.1.2 1 37 (by decide +kernel)).1]; exact es)) (fun h6 P => ⟨P.1.1, Cv.mono (c_compare s e D B d I q eD es (Pl h6 P)) (fun h9 P9 => ⟨P9.1.1, P9⟩)⟩)
  · have l5 : pa h1 < pz h := by
      rcases L.fwd rfl with u | u
      · rw [er] at u; exact absurd u (by decide)
      · exact u
    refine Ci.mono (op l5) (fun r2 h2 k => ⟨k.1.1, k.2.1, fun r0 => ?_⟩)
    obtain ⟨Q2, G2, b2, d2, d5, s2⟩ := k.2.2 r0
    refine Cv.mono (c_cond0 s e (D + 1) (U (by omega)) d h2 k.1 Q2 (by omega) (by rw [s2]; exact es)) (fun h3 P => ⟨P.1.1, Cv.mono (c_closes (d + e) P.1 41 ?_ (by decide) ?_) (fun h4 C => ⟨C.1.1, Pe.br I q G2 b2 d2 d5 P C⟩)⟩)
    · have z3 := zf P.2.1 (by decide +kernel)
      have z4 := zf G2 (by decide +kernel)
      refine ⟨fun w => ?_, ?_⟩
      · have := (P.2.2.2.2.2.2.1 w).1
        omega
      · by_cases w : h_i h3 1 34 = -1
        · have := (P.2.2.2.2.2.2.1 w).1
          omega
        · have := (P.2.2.2.2.2.2.2 w).1
          omega
    · have p3 := P.2.2.1
      show 1 ≤ pd h3
      omega
  · have l5 : pa h1 < pz h := by
      rcases L.fwd rfl with u | u
      · rw [er] at u; exact absurd u (by decide)
      · exact u
    refine Ci.mono (op l5) (fun r2 h2 k => ⟨k.1.1, k.2.1, fun r0 => ?_⟩)
    obtain ⟨Q2, G2, b2, d2, d5, s2⟩ := k.2.2 r0
    refine Cv.mono (U (by omega) d h2 k.1 Q2 (by omega) (by rw [s2]; exact es)) (fun h3 P => ⟨P.1.1, ?_⟩)
    have p3 := P.2.2.1
    have o1 : (1 : Int32).toInt = 1 := rfl
    have d1 : 1 ≤ (h_i h3 1 35).toInt := by show 1 ≤ pd h3; omega
    have d7 : (h_i h3 1 35).toInt ≤ 7 := (dp_in7 P.1).2
    have e3 : (h_i h3 1 35 - 1).toInt = (h_i h3 1 35).toInt - 1 := by rw [tx_sub (by rw [o1]; omega) (by rw [o1]; omega), o1]
    refine Cv.mono (c_say (d + e) (i35 P.1 ⟨by rw [e3]; show (0 : Int) ≤ _; omega, by rw [e3]; show _ ≤ (7 : Int); omega⟩) 33 ?_) (fun h5 S => ⟨S.1.1, Pe.nt I q G2 b2 d2 d5 P S⟩)
    rw [f_ne (by decide)]
    exact P.room k.1 Q2
/-! all depths -/
theorem Rd.up {s : Nat} {D : Int} {C : Nat → Hp_ → (Hp_ → Prop) → Prop} (A : Rd s D C) (j : Nat) : Rd s D (fun d => C (d + j)) := fun d h I q a b => A (d + j) h I q a b
theorem c_sums (s : Nat) (hs : s = 1 ∨ s = 2) : ∀ (g : Nat), g ≤ 6 → Rd s (6 - (g : Int)) (fun d h K => Cv (m_X12_sum (d + (10 * g + 10) + 53) 0 0) [.ref 1] h K) := by
  intro g
  induction g with
  | zero =>
    intro _
    refine c_sum s _ _ (c_term s _ _ ?_)
    exact c_atom s 0 _ hs (fun n => absurd n (by decide))
  | succ g ih =>
    intro hg
    refine c_sum s _ _ (c_term s _ _ ?_)
    have := c_atom s (10 * g + 10) (6 - ((g + 1 : Nat) : Int)) hs (fun _ => by rw [show (6 - ((g + 1 : Nat) : Int)) + 1 = 6 - (g : Int) by omega]; exact ih (by omega))
    intro d h I q a b
    have t := this d h I q a b
    dsimp only at t
    rw [show d + (10 * g + 10) + 61 = d + (10 * (g + 1) + 10) + 51 by omega] at t
    exact t
theorem c_units (s : Nat) (hs : s = 1 ∨ s = 2) : ∀ (g : Nat), g ≤ 6 → Rd s (6 - (g : Int)) (fun d h K => Cv (m_X12_unit (d + (10 * g + 10) + 65) 0 0) [.ref 1] h K) := by
  intro g
  induction g with
  | zero =>
    intro _
    exact c_unit s _ _ (c_sums s hs 0 (by decide)) (fun n => absurd n (by decide))
  | succ g ih =>
    intro hg
    refine c_unit s _ _ (c_sums s hs (g + 1) hg) (fun _ => ?_)
    rw [show (6 - ((g + 1 : Nat) : Int)) + 1 = 6 - (g : Int) by omega]
    intro d h I q a b
    have t := ih (by omega) d h I q a b
    dsimp only at t
    rw [show d + (10 * g + 10) + 65 = d + (10 * (g + 1) + 10) + 55 by omega] at t
    exact t
/-- at depth 0: a sum, a condition, a condition whose first sum stands -/
theorem r_sum (s : Nat) (hs : s = 1 ∨ s = 2) : Rd s 0 (fun d h K => Cv (m_X12_sum (d + 133) 0 0) [.ref 1] h K) := by
  intro d h I q a b
  have t := c_sums s hs 6 (by decide) (d + 10) h I q (by omega) b
  dsimp only at t
  rw [show d + 10 + (10 * 6 + 10) + 53 = d + 133 by omega] at t
  exact t
theorem r_unit (s : Nat) (hs : s = 1 ∨ s = 2) : Rd s 0 (fun d h K => Cv (m_X12_unit (d + 80 + 55) 0 0) [.ref 1] h K) := by
  intro d h I q a b
  have t := c_units s hs 6 (by decide) d h I q (by omega) b
  exact t
theorem r_cond0 (s : Nat) (hs : s = 1 ∨ s = 2) : Rd s 0 (fun d h K => Cv (m_X12_condition (d + 137) 0 0) [.ref 1, .int 0] h K) := c_cond0 s 80 0 (r_unit s hs)
theorem r_cond1 (s : Nat) (hs : s = 1 ∨ s = 2) (d : Nat) {h h2 : Hp_} (I : Iv h) (q : Pq h) (eD : pd h = 0) (es : h_i h 1 37 = Int32.ofNat s) (P : Pe s h h2) : Cv (m_X12_condition (d + 137) 0 0) [.ref 1, .int 1] h2 (fun h' => Pe s h h') := c_cond1 s 80 0 (r_unit s hs) (r_sum s hs) d I q eD es P
