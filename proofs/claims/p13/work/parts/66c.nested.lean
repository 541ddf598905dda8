/-! steps within brackets; steps one behind the other; all depths -/
def Qs (g : Nat) (cd : Nat → Int32) (i j : Nat) : Prop := ∃ f, sqS (stD cd g) f i j
theorem st_n {g : Nat} (d e : Nat) (B : RdS (4 - (g : Int)) (Qs g) (fun d h K => Cv (m_X12_stepsRead (d + e + 52) 0 0) [.ref 1] h K)) {h h1 : Hp_} {r : Int32} (I : Iv h) (q : Pr h) (eD : pd h = 4 - ((g + 1 : Nat) : Int)) (L : Lk h r h1) (l : pa h1 < pz h) :
    Cv (m_X12_say (d + e + 0) 0 0) [.ref 1, .int 4] (h_im (h_im h1 1 35 ((h_i h1 1 35) + 1)) 1 33 ((h_i h1 1 33) + 1)) (fun h16 => Wf h16 ∧ (Cv (m_X12_stepsRead (d + e + 52) 0 0) [.ref 1] h16 (fun h19 => Wf h19 ∧ ((¬ (h_i h19 1 34) = (-1) → (¬ (h_i h19 1 34) = (-1) → Ptt (fun cd => stD cd (g + 1)) h (h_im (h_im h19 1 33 ((h_i h19 1 33) + 1)) 1 35 ((h_i h19 1 35) - 1))) ∧ ((h_i h19 1 34) = (-1) → Cv (m_X12_say (d + e + 0) 0 0) [.ref 1, .int 5] (h_im (h_im h19 1 33 ((h_i h19 1 33) + 1)) 1 35 ((h_i h19 1 35) - 1)) (fun h24 => Wf h24 ∧ (Ci (m_X12_within (d + e + 2) 0 0) [.ref 1, .int 1, .int 20] h24 (fun r29 h27 => Wf h27 ∧ (Cv (m_X12_say (d + e + 0) 0 0) [.ref 1, .int r29] h27 (fun h30 => Wf h30 ∧ (Ptt (fun cd => stD cd (g + 1)) h h30)))))))) ∧ ((h_i h19 1 34) = (-1) → Ci (m_X12_look (d + e + 0) 0 0) [.ref 1] h19 (fun r35 h33 => Wf h33 ∧ ((r35 = 41 → (¬ (h_i h33 1 34) = (-1) → Ptt (fun cd => stD cd (g + 1)) h (h_im (h_im h33 1 33 ((h_i h33 1 33) + 1)) 1 35 ((h_i h33 1 35) - 1))) ∧ ((h_i h33 1 34) = (-1) → Cv (m_X12_say (d + e + 0) 0 0) [.ref 1, .int 5] (h_im (h_im h33 1 33 ((h_i h33 1 33) + 1)) 1 35 ((h_i h33 1 35) - 1)) (fun h38 => Wf h38 ∧ (Ci (m_X12_within (d + e + 2) 0 0) [.ref 1, .int 1, .int 20] h38 (fun r43 h41 => Wf h41 ∧ (Cv (m_X12_say (d + e + 0) 0 0) [.ref 1, .int r43] h41 (fun h44 => Wf h44 ∧ (Ptt (fun cd => stD cd (g + 1)) h h44)))))))) ∧ (¬ r35 = 41 → Cv (m_X12_bad (d + e + 0) 0 0) [.ref 1] h33 (fun h47 => Wf h47 ∧ ((¬ (h_i h47 1 34) = (-1) → Ptt (fun cd => stD cd (g + 1)) h (h_im (h_im h47 1 33 ((h_i h47 1 33) + 1)) 1 35 ((h_i h47 1 35) - 1))) ∧ ((h_i h47 1 34) = (-1) → Cv (m_X12_say (d + e + 0) 0 0) [.ref 1, .int 5] (h_im (h_im h47 1 33 ((h_i h47 1 33) + 1)) 1 35 ((h_i h47 1 35) - 1)) (fun h51 => Wf h51 ∧ (Ci (m_X12_within (d + e + 2) 0 0) [.ref 1, .int 1, .int 20] h51 (fun r56 h54 => Wf h54 ∧ (Cv (m_X12_say (d + e + 0) 0 0) [.ref 1, .int r56] h54 (fun h57 => Wf h57 ∧ (Ptt (fun cd => stD cd (g + 1)) h h57))))))))))))))))) := by
  obtain ⟨q1, q2, q3, q4⟩ := q
  have z1 : pz h ≤ 160 := (pz_in I).2
  have l3 := L.2.2.1
  have d0 : 0 ≤ pd h := (dp_in7 I).1
  have o1 : (1 : Int32).toInt = 1 := rfl
  have ed1 := f35 L.2.1 (by decide +kernel)
  have a0' : 0 ≤ (h_i h1 1 33).toInt := (pa_in L.1).1
  have l' : (h_i h1 1 33).toInt < pz h := l
  have d1' : (h_i h1 1 35).toInt = pd h := ed1
  have e33 : (h_i h1 1 33 + 1).toInt = (h_i h1 1 33).toInt + 1 := by rw [tx_add (by rw [o1]; omega) (by rw [o1]; omega), o1]
  have e35 : (h_i h1 1 35 + 1).toInt = (h_i h1 1 35).toInt + 1 := by rw [tx_add (by rw [o1]; omega) (by rw [o1]; omega), o1]
  have I2 : Iv (h_im (h_im h1 1 35 ((h_i h1 1 35) + 1)) 1 33 ((h_i h1 1 33) + 1)) := i33 (i35 L.1 ⟨by rw [e35]; show (0 : Int) ≤ _; omega, by rw [e35]; show _ ≤ (7 : Int); omega⟩) ⟨by rw [e33]; show (0 : Int) ≤ _; omega, by rw [e33]; show _ ≤ (180 : Int); omega⟩
  have F2 : Fr [1033, 1034, 1035] h (h_im (h_im h1 1 35 ((h_i h1 1 35) + 1)) 1 33 ((h_i h1 1 33) + 1)) := ((L.2.1.more (by decide +kernel)).im (by decide +kernel)).im (by decide +kernel)
  have a2 : pa (h_im (h_im h1 1 35 ((h_i h1 1 35) + 1)) 1 33 ((h_i h1 1 33) + 1)) = pa h1 + 1 := by
    show (h_i (h_im _ 1 33 _) 1 33).toInt = _
    rw [im_at]; exact e33
  have d2 : pd (h_im (h_im h1 1 35 ((h_i h1 1 35) + 1)) 1 33 ((h_i h1 1 33) + 1)) = pd h + 1 := by
    show (h_i (h_im _ 1 33 _) 1 35).toInt = _
    rw [f_ne (by decide), im_at, e35, d1']
  have w2 : h_i (h_im (h_im h1 1 35 ((h_i h1 1 35) + 1)) 1 33 ((h_i h1 1 33) + 1)) 1 34 = -1 := by rw [f_ne (by decide), f_ne (by decide), f34 L.2.1 (by decide +kernel)]; exact q1
  generalize h_im (h_im h1 1 35 ((h_i h1 1 35) + 1)) 1 33 ((h_i h1 1 33) + 1) = h2 at I2 F2 a2 d2 w2 ⊢
  have p2 := f36 F2 (by decide +kernel)
  have z2 := zf F2 (by decide +kernel)
  refine Cv.mono (c_say (d + e) I2 4 (by show ps h2 ≤ 558; omega)) (fun h3 S => ⟨S.1.1, ?_⟩)
  obtain ⟨s1, s2, s3, s4, s5⟩ := Sa.q (h := h2) (x := 4) (h' := h3) S
  have Y : Sy h [4] h3 := ((Sy.rf I).mv I2 F2).say I S
  have n0 := sN_i I
  have n3 := sN_i Y.1
  have m3 : sN h3 = sN h + 1 := by omega
  refine Cv.mono (B d h3 Y.1 ⟨by rw [s2]; exact w2, by omega, by omega, by omega⟩ (by omega)) (fun h4 P => ⟨P.1.1, ?_⟩)
  obtain ⟨p1, p2', p3, p4, p5, p6, p7, p8⟩ := P
  have z4 := zf p2' (by decide +kernel)
  have n4 := sN_i p1
  have c4 : ∀ k, k < sN h → h_i h4 226 k = h_i h 226 k := fun k hk => by rw [p5 k (by omega)]; exact Y.2.2.1 k hk
  -- wrong behind the closing of the bracket
  have no : ∀ h5 : Hp_, Iv h5 → Fr [1033, 1034, 1035] h4 h5 → pd h5 = pd h4 → ¬ h_i h5 1 34 = -1 → pa h4 ≤ pa h5 → pa h5 + pd h + 1 ≤ pz h + 5 → ps h4 ≤ ps h + (pa h5 - pa h) + 2 → Ptt (fun cd => stD cd (g + 1)) h (h_im (h_im h5 1 33 ((h_i h5 1 33) + 1)) 1 35 ((h_i h5 1 35) - 1)) := by
    intro h5 i5 f5 e5 w5 a5 b5 c5
    obtain ⟨k1, k2, k3, k4, k5⟩ := cl1 i5 (by omega) (by omega)
    generalize h_im (h_im h5 1 33 ((h_i h5 1 33) + 1)) 1 35 ((h_i h5 1 35) - 1) = h6 at k1 k2 k3 k4 k5 ⊢
    have g5 := f36 f5 (by decide +kernel)
    have g6 := f36 k2 (by decide +kernel)
    refine ⟨k1, (Y.2.1.tr p2').tr ((f5.tr k2).more (by decide +kernel)), by omega, by omega, fun k hk => ?_, by omega, fun w => absurd (k5 ▸ w) w5, fun _ => ⟨by omega, by omega⟩⟩
    rw [fr_i k2 (a := 226) (by decide +kernel), fr_i f5 (a := 226) (by decide +kernel)]
    exact c4 k hk
  refine ⟨fun w => ⟨fun _ => ?_, fun y => absurd y w⟩, fun w => ?_⟩
  · obtain ⟨t1, t2⟩ := p8 w
    exact no h4 p1 (Fr.rf _ _) rfl w (Int.le_refl _) (by omega) (by omega)
  · obtain ⟨t1, t2, t3, t4⟩ := p7 w
    refine Ci.mono (c_look (d + e) p1) (fun r5 h5 L5 => ⟨L5.1.1, fun er => ⟨fun y => ?_, fun w5 => ?_⟩, fun nr => ?_⟩)
    · exact absurd (by rw [f34 L5.2.1 (by decide +kernel)]; exact w) y
    · have l5 : pa h5 < pz h := by
        rcases L5.fwd (z := pz h) (by omega) with u | u
        · rw [er] at u; exact absurd u (by decide)
        · exact u
      have l53 := L5.2.2.1
      have e5 := f35 L5.2.1 (by decide +kernel)
      obtain ⟨k1, k2, k3, k4, k5⟩ := cl1 L5.1 (by omega) (by omega)
      generalize h_im (h_im h5 1 33 ((h_i h5 1 33) + 1)) 1 35 ((h_i h5 1 35) - 1) = h6 at k1 k2 k3 k4 k5 ⊢
      have g5 := f36 L5.2.1 (by decide +kernel)
      have g6 := f36 k2 (by decide +kernel)
      have z5 := zf L5.2.1 (by decide +kernel)
      have z6 := zf k2 (by decide +kernel)
      refine Cv.mono (c_say (d + e) k1 5 (by show ps h6 ≤ 558; omega)) (fun h7 T => ⟨T.1.1, ?_⟩)
      obtain ⟨u1, u2, u3, u4, u5⟩ := Sa.q (h := h6) (x := 5) (h' := h7) T
      refine Ci.mono (c_within (d + e) T.1 (by rw [u2, k5]; exact w5) (by omega) 1 20) (fun r8 h8 W => ⟨W.1.1.1, ?_⟩)
      obtain ⟨N, wr⟩ := W
      obtain ⟨o1, o2, o3, o4, o5⟩ := N
      have g8 := f36 o2 (by decide +kernel)
      have e8 := f35 o2 (by decide +kernel)
      refine Cv.mono (c_say (d + e) o1 r8 (by show ps h8 ≤ 558; omega)) (fun h9 U => ⟨U.1.1, ?_⟩)
      obtain ⟨v1, v2, v3, v4, v5⟩ := Sa.q (h := h8) (x := r8) (h' := h9) U
      have X : Sy h4 [5, r8] h9 := (((((Sy.rf p1).mv L5.1 (L5.2.1.more (by decide +kernel))).mv k1 k2).say p1 T).mv o1 (o2.more (by decide +kernel))).say p1 U
      obtain ⟨x1, x2, x3, x4, x5⟩ := X
      have x4' : ps h9 = ps h4 + 2 := x4
      have n9 := sN_i x1
      have m9 : sN h9 = sN h4 + 2 := by omega
      refine ⟨x1, (Y.2.1.tr p2').tr x2, by omega, by omega, fun k hk => ?_, by omega, fun w9 => ?_, fun w9 => ⟨by omega, by omega⟩⟩
      · rw [x3 k (by omega)]; exact c4 k hk
      · rw [v2] at w9
        have g9 := o5 w9
        obtain ⟨b1, b2⟩ := wr w9
        have y5 := x5 0 5 rfl
        have y6 := x5 1 r8 rfl
        obtain ⟨f, t4⟩ := t4
        refine ⟨by omega, by omega, by omega, Or.inr ⟨?_, f, sN h4, ?_, y5, ?_, m9⟩⟩
        · rw [x3 _ (by omega), p5 _ (by omega)]
          exact Y.2.2.2.2 0 4 rfl
        · rw [← m3]
          exact sqD_same (fun k _ b => x3 k b) t4
        · rw [show h_i h9 226 (sN h4 + 1) = r8 from y6]
          exact ⟨q_le.mp b1, q_le.mp b2⟩
    · have l53 := L5.2.2.1
      have l54 := L5.2.2.2.1
      refine Cv.mono (c_bad (d + e) L5.1) (fun h6 k => ⟨k.1.1, fun w6 => ?_, fun w6 => absurd w6 k.2.2⟩)
      obtain ⟨k1, k2, k3⟩ := k
      have e6 := f33 k2 (by decide +kernel)
      have d6 := f35 k2 (by decide +kernel)
      have d5 := f35 L5.2.1 (by decide +kernel)
      exact no h6 k1 ((L5.2.1.more (by decide +kernel)).tr (k2.more (by decide +kernel))) (by omega) w6 (by omega) (by omega) (by omega)
theorem c_stepRead (e g : Nat) (hg : g ≤ 4) (B : ∀ g', g = g' + 1 → RdS (4 - (g' : Int)) (Qs g') (fun d h K => Cv (m_X12_stepsRead (d + e + 52) 0 0) [.ref 1] h K)) : RdS (4 - (g : Int)) (fun cd => stD cd g) (fun d h K => Cv (m_X12_stepRead (d + e + 61) 0 0) [.ref 1] h K) := by
  intro d h I q eD
  refine t_X12_stepRead (d + e) h I.1 _ (Ci.mono (c_look (d + e) I) (fun r h1 L => ?_))
  have fwd : ∀ c : Int32, r = c → ¬ c = -1 → pa h1 < pz h := fun c ec nc => by
    rcases L.fwd rfl with u | u
    · exact absurd (ec.symm.trans u) nc
    · exact u
  refine ⟨L.1.1, fun _ => ⟨fun _ => ⟨fun _ => ⟨fun _ => ⟨fun _ => st_bad (d + e) I q L, fun e40 => ⟨fun _ => st_bad (d + e) I q L, fun d4 => ?_⟩⟩, fun e108 => st_l (d + e) I q L (fwd _ e108 (by decide))⟩, fun e112 => st_p (d + e) I q L (fwd _ e112 (by decide))⟩, fun e119 => ?_⟩, fun e103 => ?_⟩
  · have d4 := q_nle d4
    have ed := f35 L.2.1 (by decide +kernel)
    have d4' : pd h1 < 4 := d4
    cases g with
    | zero => exact absurd eD (by omega)
    | succ g => exact st_n d e (B g rfl) I q eD L (fwd _ e40 (by decide))
  · exact st_gw (d + e) I q L (fwd _ e119 (by decide)) 1 1 240 (fun cd i a b c => stD.b (Or.inr (Or.inl ⟨a, ⟨q_le.mp b, q_le.mp c⟩, rfl⟩)))
  · exact st_gw (d + e) I q L (fwd _ e103 (by decide)) 0 0 15 (fun cd i a b c => stD.b (Or.inl ⟨a, ⟨q_le.mp b, q_le.mp c⟩, rfl⟩))
/-- one step more behind a sign -/
theorem Ptt.more {g : Nat} {h h5 h6 h9 : Hp_} (I : Iv h) (q : Pr h) (P : Ptt (Qs g) h h5) (w : h_i h5 1 34 = -1) (I6 : Iv h6) (F6 : Fr [1033] h5 h6) (a6 : pa h6 = pa h5 + 1) (Q : Ptt (fun cd => stD cd g) h6 h9) : Ptt (Qs g) h h9 := by
  obtain ⟨p1, p2, p3, p4, p5, p6, p7, p8⟩ := P
  obtain ⟨q1, q2, q3, q4, q5, q6, q7, q8⟩ := Q
  obtain ⟨t1, t2, t3, f, t4⟩ := p7 w
  have z5 := zf p2 (by decide +kernel)
  have z6 := zf F6 (by decide +kernel)
  have g6 := f36 F6 (by decide +kernel)
  have d6 := f35 F6 (by decide +kernel)
  have n5 := sN_i p1
  have n6 := sN_i I6
  have m6 : sN h6 = sN h5 := by omega
  have n0 := sN_i I
  have c6 : ∀ k, k < sN h5 → h_i h9 226 k = h_i h5 226 k := fun k hk => by rw [q5 k (by omega), fr_i F6 (a := 226) (by decide +kernel)]
  refine ⟨q1, (p2.tr (F6.more (by decide +kernel))).tr q2, by omega, by omega, fun k hk => ?_, by omega, fun w9 => ?_, fun w9 => ?_⟩
  · rw [c6 k (by omega)]; exact p5 k hk
  · obtain ⟨u1, u2, u3, u4⟩ := q7 w9
    refine ⟨by omega, by omega, by omega, f + 1, sqS_snoc (j := sN h5) (sqD_same (fun k _ b => c6 k b) t4) ?_⟩
    rw [← m6]; exact u4
  · obtain ⟨u1, u2⟩ := q8 w9
    exact ⟨by omega, by omega⟩
theorem c_stepsRead (e g : Nat) (A : RdS (4 - (g : Int)) (fun cd => stD cd g) (fun d h K => Cv (m_X12_stepRead (d + e + 51) 0 0) [.ref 1] h K)) : RdS (4 - (g : Int)) (Qs g) (fun d h K => Cv (m_X12_stepsRead (d + e + 52) 0 0) [.ref 1] h K) := by
  intro d h I q eD
  have z1 : pz h ≤ 160 := (pz_in I).2
  have qq := q
  obtain ⟨q1, q2, q3, q4⟩ := qq
  have lp : ∀ (n : Nat) (h2 : Hp_), Ptt (Qs g) h h2 → pz h - pa h2 ≤ n → AW (m_X12_stepsRead (d + e + 52) 0 0) 0 0 4 [(0, .ref 1)] [] h2 (kV (fun h' => Ptt (Qs g) h h')) := by
    intro n
    induction n with
    | zero =>
      intro h2 P m
      refine t_X12_stepsRead_4 (d + e) h2 P.1.1 _ ⟨fun _ => P, fun w => Ci.mono (c_look (d + e) P.1) (fun r h5 L => ⟨L.1.1, fun _ => P.lk I q L, fun er => ?_⟩)⟩
      have l3 := L.2.2.1
      rcases L.fwd (zf P.2.1 (by decide +kernel)) with u | u
      · rw [er] at u; exact absurd u (by decide)
      · omega
    | succ n ih =>
      intro h2 P m
      refine t_X12_stepsRead_4 (d + e) h2 P.1.1 _ ⟨fun _ => P, fun w => Ci.mono (c_look (d + e) P.1) (fun r h5 L => ⟨L.1.1, fun _ => P.lk I q L, fun er => ?_⟩)⟩
      have P5 := P.lk I q L
      have w5 : h_i h5 1 34 = -1 := by rw [f34 L.2.1 (by decide +kernel)]; exact w
      have l3 := L.2.2.1
      have z2 := zf P.2.1 (by decide +kernel)
      have l5 : pa h5 < pz h := by
        rcases L.fwd z2 with u | u
        · rw [er] at u; exact absurd u (by decide)
        · exact u
      obtain ⟨t1, t2, t3, t4⟩ := P5.2.2.2.2.2.2.1 w5
      obtain ⟨I6, F6, a6⟩ := nx1 P.1 L (by omega)
      have F56 : Fr [1033] h5 (h_im h5 1 33 ((h_i h5 1 33) + 1)) := (Fr.rf _ _).im (by decide +kernel)
      generalize h_im h5 1 33 ((h_i h5 1 33) + 1) = h6 at I6 F6 a6 F56 ⊢
      have g6 := f36 F56 (by decide +kernel)
      have d6 := f35 F56 (by decide +kernel)
      have z6 := zf F6 (by decide +kernel)
      have d5 := P5.2.2.1
      refine Cv.mono (A d h6 I6 ⟨by rw [f34 F56 (by decide +kernel)]; exact w5, by omega, by omega, by omega⟩ (by omega)) (fun h9 Q => ⟨Q.1.1, ih h9 (P5.more I q w5 I6 F56 a6 Q) ?_⟩)
      have q4 := Q.2.2.2.1
      omega
  refine t_X12_stepsRead (d + e) h I.1 _ (Cv.mono (A d h I q eD) (fun h1 P => ?_))
  have P' : Ptt (Qs g) h h1 := ⟨P.1, P.2.1, P.2.2.1, P.2.2.2.1, P.2.2.2.2.1, P.2.2.2.2.2.1, fun w => ⟨(P.2.2.2.2.2.2.1 w).1, (P.2.2.2.2.2.2.1 w).2.1, (P.2.2.2.2.2.2.1 w).2.2.1, 1, _, (P.2.2.2.2.2.2.1 w).2.2.2, rfl⟩, P.2.2.2.2.2.2.2⟩
  refine ⟨P.1.1, lp 160 h1 P' ?_⟩
  have a1 : 0 ≤ pa h1 := (pa_in P.1).1
  omega
theorem c_steps : ∀ (g : Nat), g ≤ 4 → RdS (4 - (g : Int)) (Qs g) (fun d h K => Cv (m_X12_stepsRead (d + (10 * g + 10) + 52) 0 0) [.ref 1] h K) := by
  intro g
  induction g with
  | zero =>
    intro _
    exact c_stepsRead _ 0 (c_stepRead 0 0 (by decide) (fun g' h => absurd h (by omega)))
  | succ g ih =>
    intro hg
    have A := c_stepRead (10 * g + 10) (g + 1) hg (fun g' h => by
      have h : g = g' := by omega
      subst h
      exact ih (by omega))
    refine c_stepsRead _ (g + 1) (fun d h I q a => ?_)
    have t := A d h I q a
    dsimp only at t
    rw [show d + (10 * g + 10) + 61 = d + (10 * (g + 1) + 10) + 51 by omega] at t
    exact t
theorem r_steps (d : Nat) {h : Hp_} (I : Iv h) (q : Pr h) (e : pd h = 0) : Cv (m_X12_stepsRead (d + 80 + 52) 0 0) [.ref 1] h (fun h' => Ptt (Qs 4) h h') := by
  have t := c_steps 4 (by decide) (d + 30) h I q (by omega)
  dsimp only at t
  rw [show d + 30 + (10 * 4 + 10) + 52 = d + 80 + 52 by omega] at t
  exact t
