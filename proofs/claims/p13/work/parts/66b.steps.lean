/-! steps read -/
theorem f36 {ws : List Nat} {h h' : Hp_} (F : Fr ws h h') (o : inw ws 1 36 = false) : ps h' = ps h := by show (h_i h' 1 36).toInt = _; rw [(F.2 1 36 o).1]
theorem f35 {ws : List Nat} {h h' : Hp_} (F : Fr ws h h') (o : inw ws 1 35 = false) : pd h' = pd h := by show (h_i h' 1 35).toInt = _; rw [(F.2 1 35 o).1]
theorem f34 {ws : List Nat} {h h' : Hp_} (F : Fr ws h h') (o : inw ws 1 34 = false) : h_i h' 1 34 = h_i h 1 34 := (F.2 1 34 o).1
theorem f33 {ws : List Nat} {h h' : Hp_} (F : Fr ws h h') (o : inw ws 1 33 = false) : pa h' = pa h := by show (h_i h' 1 33).toInt = _; rw [(F.2 1 33 o).1]
theorem st_bad {Q : (Nat → Int32) → Nat → Nat → Prop} (d : Nat) {h h1 : Hp_} {r : Int32} (I : Iv h) (q : Pr h) (L : Lk h r h1) : Cv (m_X12_bad (d + 0) 0 0) [.ref 1] h1 (fun h9 => Wf h9 ∧ Ptt Q h h9) := by
  obtain ⟨q1, q2, q3, q4⟩ := q
  refine Cv.mono (c_bad d L.1) (fun h9 k => ⟨k.1.1, ?_⟩)
  obtain ⟨k1, k2, k3⟩ := k
  have e33 := f33 k2 (by decide +kernel)
  have e35 := f35 k2 (by decide +kernel)
  have e35' := f35 L.2.1 (by decide +kernel)
  have l3 := L.2.2.1
  have l4 := L.2.2.2.1
  refine Ptt.of I (((Sy.rf I).mv L.1 (L.2.1.more (by decide +kernel))).mv k1 (k2.more (by decide +kernel))) (by omega) (by omega) (fun w => absurd w k3) (fun _ => ⟨by omega, ?_⟩)
  show (0 : Int) ≤ _
  omega
theorem st_gw {Q : (Nat → Int32) → Nat → Nat → Prop} (d : Nat) {h h1 : Hp_} {r : Int32} (I : Iv h) (q : Pr h) (L : Lk h r h1) (l : pa h1 < pz h) (c x1 x2 : Int32) (hq : ∀ (cd : Nat → Int32) (i : Nat), cd i = c → x1 ≤ cd (i + 1) → cd (i + 1) ≤ x2 → Q cd i (i + 2)) : Cv (m_X12_say (d + 0) 0 0) [.ref 1, .int c] (h_im h1 1 33 ((h_i h1 1 33) + 1)) (fun h3 => Wf h3 ∧ Ci (m_X12_within (d + 2) 0 0) [.ref 1, .int x1, .int x2] h3 (fun r4 h4 => Wf h4 ∧ Cv (m_X12_say (d + 0) 0 0) [.ref 1, .int r4] h4 (fun h5 => Wf h5 ∧ Ptt Q h h5))) := by
  obtain ⟨q1, q2, q3, q4⟩ := q
  obtain ⟨I2, F2, a2⟩ := nx1 I L l
  have z1 : pz h ≤ 160 := (pz_in I).2
  have l3 := L.2.2.1
  generalize h_im h1 1 33 ((h_i h1 1 33) + 1) = h2 at I2 F2 a2 ⊢
  have p2 := f36 F2 (by decide +kernel)
  have w2 := f34 F2 (by decide +kernel)
  have d2 := f35 F2 (by decide +kernel)
  have z2 := zf F2 (by decide +kernel)
  refine Cv.mono (c_say d I2 c (by show ps h2 ≤ 558; omega)) (fun h3 S => ⟨S.1.1, ?_⟩)
  obtain ⟨s1, s2, s3, s4, s5⟩ := Sa.q (h := h2) (x := c) (h' := h3) S
  refine Ci.mono (c_within d S.1 (by rw [s2, w2]; exact q1) (by omega) x1 x2) (fun r4 h4 W => ⟨W.1.1.1, ?_⟩)
  obtain ⟨N, wr⟩ := W
  obtain ⟨n1, n2, n3, n4, n5⟩ := N
  have p4 := f36 n2 (by decide +kernel)
  have d4 := f35 n2 (by decide +kernel)
  refine Cv.mono (c_say d n1 r4 (by show ps h4 ≤ 558; omega)) (fun h5 T => ⟨T.1.1, ?_⟩)
  obtain ⟨t1, t2, t3, t4, t5⟩ := Sa.q (h := h4) (x := r4) (h' := h5) T
  have Y : Sy h [c, r4] h5 := ((((Sy.rf I).mv I2 (F2.more (by decide +kernel))).say I S).mv n1 (n2.more (by decide +kernel))).say I T
  refine Ptt.of I Y (by omega) (by omega) (fun w => ?_) (fun w => ?_)
  · rw [t2] at w
    have g := n5 w
    obtain ⟨b1, b2⟩ := wr w
    have e0 := Y.2.2.2.2 0 c rfl
    have e1 := Y.2.2.2.2 1 r4 rfl
    refine ⟨by omega, ?_, Nat.zero_lt_succ _, hq _ _ e0 (by rw [e1]; exact b1) (by rw [e1]; exact b2)⟩
    show pa h + (2 : Int) ≤ _
    omega
  · refine ⟨by omega, ?_⟩
    show (2 : Int) ≤ _
    omega
theorem st_p {g : Nat} (d : Nat) {h h1 : Hp_} {r : Int32} (I : Iv h) (q : Pr h) (L : Lk h r h1) (l : pa h1 < pz h) : Cv (m_X12_say (d + 0) 0 0) [.ref 1, .int 2] (h_im h1 1 33 ((h_i h1 1 33) + 1)) (fun h3 => Wf h3 ∧ Ci (m_X12_within (d + 2) 0 0) [.ref 1, .int 0, .int 15] h3 (fun r4 h4 => Wf h4 ∧ Cv (m_X12_say (d + 0) 0 0) [.ref 1, .int r4] h4 (fun h5 => Wf h5 ∧ ((¬ (h_i h5 1 34) = (-1) → Ptt (fun cd => stD cd g) h h5) ∧ ((h_i h5 1 34) = (-1) → Ci (m_X12_within (d + 2) 0 0) [.ref 1, .int 0, .int 1440] h5 (fun r6 h6 => Wf h6 ∧ Cv (m_X12_say (d + 0) 0 0) [.ref 1, .int r6] h6 (fun h7 => Wf h7 ∧ Ptt (fun cd => stD cd g) h h7))))))) := by
  obtain ⟨q1, q2, q3, q4⟩ := q
  obtain ⟨I2, F2, a2⟩ := nx1 I L l
  have z1 : pz h ≤ 160 := (pz_in I).2
  have l3 := L.2.2.1
  generalize h_im h1 1 33 ((h_i h1 1 33) + 1) = h2 at I2 F2 a2 ⊢
  have p2 := f36 F2 (by decide +kernel)
  have w2 := f34 F2 (by decide +kernel)
  have d2 := f35 F2 (by decide +kernel)
  have z2 := zf F2 (by decide +kernel)
  refine Cv.mono (c_say d I2 2 (by show ps h2 ≤ 558; omega)) (fun h3 S => ⟨S.1.1, ?_⟩)
  obtain ⟨s1, s2, s3, s4, s5⟩ := Sa.q (h := h2) (x := 2) (h' := h3) S
  refine Ci.mono (c_within d S.1 (by rw [s2, w2]; exact q1) (by omega) 0 15) (fun r4 h4 W => ⟨W.1.1.1, ?_⟩)
  obtain ⟨N, wr⟩ := W
  obtain ⟨n1, n2, n3, n4, n5⟩ := N
  have p4 := f36 n2 (by decide +kernel)
  have d4 := f35 n2 (by decide +kernel)
  have z4 := zf n2 (by decide +kernel)
  refine Cv.mono (c_say d n1 r4 (by show ps h4 ≤ 558; omega)) (fun h5 T => ⟨T.1.1, fun w => ?_, fun w => ?_⟩)
  · obtain ⟨t1, t2, t3, t4, t5⟩ := Sa.q (h := h4) (x := r4) (h' := h5) T
    have Y : Sy h [2, r4] h5 := ((((Sy.rf I).mv I2 (F2.more (by decide +kernel))).say I S).mv n1 (n2.more (by decide +kernel))).say I T
    refine Ptt.of I Y (by omega) (by omega) (fun y => absurd y w) (fun _ => ⟨by omega, ?_⟩)
    show (2 : Int) ≤ _
    omega
  · obtain ⟨t1, t2, t3, t4, t5⟩ := Sa.q (h := h4) (x := r4) (h' := h5) T
    have Y : Sy h [2, r4] h5 := ((((Sy.rf I).mv I2 (F2.more (by decide +kernel))).say I S).mv n1 (n2.more (by decide +kernel))).say I T
    have w4 : h_i h4 1 34 = -1 := by rw [← t2]; exact w
    have g4 := n5 w4
    obtain ⟨b1, b2⟩ := wr w4
    refine Ci.mono (c_within d T.1 w (by omega) 0 1440) (fun r6 h6 W => ⟨W.1.1.1, ?_⟩)
    obtain ⟨N', wr'⟩ := W
    obtain ⟨m1, m2, m3, m4, m5⟩ := N'
    have p6 := f36 m2 (by decide +kernel)
    have d6 := f35 m2 (by decide +kernel)
    refine Cv.mono (c_say d m1 r6 (by show ps h6 ≤ 558; omega)) (fun h7 U => ⟨U.1.1, ?_⟩)
    obtain ⟨u1, u2, u3, u4, u5⟩ := Sa.q (h := h6) (x := r6) (h' := h7) U
    have X : Sy h [2, r4, r6] h7 := (Y.mv m1 (m2.more (by decide +kernel))).say I U
    refine Ptt.of I X (by omega) (by omega) (fun v => ?_) (fun v => ?_)
    · rw [u2] at v
      have g6 := m5 v
      obtain ⟨b3, b4⟩ := wr' v
      have e0 := X.2.2.2.2 0 2 rfl
      have e1 := X.2.2.2.2 1 r4 rfl
      have e2 := X.2.2.2.2 2 r6 rfl
      refine ⟨by omega, ?_, Nat.zero_lt_succ _, stD.b (Or.inr (Or.inr (Or.inl ⟨e0, ?_, ?_, rfl⟩)))⟩
      · show pa h + (3 : Int) ≤ _
        omega
      · show rin (h_i h7 226 (sN h + 1)).toInt (0, 15)
        rw [e1]; exact ⟨q_le.mp b1, q_le.mp b2⟩
      · show rin (h_i h7 226 (sN h + 2)).toInt (0, 1440)
        rw [e2]; exact ⟨q_le.mp b3, q_le.mp b4⟩
    · refine ⟨by omega, ?_⟩
      show (3 : Int) ≤ _
      omega
theorem st_l {g : Nat} (d : Nat) {h h1 : Hp_} {r : Int32} (I : Iv h) (q : Pr h) (L : Lk h r h1) (l : pa h1 < pz h) : Cv (m_X12_say (d + 0) 0 0) [.ref 1, .int 3] (h_im h1 1 33 ((h_i h1 1 33) + 1)) (fun h3 => Wf h3 ∧ Ptt (fun cd => stD cd g) h h3) := by
  obtain ⟨q1, q2, q3, q4⟩ := q
  obtain ⟨I2, F2, a2⟩ := nx1 I L l
  have z1 : pz h ≤ 160 := (pz_in I).2
  have l3 := L.2.2.1
  generalize h_im h1 1 33 ((h_i h1 1 33) + 1) = h2 at I2 F2 a2 ⊢
  have p2 := f36 F2 (by decide +kernel)
  have w2 := f34 F2 (by decide +kernel)
  have d2 := f35 F2 (by decide +kernel)
  refine Cv.mono (c_say d I2 3 (by show ps h2 ≤ 558; omega)) (fun h3 S => ⟨S.1.1, ?_⟩)
  obtain ⟨s1, s2, s3, s4, s5⟩ := Sa.q (h := h2) (x := 3) (h' := h3) S
  have Y : Sy h [3] h3 := ((Sy.rf I).mv I2 (F2.more (by decide +kernel))).say I S
  refine Ptt.of I Y (by omega) (by omega) (fun w => ?_) (fun w => absurd (by rw [s2, w2]; exact q1) w)
  refine ⟨by omega, ?_, Nat.zero_lt_succ _, stD.b (Or.inr (Or.inr (Or.inr ⟨Y.2.2.2.2 0 3 rfl, rfl⟩)))⟩
  show pa h + (1 : Int) ≤ _
  omega
