/-! a number read -/
def Nu (h : Hp_) (h' : Hp_) : Prop := Iv h' ∧ Fr [1033, 1034] h h' ∧ pa h ≤ pa h' ∧ pa h' ≤ pz h ∧ (h_i h' 1 34 = -1 → pa h < pa h')
theorem c_isDigit (d : Nat) (h : Hp_) (x : Int32) : Ci (m_X12_isDigit (d + 0) 0 0) [.int x] h (fun r h' => h' = h ∧ ((r = 1 ∧ ¬ x < 48 ∧ ¬ 57 < x) ∨ (r = 0 ∧ ¬ (¬ x < 48 ∧ ¬ 57 < x)))) :=
  t_X12_isDigit d h x _ ⟨fun z => ⟨rfl, Or.inr ⟨rfl, fun y => y.1 z⟩⟩, fun z => ⟨fun y => ⟨rfl, Or.inr ⟨rfl, fun u => u.2 y⟩⟩, fun y => ⟨rfl, Or.inl ⟨rfl, z, y⟩⟩⟩⟩
theorem nu_loop (d : Nat) (h : Hp_) (I : Iv h) : ∀ (q : Nat) (x1 x2 : Int32) (h2 : Hp_), Iv h2 → Fr [1033, 1034] h h2 → h_i h2 1 34 = -1 → pa h ≤ pa h2 → pa h2 ≤ pz h → pz h - pa h2 ≤ q → (pa h < pa h2 ∨ (x2 = 0 ∧ pa h2 < pz h ∧ (¬ h_i h2 225 (h_i h2 1 33).toNatClampNeg < 48 ∧ ¬ 57 < h_i h2 225 (h_i h2 1 33).toNatClampNeg))) →
    AW (m_X12_number (d + 1) 0 0) 0 0 20 [(0, .ref 1), (1, .int x1), (2, .int x2)] [] h2 (kI (fun _ h' => Nu h h')) := by
  have t1 : (1 : Int32).toInt = 1 := rfl
  have z1 : (h_i h 1 32).toInt ≤ 160 := (pz_in I).2
  intro q
  induction q with
  | zero =>
    intro x1 x2 h2 I2 F2 w l1 l2 m c
    have ez : h_i h2 1 32 = h_i h 1 32 := (F2.2 1 32 (by decide +kernel)).1
    have m' : (h_i h 1 32).toInt - (h_i h2 1 33).toInt ≤ 0 := m
    refine t_X12_number_20 d h2 I2.1 x1 x2 _ ⟨fun _ => ⟨I2, F2, l1, l2, fun _ => ?_⟩, fun z => ?_⟩
    · rcases c with c | c
      · exact c
      · have c2 : (h_i h2 1 33).toInt < (h_i h 1 32).toInt := c.2.1
        omega
    · rw [ez] at z
      have z := q_nle z
      omega
  | succ q ih =>
    intro x1 x2 h2 I2 F2 w l1 l2 m c
    have ez : h_i h2 1 32 = h_i h 1 32 := (F2.2 1 32 (by decide +kernel)).1
    have m' : (h_i h 1 32).toInt - (h_i h2 1 33).toInt ≤ (q + 1 : Nat) := m
    have p0 : 0 ≤ (h_i h2 1 33).toInt := (pa_in I2).1
    have l1' : (h_i h 1 33).toInt ≤ (h_i h2 1 33).toInt := l1
    refine t_X12_number_20 d h2 I2.1 x1 x2 _ ⟨fun z => ⟨I2, F2, l1, l2, fun _ => ?_⟩, fun z => ?_⟩
    · rcases c with c | c
      · exact c
      · rw [ez] at z
        have z := q_le.mp z
        have c2 : (h_i h2 1 33).toInt < (h_i h 1 32).toInt := c.2.1
        omega
    · rw [ez] at z
      have z := q_nle z
      have v : vp_in (h_i h2 1 33) 160 := dp_in (lo := 0) (hi := 159) ⟨p0, by show _ ≤ (159 : Int); omega⟩ (by decide) (by decide)
      refine ⟨v, Ci.mono (c_isDigit d h2 _) (fun r h3 k => ?_)⟩
      obtain ⟨e3, k⟩ := k
      subst e3
      refine ⟨I2.1, fun r0 => ⟨I2, F2, l1, l2, fun _ => ?_⟩, fun r1 => ⟨fun n4 => ⟨v, ?_⟩, fun e4 => ?_⟩⟩
      · rcases c with c | c
        · exact c
        · rcases k with k | k
          · rw [r0] at k; exact absurd k.1 (by decide)
          · exact absurd c.2.2 k.2
      · have ex : (h_i h3 1 33 + 1).toInt = (h_i h3 1 33).toInt + 1 := tx_add (by rw [t1]; omega) (by rw [t1]; omega)
        refine ih _ _ _ (i33 I2 ⟨by show (0 : Int) ≤ _; omega, by show _ ≤ (180 : Int); omega⟩) (F2.im (by decide +kernel)) (by rw [f_ne (by decide)]; exact w) ?_ ?_ ?_ (Or.inl ?_)
        · show (h_i h 1 33).toInt ≤ (h_i (h_im h3 1 33 _) 1 33).toInt
          rw [im_at]; omega
        · show (h_i (h_im h3 1 33 _) 1 33).toInt ≤ (h_i h 1 32).toInt
          rw [im_at]; omega
        · show (h_i h 1 32).toInt - (h_i (h_im h3 1 33 _) 1 33).toInt ≤ _
          rw [im_at]; omega
        · show (h_i h 1 33).toInt < (h_i (h_im h3 1 33 _) 1 33).toInt
          rw [im_at]; omega
      · refine Cv.mono (c_bad d I2) (fun h4 k4 => ⟨k4.1.1, k4.1, F2.tr (k4.2.1.more (by decide +kernel)), ?_, ?_, fun y => absurd y k4.2.2⟩)
        · show (h_i h 1 33).toInt ≤ (h_i h4 1 33).toInt
          rw [(k4.2.1.2 1 33 (by decide +kernel)).1]; exact l1'
        · show (h_i h4 1 33).toInt ≤ (h_i h 1 32).toInt
          rw [(k4.2.1.2 1 33 (by decide +kernel)).1]; exact l2
theorem c_number (d : Nat) {h : Hp_} (I : Iv h) (w : h_i h 1 34 = -1) (l : pa h ≤ pz h) : Ci (m_X12_number (d + 1) 0 0) [.ref 1] h (fun _ h' => Nu h h') := by
  have z1 : (h_i h 1 32).toInt ≤ 160 := (pz_in I).2
  have p0 : 0 ≤ (h_i h 1 33).toInt := (pa_in I).1
  refine t_X12_number d h I.1 _ (Ci.mono (c_look d I) (fun r h2 L => ?_))
  obtain ⟨I2, F2, l1, l2, lr⟩ := L
  have l1' : (h_i h 1 33).toInt ≤ (h_i h2 1 33).toInt := l1
  have l2' : (h_i h2 1 33).toInt ≤ (h_i h 1 32).toInt := by
    have l' : (h_i h 1 33).toInt ≤ (h_i h 1 32).toInt := l
    rcases l2 with u | u
    · have u' : (h_i h2 1 33).toInt ≤ (h_i h 1 33).toInt := u
      omega
    · exact u
  have F2' : Fr [1033, 1034] h h2 := F2.more (by decide +kernel)
  have w2 : h_i h2 1 34 = -1 := by rw [(F2.2 1 34 (by decide +kernel)).1]; exact w
  refine ⟨I2.1, Ci.mono (c_isDigit d h2 r) (fun r6 h4 k => ?_)⟩
  obtain ⟨e4, k⟩ := k
  subst e4
  refine ⟨I2.1, fun n0 => ?_, fun _ => ?_⟩
  · rcases k with k | k
    · rcases lr with u | u
      · rw [u.1] at k; exact absurd (by decide) k.2.1
      · refine nu_loop d h I 160 0 0 h4 I2 F2' w2 l1 l2' (by show (h_i h 1 32).toInt - (h_i h4 1 33).toInt ≤ 160; omega) (Or.inr ⟨rfl, u.1, ?_⟩)
        rw [fr_i F2 (a := 225) (by decide +kernel), ← u.2]
        exact k.2
    · exact absurd k.1 n0
  · refine Cv.mono (c_bad d I2) (fun h5 k5 => ⟨k5.1.1, k5.1, F2'.tr (k5.2.1.more (by decide +kernel)), ?_, ?_, fun y => absurd y k5.2.2⟩)
    · show (h_i h 1 33).toInt ≤ (h_i h5 1 33).toInt
      rw [(k5.2.1.2 1 33 (by decide +kernel)).1]; exact l1'
    · show (h_i h5 1 33).toInt ≤ (h_i h 1 32).toInt
      rw [(k5.2.1.2 1 33 (by decide +kernel)).1]; exact l2'
