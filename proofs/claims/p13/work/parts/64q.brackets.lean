/-! a number within bounds; brackets opened and closed -/
def Wi (h : Hp_) (x1 x2 r : Int32) (h' : Hp_) : Prop := Nu h h' ∧ (h_i h' 1 34 = -1 → x1 ≤ r ∧ r ≤ x2)
theorem c_within (d : Nat) {h : Hp_} (I : Iv h) (w : h_i h 1 34 = -1) (l : pa h ≤ pz h) (x1 x2 : Int32) : Ci (m_X12_within (d + 2) 0 0) [.ref 1, .int x1, .int x2] h (fun r h' => Wi h x1 x2 r h') := by
  have p0 : 0 ≤ (h_i h 1 33).toInt := (pa_in I).1
  have t1 : (1 : Int32).toInt = 1 := rfl
  refine t_X12_within d h I.1 x1 x2 _ (Ci.mono (c_number d I w l) (fun r h2 N => ?_))
  have I2 := N.1
  refine ⟨I2.1, fun n => ⟨N, fun y => absurd y n⟩, fun e => ⟨fun b => ⟨N, fun _ => b⟩, fun _ => ?_⟩⟩
  have g : (h_i h 1 33).toInt < (h_i h2 1 33).toInt := N.2.2.2.2 e
  have u : (h_i h2 1 33).toInt ≤ 180 := (pa_in I2).2
  have em : (h_i h2 1 33 - 1).toInt = (h_i h2 1 33).toInt - 1 := by rw [tx_sub (by rw [t1]; omega) (by rw [t1]; omega), t1]
  have ne : ¬ h_i (h_im h2 1 34 (h_i h2 1 33 - 1)) 1 34 = -1 := by
    rw [im_at]
    intro y
    have y := congrArg Int32.toInt y
    rw [em, show (-1 : Int32).toInt = -1 from rfl] at y
    omega
  refine ⟨⟨i34 I2 _, N.2.1.im (by decide +kernel), ?_, ?_, fun y => absurd y ne⟩, fun y => absurd y ne⟩
  · show (h_i h 1 33).toInt ≤ (h_i (h_im h2 1 34 _) 1 33).toInt
    rw [f_ne (by decide)]; exact N.2.2.1
  · show (h_i (h_im h2 1 34 _) 1 33).toInt ≤ (h_i h 1 32).toInt
    rw [f_ne (by decide)]; exact N.2.2.2.1
theorem dp_in7 {h : Hp_} (I : Iv h) : rin (h_i h 1 35).toInt (0, 7) := by
  have := I.2.1 1 35
  rwa [show tf 1 35 = (0, 7) by decide +kernel] at this
theorem i35 {h : Hp_} (I : Iv h) {x : Int32} (b : rin x.toInt (0, 7)) : Iv (h_im h 1 35 x) := I.im (by rw [show tf 1 35 = (0, 7) by decide +kernel]; exact b) (by decide)
/-- a bracket opened: one deeper, one further; or wrong -/
theorem c_opens (d : Nat) {h : Hp_} (I : Iv h) (l : pa h < pz h) (dl : (h_i h 1 35).toInt ≤ 6) : Ci (m_X12_opens (d + 1) 0 0) [.ref 1] h (fun r h' => Iv h' ∧ Fr [1033, 1034, 1035] h h' ∧ ((r = 1 ∧ h_i h' 1 34 = h_i h 1 34 ∧ pa h' = pa h + 1 ∧ (h_i h' 1 35).toInt = (h_i h 1 35).toInt + 1 ∧ (h_i h 1 35).toInt ≤ 5) ∨ (r = 0 ∧ ¬ h_i h' 1 34 = -1 ∧ h_i h' 1 33 = h_i h 1 33 ∧ h_i h' 1 35 = h_i h 1 35))) := by
  have t1 : (1 : Int32).toInt = 1 := rfl
  have t6 : (6 : Int32).toInt = 6 := rfl
  have p0 : 0 ≤ (h_i h 1 33).toInt := (pa_in I).1
  have z1 : (h_i h 1 32).toInt ≤ 160 := (pz_in I).2
  have l' : (h_i h 1 33).toInt < (h_i h 1 32).toInt := l
  have d0 : 0 ≤ (h_i h 1 35).toInt := (dp_in7 I).1
  have e33 : (h_i h 1 33 + 1).toInt = (h_i h 1 33).toInt + 1 := tx_add (by rw [t1]; omega) (by rw [t1]; omega)
  have e35 : (h_i h 1 35 + 1).toInt = (h_i h 1 35).toInt + 1 := tx_add (by rw [t1]; omega) (by rw [t1]; omega)
  refine t_X12_opens d h I.1 _ ⟨fun n => ?_, fun _ => ?_⟩
  · have d5 : (h_i h 1 35).toInt ≤ 5 := by
      rcases Int.lt_or_le (h_i h 1 35).toInt 6 with u | u
      · omega
      · exact absurd (Int32.toInt_inj.mp (by rw [t6]; omega)) n
    refine ⟨i33 (i35 I ⟨by show (0 : Int) ≤ _; omega, by show _ ≤ (7 : Int); omega⟩) ⟨by show (0 : Int) ≤ _; omega, by show _ ≤ (180 : Int); omega⟩, ((Fr.rf _ _).im (by decide +kernel)).im (by decide +kernel), Or.inl ⟨rfl, ?_, ?_, ?_, d5⟩⟩
    · rw [f_ne (by decide), f_ne (by decide)]
    · show (h_i (h_im _ 1 33 _) 1 33).toInt = _
      rw [im_at]; exact e33
    · rw [f_ne (by decide), im_at]; exact e35
  · exact Cv.mono (c_bad d I) (fun h2 k => ⟨k.1.1, k.1, k.2.1.more (by decide +kernel), Or.inr ⟨rfl, k.2.2, (k.2.1.2 1 33 (by decide +kernel)).1, (k.2.1.2 1 35 (by decide +kernel)).1⟩⟩)
/-- a bracket closed: one less deep; the place one further, wherever it was -/
theorem c_closes (d : Nat) {h : Hp_} (I : Iv h) (x : Int32) (l : (h_i h 1 34 = -1 → pa h ≤ pz h) ∧ pa h ≤ 179) (hx : ¬ x = -1) (dl : 1 ≤ (h_i h 1 35).toInt) : Cv (m_X12_closes (d + 1) 0 0) [.ref 1, .int x] h (fun h' => Iv h' ∧ Fr [1033, 1034, 1035] h h' ∧ (h_i h' 1 35).toInt = (h_i h 1 35).toInt - 1 ∧ pa h + 1 ≤ pa h' ∧ (¬ h_i h 1 34 = -1 → h_i h' 1 34 = h_i h 1 34 ∧ pa h' = pa h + 1) ∧ (h_i h 1 34 = -1 → pa h' ≤ pz h + 1 ∧ (h_i h' 1 34 = -1 → pa h' ≤ pz h))) := by
  have t1 : (1 : Int32).toInt = 1 := rfl
  have p0 : 0 ≤ (h_i h 1 33).toInt := (pa_in I).1
  have z1 : (h_i h 1 32).toInt ≤ 160 := (pz_in I).2
  have d7 : (h_i h 1 35).toInt ≤ 7 := (dp_in7 I).2
  have st : ∀ h2, Iv h2 → Fr [1033, 1034, 1035] h h2 → h_i h2 1 35 = h_i h 1 35 → 0 ≤ pa h2 → pa h2 ≤ 179 → Iv (h_im (h_im h2 1 33 ((h_i h2 1 33) + 1)) 1 35 ((h_i h2 1 35) - 1)) ∧ Fr [1033, 1034, 1035] h (h_im (h_im h2 1 33 ((h_i h2 1 33) + 1)) 1 35 ((h_i h2 1 35) - 1)) ∧ (h_i (h_im (h_im h2 1 33 ((h_i h2 1 33) + 1)) 1 35 ((h_i h2 1 35) - 1)) 1 35).toInt = (h_i h 1 35).toInt - 1 ∧ pa (h_im (h_im h2 1 33 ((h_i h2 1 33) + 1)) 1 35 ((h_i h2 1 35) - 1)) = pa h2 + 1 ∧ h_i (h_im (h_im h2 1 33 ((h_i h2 1 33) + 1)) 1 35 ((h_i h2 1 35) - 1)) 1 34 = h_i h2 1 34 := by
    intro h2 I2 F2 e5 a0 a1
    have a0' : 0 ≤ (h_i h2 1 33).toInt := a0
    have a1' : (h_i h2 1 33).toInt ≤ 179 := a1
    have e33 : (h_i h2 1 33 + 1).toInt = (h_i h2 1 33).toInt + 1 := tx_add (by rw [t1]; omega) (by rw [t1]; omega)
    have e35 : (h_i h2 1 35 - 1).toInt = (h_i h 1 35).toInt - 1 := by rw [e5, tx_sub (by rw [t1]; omega) (by rw [t1]; omega), t1]
    refine ⟨i35 (i33 I2 ⟨by show (0 : Int) ≤ _; omega, by show _ ≤ (180 : Int); omega⟩) ⟨by show (0 : Int) ≤ _; omega, by show _ ≤ (7 : Int); omega⟩, (F2.im (by decide +kernel)).im (by decide +kernel), by rw [im_at]; exact e35, ?_, by rw [f_ne (by decide), f_ne (by decide)]⟩
    show (h_i (h_im (h_im h2 1 33 _) 1 35 _) 1 33).toInt = _
    rw [f_ne (by decide), im_at]; exact e33
  refine t_X12_closes d h I.1 x _ ⟨fun n => ?_, fun e => ?_⟩
  · obtain ⟨s1, s2, s3, s4, s5⟩ := st h I (Fr.rf _ _) rfl p0 l.2
    exact ⟨s1, s2, s3, by omega, fun _ => ⟨s5, s4⟩, fun y => absurd y n⟩
  · have lw : (h_i h 1 33).toInt ≤ (h_i h 1 32).toInt := l.1 e
    refine Ci.mono (c_look d I) (fun r h2 L => ?_)
    obtain ⟨I2, F2, l1, l2, lr⟩ := L
    have F2' : Fr [1033, 1034, 1035] h h2 := F2.more (by decide +kernel)
    have e5 : h_i h2 1 35 = h_i h 1 35 := (F2.2 1 35 (by decide +kernel)).1
    have e4 : h_i h2 1 34 = h_i h 1 34 := (F2.2 1 34 (by decide +kernel)).1
    have l1' : (h_i h 1 33).toInt ≤ (h_i h2 1 33).toInt := l1
    have l2' : (h_i h2 1 33).toInt ≤ (h_i h 1 32).toInt := by
      rcases l2 with u | u
      · have u' : (h_i h2 1 33).toInt ≤ (h_i h 1 33).toInt := u
        omega
      · exact u
    refine ⟨I2.1, fun er => ?_, fun _ => ?_⟩
    · have at2 : (h_i h2 1 33).toInt < (h_i h 1 32).toInt := by
        rcases lr with u | u
        · exact absurd (er.symm.trans u.1) hx
        · exact u.1
      obtain ⟨s1, s2, s3, s4, s5⟩ := st h2 I2 F2' e5 (by show 0 ≤ (h_i h2 1 33).toInt; omega) (by show (h_i h2 1 33).toInt ≤ 179; omega)
      refine ⟨s1, s2, s3, ?_, fun y => absurd e y, fun _ => ⟨?_, fun _ => ?_⟩⟩
      · rw [s4]; show (h_i h 1 33).toInt + 1 ≤ (h_i h2 1 33).toInt + 1; omega
      · rw [s4]; show (h_i h2 1 33).toInt + 1 ≤ (h_i h 1 32).toInt + 1; omega
      · rw [s4]; show (h_i h2 1 33).toInt + 1 ≤ (h_i h 1 32).toInt; omega
    · refine Cv.mono (c_bad d I2) (fun h3 k => ?_)
      have f3 : h_i h3 1 33 = h_i h2 1 33 := (k.2.1.2 1 33 (by decide +kernel)).1
      have f5 : h_i h3 1 35 = h_i h 1 35 := (k.2.1.2 1 35 (by decide +kernel)).1.trans e5
      obtain ⟨s1, s2, s3, s4, s5⟩ := st h3 k.1 (F2'.tr (k.2.1.more (by decide +kernel))) f5 (by show 0 ≤ (h_i h3 1 33).toInt; rw [f3]; omega) (by show (h_i h3 1 33).toInt ≤ 179; rw [f3]; omega)
      refine ⟨k.1.1, s1, s2, s3, ?_, fun y => absurd e y, fun _ => ⟨?_, fun y => absurd (s5.symm.trans y) k.2.2⟩⟩
      · rw [s4]; show (h_i h 1 33).toInt + 1 ≤ (h_i h3 1 33).toInt + 1; rw [f3]; omega
      · rw [s4]; show (h_i h3 1 33).toInt + 1 ≤ (h_i h 1 32).toInt + 1; rw [f3]; omega
