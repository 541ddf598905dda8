/-! draw, ill and constable of the reference -/
theorem dr_loop (d : Nat) (h0 : Hp_) (x1 x2 : Int32) (b1 : rin x1.toInt (0, 11)) : ∀ (r : Nat) (h : Hp_), Iv h → Mo x1.toNatClampNeg h0 h → h_i h 208 x1.toNatClampNeg = h_i h0 208 x1.toNatClampNeg ∧ h_i h 210 x1.toNatClampNeg = h_i h0 210 x1.toNatClampNeg → 400 - (h_i h 216 x1.toNatClampNeg).toInt ≤ r →
    AW (m_X12_drop (d + 1) 0 0) 0 0 0 [(0, .ref 1), (1, .int x1), (2, .int x2)] [] h (kV (fun h' => Iv h' ∧ Mo x1.toNatClampNeg h0 h' ∧ h_i h' 208 x1.toNatClampNeg = h_i h0 208 x1.toNatClampNeg ∧ h_i h' 210 x1.toNatClampNeg = h_i h0 210 x1.toNatClampNeg)) := by
  have v1 := dp_in b1 (n := 12) (by decide) (by decide)
  have t1 : (1 : Int32).toInt = 1 := rfl
  intro r
  induction r with
  | zero =>
    intro h I M e m
    have e7 : (h_i h 217 x1.toNatClampNeg).toInt ≤ 400 := (dp_rg I 217 x1.toNatClampNeg (show tfa 217 = some (0, 400) by decide +kernel)).2
    refine t_X12_drop_0 d h I.1 x1 x2 _ ⟨v1, v1, fun _ => ⟨v1, i213 I _ m1_st, M.im (by decide) (fun _ => rfl), by rw [im_ne (by decide)]; exact e.1, by rw [im_ne (by decide)]; exact e.2⟩, fun z => ?_⟩
    have z := q_nle z
    omega
  | succ r ih =>
    intro h I M e m
    have e7 : (h_i h 217 x1.toNatClampNeg).toInt ≤ 400 := (dp_rg I 217 x1.toNatClampNeg (show tfa 217 = some (0, 400) by decide +kernel)).2
    have r0 : 0 ≤ (h_i h 216 x1.toNatClampNeg).toInt := (rw_in I _).1
    refine t_X12_drop_0 d h I.1 x1 x2 _ ⟨v1, v1, fun _ => ⟨v1, i213 I _ m1_st, M.im (by decide) (fun _ => rfl), by rw [im_ne (by decide)]; exact e.1, by rw [im_ne (by decide)]; exact e.2⟩, fun z => ?_⟩
    have z := q_nle z
    have vr : vp_in (h_i h 216 x1.toNatClampNeg) 400 := dp_in (lo := 0) (hi := 399) ⟨r0, by show _ ≤ (399 : Int); omega⟩ (by decide) (by decide)
    have go : ∀ h2, Iv h2 → Mo x1.toNatClampNeg h0 h2 → h_i h2 208 x1.toNatClampNeg = h_i h0 208 x1.toNatClampNeg ∧ h_i h2 210 x1.toNatClampNeg = h_i h0 210 x1.toNatClampNeg → h_i h2 216 x1.toNatClampNeg = h_i h 216 x1.toNatClampNeg → AW (m_X12_drop (d + 1) 0 0) 0 0 0 [(0, .ref 1), (1, .int x1), (2, .int x2)] [] (h_im h2 216 x1.toNatClampNeg ((h_i h2 216 x1.toNatClampNeg) + 1)) (kV (fun h' => Iv h' ∧ Mo x1.toNatClampNeg h0 h' ∧ h_i h' 208 x1.toNatClampNeg = h_i h0 208 x1.toNatClampNeg ∧ h_i h' 210 x1.toNatClampNeg = h_i h0 210 x1.toNatClampNeg)) := by
      intro h2 I2 M2 e2 e6
      have ex : (h_i h2 216 x1.toNatClampNeg + 1).toInt = (h_i h 216 x1.toNatClampNeg).toInt + 1 := by rw [e6, tx_add (by rw [t1]; omega) (by rw [t1]; omega), t1]
      exact ih _ (i216 I2 _ ⟨by show (0 : Int) ≤ _; omega, by show _ ≤ (400 : Int); omega⟩) (M2.im (by decide) (fun _ => rfl)) ⟨by rw [im_ne (by decide)]; exact e2.1, by rw [im_ne (by decide)]; exact e2.2⟩ (by rw [im_at]; omega)
    refine ⟨v1, vr, fun _ => ⟨v1, v1, go h I M e rfl⟩, fun _ => ⟨v1, vr, fun _ => ⟨v1, v1, go h I M e rfl⟩, fun _ => ⟨v1, ?_⟩⟩⟩
    refine Cv.mono (c_miss d I x1.toNatClampNeg _ x2 ⟨r0, by show _ ≤ (399 : Int); omega⟩) (fun h2 q => ⟨q.1.1, v1, v1, go h2 q.1 (M.tr q.2.1) ⟨by rw [q.2.2.1.1]; exact e.1, by rw [q.2.2.2]; exact e.2⟩ q.2.2.1.2.2.2⟩)
theorem c_drop (d : Nat) {h : Hp_} (I : Iv h) (x1 x2 : Int32) (b1 : rin x1.toInt (0, 11)) : Cv (m_X12_drop (d + 1) 0 0) [.ref 1, .int x1, .int x2] h (fun h' => Iv h' ∧ Mo x1.toNatClampNeg h h' ∧ h_i h' 208 x1.toNatClampNeg = h_i h 208 x1.toNatClampNeg ∧ h_i h' 210 x1.toNatClampNeg = h_i h 210 x1.toNatClampNeg) := by
  refine Ct.of (fun _ _ _ => trivial) rfl (Nat.le_of_ble_eq_true rfl) ?_
  have r0 : 0 ≤ (h_i h 216 x1.toNatClampNeg).toInt := (rw_in I _).1
  exact dr_loop d h x1 x2 b1 400 h I (Mo.rf _ _) ⟨rfl, rfl⟩ (by omega)
theorem man_ix {h : Hp_} (I : Iv h) {x1 : Int32} (z : 0 ≤ x1 ∧ x1 ≤ (h_i h 1 7) - 1) : rin x1.toInt (0, 11) ∧ x1.toNatClampNeg < 12 ∧ (x1.toNatClampNeg : Int) < (h_i h 1 7).toInt := by
  have t0 : (0 : Int32).toInt = 0 := rfl
  have t1 : (1 : Int32).toInt = 1 := rfl
  have m0 : 0 ≤ (h_i h 1 7).toInt := (men_in I).1
  have m1 : (h_i h 1 7).toInt ≤ 12 := (men_in I).2
  have e7 : (h_i h 1 7 - 1).toInt = (h_i h 1 7).toInt - 1 := by rw [tx_sub (by rw [t1]; omega) (by rw [t1]; omega), t1]
  have z1 := q_le.mp z.1
  have z2 := q_le.mp z.2
  have n1 := n_nat (x := x1) (by omega)
  exact ⟨⟨by show (0 : Int) ≤ _; omega, by show _ ≤ (11 : Int); omega⟩, by omega, by omega⟩
theorem c_ill (d : Nat) {h : Hp_} (I : Iv h) (J : J2 h) (x1 x2 : Int32) : Ci (m_X12_ill (d + 2) 0 0) [.ref 1, .int x1, .int x2] h (fun _ h' => Iv h' ∧ J2 h' ∧ Sr h h') := by
  refine t_X12_ill d h I.1 x1 x2 _ ⟨fun _ => ⟨I, J, Sr.rf _⟩, fun z => ?_⟩
  obtain ⟨b1, _⟩ := man_ix I z
  have v1 := dp_in b1 (n := 12) (by decide) (by decide)
  have st : ∀ h2, Iv h2 → Mo x1.toNatClampNeg h h2 → Iv (h_im (h_im (h_im (h_im (h_im h2 208 x1.toNatClampNeg 4) 209 x1.toNatClampNeg (h_i h2 206 x1.toNatClampNeg)) 210 x1.toNatClampNeg (-1)) 211 x1.toNatClampNeg (-1)) 213 x1.toNatClampNeg (-1)) ∧ J2 (h_im (h_im (h_im (h_im (h_im h2 208 x1.toNatClampNeg 4) 209 x1.toNatClampNeg (h_i h2 206 x1.toNatClampNeg)) 210 x1.toNatClampNeg (-1)) 211 x1.toNatClampNeg (-1)) 213 x1.toNatClampNeg (-1)) ∧ Sr h (h_im (h_im (h_im (h_im (h_im h2 208 x1.toNatClampNeg 4) 209 x1.toNatClampNeg (h_i h2 206 x1.toNatClampNeg)) 210 x1.toNatClampNeg (-1)) 211 x1.toNatClampNeg (-1)) 213 x1.toNatClampNeg (-1)) := by
    intro h2 I2 M2
    have e8 : h_i (h_im (h_im (h_im (h_im (h_im h2 208 x1.toNatClampNeg 4) 209 x1.toNatClampNeg (h_i h2 206 x1.toNatClampNeg)) 210 x1.toNatClampNeg (-1)) 211 x1.toNatClampNeg (-1)) 213 x1.toNatClampNeg (-1)) 208 x1.toNatClampNeg = 4 := by rw [im_ne (by decide), im_ne (by decide), im_ne (by decide), im_ne (by decide), im_at]
    have M5 : Mo x1.toNatClampNeg h (h_im (h_im (h_im (h_im (h_im h2 208 x1.toNatClampNeg 4) 209 x1.toNatClampNeg (h_i h2 206 x1.toNatClampNeg)) 210 x1.toNatClampNeg (-1)) 211 x1.toNatClampNeg (-1)) 213 x1.toNatClampNeg (-1)) := ((((M2.im (by decide) (fun _ => rfl)).im (by decide) (fun y => absurd y (by decide))).im (by decide) (fun _ => rfl)).im (by decide) (fun y => absurd y (by decide))).im (by decide) (fun _ => rfl)
    exact ⟨i213 (i211 (i210 (i209 (i208 I2 _ _) _ (b15 (home_in I2 _))) _ m1_in) _ _) _ m1_st, J2_o M5 J (Jd.jm ⟨by rw [e8]; decide, fun y => by rw [e8] at y; exact absurd y (by decide)⟩), M5.sr⟩
  have fr : Cv (m_X12_free (d + 0) 0 0) [.ref 1, .int x1] h (fun h' => Wf h' ∧ (Iv h' ∧ J2 h' ∧ Sr h h')) := Cv.mono (c_free d I x1 b1) (fun h' q => ⟨q.1.1, q.1, J2_o q.2.1 J (Jd.jm ⟨by rw [q.2.2.1]; decide, fun _ => q.2.2.2⟩), q.2.1.sr⟩)
  have dp : Cv (m_X12_drop (d + 1) 0 0) [.ref 1, .int x1, .int 4] h (fun h16 => Wf h16 ∧ (vp_in x1 12 ∧ (vp_in x1 12 ∧ (vp_in x1 12 ∧ (vp_in x1 12 ∧ (vp_in x1 12 ∧ (vp_in x1 12 ∧ (Iv (h_im (h_im (h_im (h_im (h_im h16 208 x1.toNatClampNeg 4) 209 x1.toNatClampNeg (h_i h16 206 x1.toNatClampNeg)) 210 x1.toNatClampNeg (-1)) 211 x1.toNatClampNeg (-1)) 213 x1.toNatClampNeg (-1)) ∧ J2 (h_im (h_im (h_im (h_im (h_im h16 208 x1.toNatClampNeg 4) 209 x1.toNatClampNeg (h_i h16 206 x1.toNatClampNeg)) 210 x1.toNatClampNeg (-1)) 211 x1.toNatClampNeg (-1)) 213 x1.toNatClampNeg (-1)) ∧ Sr h (h_im (h_im (h_im (h_im (h_im h16 208 x1.toNatClampNeg 4) 209 x1.toNatClampNeg (h_i h16 206 x1.toNatClampNeg)) 210 x1.toNatClampNeg (-1)) 211 x1.toNatClampNeg (-1)) 213 x1.toNatClampNeg (-1)))))))))) := Cv.mono (c_drop d I x1 4 b1) (fun h' q => ⟨q.1.1, v1, v1, v1, v1, v1, v1, st h' q.1 q.2.1⟩)
  exact ⟨v1, fun _ => ⟨fun _ => ⟨fun _ => ⟨v1, fun _ => ⟨v1, v1, v1, v1, v1, v1, st h I (Mo.rf _ _)⟩, fun _ => dp⟩, fun _ => fr⟩, fun _ => ⟨I, J, Sr.rf _⟩⟩, fun _ => ⟨fun _ => ⟨fun _ => ⟨v1, fun _ => ⟨v1, v1, v1, v1, v1, v1, st h I (Mo.rf _ _)⟩, fun _ => dp⟩, fun _ => fr⟩, fun _ => ⟨I, J, Sr.rf _⟩⟩⟩
theorem i248b {h : Hp_} (I : Iv h) (k : Nat) {x : Int32} (b : rin x.toInt (0, 1)) : Iv (h_im h 248 k x) := I.im (by rw [tfa_tf (show tfa 248 = some (0, 1) by decide +kernel)]; exact b) (jw_jr (by decide) (by decide) _)
theorem i218 {h : Hp_} (I : Iv h) (k : Nat) {x : Int32} (b : rin x.toInt (0, 15)) : Iv (h_im h 218 k x) := I.im (by rw [tfa_tf (show tfa 218 = some (0, 15) by decide +kernel)]; exact b) (jw_jr (by decide) (by decide) _)
theorem c_draw (d : Nat) {h : Hp_} (I : Iv h) (J : J2 h) (x1 x2 x3 : Int32) : Ci (m_X12_draw (d + 5) 0 0) [.ref 1, .int x1, .int x2, .int x3] h (fun _ h' => Iv h' ∧ J2 h' ∧ Sr h h') := by
  refine t_X12_draw d h I.1 x1 x2 x3 _ ⟨fun _ => ⟨I, J, Sr.rf _⟩, fun z => ⟨fun _ => ⟨I, J, Sr.rf _⟩, fun y => ⟨fun _ => ⟨I, J, Sr.rf _⟩, fun _ => ?_⟩⟩⟩
  obtain ⟨b1, _⟩ := man_ix I z
  have v1 := dp_in b1 (n := 12) (by decide) (by decide)
  have b2 : rin x2.toInt (0, 15) := by
    have y1 := q_le.mp y.1
    have y2 := q_le.mp y.2
    exact ⟨y1, y2⟩
  have st : ∀ (h2 : Hp_) (x : Int32), Iv h2 → Mo x1.toNatClampNeg h h2 → rin x.toInt (0, 1) → Iv (h_im (h_im (h_im (h_im (h_im h2 213 x1.toNatClampNeg (-1)) 208 x1.toNatClampNeg 3) 218 x1.toNatClampNeg x2) 219 x1.toNatClampNeg x3) 248 x1.toNatClampNeg x) ∧ Mo x1.toNatClampNeg h (h_im (h_im (h_im (h_im (h_im h2 213 x1.toNatClampNeg (-1)) 208 x1.toNatClampNeg 3) 218 x1.toNatClampNeg x2) 219 x1.toNatClampNeg x3) 248 x1.toNatClampNeg x) ∧ h_i (h_im (h_im (h_im (h_im (h_im h2 213 x1.toNatClampNeg (-1)) 208 x1.toNatClampNeg 3) 218 x1.toNatClampNeg x2) 219 x1.toNatClampNeg x3) 248 x1.toNatClampNeg x) 208 x1.toNatClampNeg = 3 := by
    intro h2 x I2 M2 bx
    exact ⟨i248b (i2xx 219 (by decide +kernel) (by decide) (by decide) (i218 (i208 (i213 I2 _ m1_st) _ _) _ b2) _ _) _ bx, ((((M2.im (by decide) (fun _ => rfl)).im (by decide) (fun _ => rfl)).im (by decide) (fun y => absurd y (by decide))).im (by decide) (fun y => absurd y (by decide))).im (by decide) (fun y => absurd y (by decide)), by rw [im_ne (by decide), im_ne (by decide), im_ne (by decide), im_at]⟩
  have k0 : rin (vp_nar .boolean 0).toInt (0, 1) := ⟨by decide, by decide⟩
  have k1 : rin (vp_nar .boolean 1).toInt (0, 1) := ⟨by decide, by decide⟩
  have fin : ∀ (h2 : Hp_) (x : Int32), Iv h2 → Mo x1.toNatClampNeg h h2 → rin x.toInt (0, 1) → (Iv (h_im (h_im (h_im (h_im (h_im h2 213 x1.toNatClampNeg (-1)) 208 x1.toNatClampNeg 3) 218 x1.toNatClampNeg x2) 219 x1.toNatClampNeg x3) 248 x1.toNatClampNeg x) ∧ J2 (h_im (h_im (h_im (h_im (h_im h2 213 x1.toNatClampNeg (-1)) 208 x1.toNatClampNeg 3) 218 x1.toNatClampNeg x2) 219 x1.toNatClampNeg x3) 248 x1.toNatClampNeg x) ∧ Sr h (h_im (h_im (h_im (h_im (h_im h2 213 x1.toNatClampNeg (-1)) 208 x1.toNatClampNeg 3) 218 x1.toNatClampNeg x2) 219 x1.toNatClampNeg x3) 248 x1.toNatClampNeg x)) ∧ Cv (m_X12_goDrawn (d + 4) 0 0) [.ref 1, .int x1] (h_im (h_im (h_im (h_im (h_im h2 213 x1.toNatClampNeg (-1)) 208 x1.toNatClampNeg 3) 218 x1.toNatClampNeg x2) 219 x1.toNatClampNeg x3) 248 x1.toNatClampNeg x) (fun h' => Wf h' ∧ (Iv h' ∧ J2 h' ∧ Sr h h')) := by
    intro h2 x I2 M2 bx
    obtain ⟨I3, M3, e3⟩ := st h2 x I2 M2 bx
    exact ⟨⟨I3, J2_o M3 J (Jd.jm ⟨by rw [e3]; decide, fun y => by rw [e3] at y; exact absurd y (by decide)⟩), M3.sr⟩, Cv.mono (c_goDrawn d I3 x1 b1 (by rw [e3]; exact ⟨by decide, by decide⟩)) (fun h' q => ⟨q.1.1, q.1, J2_o (M3.tr q.2.1) J q.2.2.jm, (M3.tr q.2.1).sr⟩)⟩
  refine ⟨v1, Ci.mono (c_walkOf d I _ x2 b2) (fun r h2 q => ?_)⟩
  obtain ⟨I2, F2, _⟩ := q
  have M2 : Mo x1.toNatClampNeg h h2 := Mo.fr F2 (by decide +kernel)
  have S2 : So x1.toNatClampNeg h h2 := So.fr F2 (by decide +kernel)
  have J2' : J2 h2 := J2_o M2 J (by
    by_cases e : x1.toNatClampNeg < 12
    · exact Jm_s M2 S2 (fr_i F2 (a := 210) (by decide +kernel) _) (J _ e (man_ix I z).2.2)
    · exact absurd (man_ix I z).2.1 e)
  refine ⟨I2.1, fun _ => ⟨I2, J2', M2.sr⟩, fun _ => ⟨v1, fun _ => ⟨I2, J2', M2.sr⟩, fun _ => ⟨v1, fun _ => ⟨v1, fun _ => ⟨v1, v1, v1, v1, v1, fun _ => ⟨v1, v1, fun _ => (fin h2 _ I2 M2 k0).1, fun _ => (fin h2 _ I2 M2 k0).2⟩, fun _ => ⟨v1, v1, fun _ => (fin h2 _ I2 M2 k1).1, fun _ => (fin h2 _ I2 M2 k1).2⟩⟩, fun _ => ?_⟩, fun _ => ⟨I2, J2', M2.sr⟩⟩⟩⟩
  refine Cv.mono (c_drop d I2 x1 3 b1) (fun h3 q => ?_)
  have M3 := M2.tr q.2.1
  exact ⟨q.1.1, v1, v1, v1, v1, v1, fun _ => ⟨v1, v1, fun _ => (fin h3 _ q.1 M3 k0).1, fun _ => (fin h3 _ q.1 M3 k0).2⟩, fun _ => ⟨v1, v1, fun _ => (fin h3 _ q.1 M3 k1).1, fun _ => (fin h3 _ q.1 M3 k1).2⟩⟩
