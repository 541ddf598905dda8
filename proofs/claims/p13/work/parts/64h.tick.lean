/-! tick of the reference -/
def J2 (h : Hp_) : Prop := ∀ c : Nat, c < 12 → (c : Int) < (h_i h 1 7).toInt → Jm h c
theorem J2_o {c : Nat} {h h' : Hp_} (m : Mo c h h') (J : J2 h) (j : Jm h' c) : J2 h' := fun k hk hm => by
  by_cases e : k = c
  · rw [e]; exact j
  · exact Jm_o m e (J k hk (by rw [← m.2.2.2.1 7 (Or.inr (Or.inl rfl))]; exact hm))
/-- what Jm looks at stays -/
def Jz (h h' : Hp_) : Prop := (∀ a, mrow a = true → ∀ k, h_i h' a k = h_i h a k) ∧ (∀ k, h_i h' 227 k = h_i h 227 k) ∧ (∀ k, h_i h' 228 k = h_i h 228 k) ∧ h_i h' 1 42 = h_i h 1 42
theorem Jm_z {h h' : Hp_} {c : Nat} (e : Jz h h') (J : Jm h c) : Jm h' c := by
  have f := fun (a : Nat) (ha : mrow a = true) => e.1 a ha c
  have ez : nZ h' c = nZ h c := by show (h_i h' 227 (h_i h' 212 c).toNatClampNeg).toNatClampNeg = _; rw [f 212 rfl, e.2.1]
  have es : nS h' c = nS h c := by show (h_i h' 213 c).toNatClampNeg = _; rw [f 213 rfl]
  have eb : nB h' c = nB h c := by show (h_i h' 212 c).toNatClampNeg = _; rw [f 212 rfl]
  have w : h_i h' 228 = h_i h 228 := funext e.2.2.1
  unfold Jm
  rw [ez, es, eb, f 208 rfl, f 210 rfl, f 212 rfl, f 213 rfl, f 216 rfl, w, e.2.2.2]
  exact J
/-- what J2 looks at stays -/
def Js (h h' : Hp_) : Prop := Jz h h' ∧ h_i h' 1 7 = h_i h 1 7
theorem J2_s {h h' : Hp_} (e : Js h h') (J : J2 h) : J2 h' := fun c hc hm => Jm_z e.1 (J c hc (by rw [← e.2]; exact hm))
theorem Jz.im {h : Hp_} {a k : Nat} {x : Int32} (n : (mrow a || Nat.beq a 227 || Nat.beq a 228) = false) (n1 : ¬ (a = 1 ∧ k = 42)) : Jz h (h_im h a k x) := by
  simp only [Bool.or_eq_false_iff] at n
  have b : ∀ {y : Nat}, Nat.beq a y = false → y ≠ a := fun {y} z e => by rw [e, Nat.beq_refl] at z; cases z
  refine ⟨fun r hr j => im_ne (fun e => by rw [e, n.1.1] at hr; cases hr), fun j => im_ne (b n.1.2), fun j => im_ne (b n.2), ?_⟩
  rw [h_i_im, if_neg (fun e => n1 ⟨e.1.symm, e.2.symm⟩)]
theorem Js.im {h : Hp_} {a k : Nat} {x : Int32} (n : (mrow a || Nat.beq a 227 || Nat.beq a 228) = false) (n1 : ¬ (a = 1 ∧ (k = 42 ∨ k = 7))) : Js h (h_im h a k x) := ⟨Jz.im n (fun e => n1 ⟨e.1, Or.inl e.2⟩), by rw [h_i_im, if_neg (fun e => n1 ⟨e.1.symm, Or.inr e.2.symm⟩)]⟩
def tK2 (h0 : Hp_) (F : Int) : Option Value → Hp_ → Prop := kI (fun r h' => Iv h' ∧ J2 h' ∧ Fr wsT h0 h' ∧ r = h_i h' 1 0 ∧ (h_i h' 1 0).toInt = F)
theorem men_in {h : Hp_} (I : Iv h) : rin (h_i h 1 7).toInt (0, 12) := by
  have := I.2.1 1 7
  rwa [show tf 1 7 = (0, 12) by decide +kernel] at this
theorem tw_loop {F : Int} (d : Nat) (h0 : Hp_) (x1 x2 : Int32) (y : Int32) (O : ∀ h, Iv h → J2 h → Fr wsT h0 h → h_i h 1 0 = y → AW (m_X12_tick (d + 10) 0 0) 0 0 27 [(0, .ref 1), (1, .int x1), (2, .int (x2 + 1))] [] h (tK2 h0 F)) :
    ∀ (r : Nat) (x3 : Int32) (h : Hp_), 0 ≤ x3.toInt → 12 - x3.toInt ≤ r → Iv h → J2 h → Fr wsT h0 h → h_i h 1 0 = y → AW (m_X12_tick (d + 10) 0 0) 0 0 82 [(0, .ref 1), (1, .int x1), (2, .int x2), (3, .int x3)] [] h (tK2 h0 F) := by
  have t1 : (1 : Int32).toInt = 1 := rfl
  intro r
  induction r with
  | zero =>
    intro x3 h p3 m3 I J S ey
    have e7 : (h_i h 1 7).toInt ≤ 12 := (men_in I).2
    refine t_X12_tick_82 d h I.1 x1 x2 x3 _ ⟨fun _ => O h I J S ey, fun z => ?_⟩
    have z := q_nle z
    omega
  | succ r ih =>
    intro x3 h p3 m3 I J S ey
    have e7 : (h_i h 1 7).toInt ≤ 12 := (men_in I).2
    refine t_X12_tick_82 d h I.1 x1 x2 x3 _ ⟨fun _ => O h I J S ey, fun z => ?_⟩
    have z := q_nle z
    have b3 : rin x3.toInt (0, 11) := ⟨p3, by show _ ≤ (11 : Int); omega⟩
    have n3 := n_nat (x := x3) p3
    have ex : (x3 + 1).toInt = x3.toInt + 1 := tx_add (by rw [t1]; omega) (by rw [t1]; omega)
    exact Cv.mono (c_wake d I x3 b3 (J _ (by omega) (by omega))) (fun h' q => ⟨q.1.1, ih (x3 + 1) h' (by omega) (by omega) q.1 (J2_o q.2.1 J q.2.2) (S.tr q.2.1.sr.st) (by rw [q.2.1.2.2.2.1 0 (Or.inl rfl)]; exact ey)⟩)
theorem i220 {h : Hp_} (I : Iv h) (k : Nat) (x : Int32) : Iv (h_im h 220 k (vp_nar .byte x.toInt8.toInt32)) := I.im (by rw [tfa_tf (show tfa 220 = some (-128, 127) by decide +kernel)]; exact ok_b _ rtop (rtop_in _)) (jw_jr (by decide) (by decide) _)
theorem th_loop {F : Int} (d : Nat) (h0 : Hp_) (x1 x2 : Int32) (y : Int32) (hy : rin y.toInt (0, 19999)) (O : ∀ h, Iv h → J2 h → Fr wsT h0 h → h_i h 1 0 = y + 1 → AW (m_X12_tick (d + 10) 0 0) 0 0 27 [(0, .ref 1), (1, .int x1), (2, .int (x2 + 1))] [] h (tK2 h0 F)) :
    ∀ (r : Nat) (x3 : Int32) (h : Hp_), 0 ≤ x3.toInt → 12 - x3.toInt ≤ r → Iv h → J2 h → Fr wsT h0 h → h_i h 1 0 = y → AW (m_X12_tick (d + 10) 0 0) 0 0 34 [(0, .ref 1), (1, .int x1), (2, .int x2), (3, .int x3)] [] h (tK2 h0 F) := by
  have t1 : (1 : Int32).toInt = 1 := rfl
  have tb : (20001 : Int32).toInt = 20001 := rfl
  have y0 : 0 ≤ y.toInt := hy.1
  have y1 : y.toInt ≤ 19999 := hy.2
  have ey1 : (y + 1).toInt = y.toInt + 1 := tx_add (by rw [t1]; omega) (by rw [t1]; omega)
  have fin : ∀ h, Iv h → J2 h → Fr wsT h0 h → h_i h 1 0 = y → AW (m_X12_tick (d + 10) 0 0) 0 0 82 [(0, .ref 1), (1, .int x1), (2, .int x2), (3, .int 0)] [] (h_im h 1 0 ((h_i h 1 0) + 1)) (tK2 h0 F) := by
    intro h I J S ey
    rw [ey]
    have I2 : Iv (h_im h 1 0 (y + 1)) := I.im (by rw [show tf 1 0 = (0, 20000) by decide +kernel]; exact ⟨by show (0 : Int) ≤ _; omega, by show _ ≤ (20000 : Int); omega⟩) (by decide)
    exact tw_loop d h0 x1 x2 (y + 1) O 12 0 _ (by decide) (by decide) I2 (J2_s (Js.im (by decide) (fun z => absurd z.2 (by decide))) J) (S.im (by decide +kernel)) im_at
  intro r
  induction r with
  | zero =>
    intro x3 h p3 m3 I J S ey
    have e7 : (h_i h 1 7).toInt ≤ 12 := (men_in I).2
    refine t_X12_tick_34 d h I.1 x1 x2 x3 _ ⟨fun _ => fin h I J S ey, fun z => ?_⟩
    have z := q_nle z
    omega
  | succ r ih =>
    intro x3 h p3 m3 I J S ey
    have e7 : (h_i h 1 7).toInt ≤ 12 := (men_in I).2
    refine t_X12_tick_34 d h I.1 x1 x2 x3 _ ⟨fun _ => fin h I J S ey, fun z => ?_⟩
    have z := q_nle z
    have ex : (x3 + 1).toInt = x3.toInt + 1 := tx_add (by rw [t1]; omega) (by rw [t1]; omega)
    have m1 : (20001 * x3).toInt = 20001 * x3.toInt := by rw [tx_mul (by rw [tb]; omega) (by rw [tb]; omega), tb]
    have m2 : (20001 * x3 + h_i h 1 0).toInt = 20001 * x3.toInt + y.toInt := by rw [ey, tx_add (by omega) (by omega), m1]
    refine ⟨dp_in (lo := 0) (hi := 11) ⟨p3, by show _ ≤ (11 : Int); omega⟩ (by decide) (by decide), dp_in (lo := 0) (hi := 240011) ⟨by show (0 : Int) ≤ _; omega, by show _ ≤ (240011 : Int); omega⟩ (by decide) (by decide), ?_⟩
    exact ih (x3 + 1) _ (by omega) (by omega) (i220 I _ _) (J2_s (Js.im (by decide) (fun z => absurd z.1 (by decide))) J) (S.im (inw_row (by decide +kernel) _)) (by rw [im_ne (by decide)]; exact ey)
theorem to_loop {F : Int} (d : Nat) (h0 : Hp_) (x1 : Int32) (b1 : rin x1.toInt (0, 1500)) : ∀ (r : Nat) (x2 y : Int32) (h : Hp_), 0 ≤ x2.toInt → x1.toInt - x2.toInt ≤ r → 0 ≤ y.toInt → (y.toInt + (x1.toInt - x2.toInt) ≤ 20000 ∧ x2.toInt ≤ x1.toInt ∧ y.toInt + (x1.toInt - x2.toInt) = F) → Iv h → J2 h → Fr wsT h0 h → h_i h 1 0 = y → AW (m_X12_tick (d + 10) 0 0) 0 0 27 [(0, .ref 1), (1, .int x1), (2, .int x2)] [] h (tK2 h0 F) := by
  have t1 : (1 : Int32).toInt = 1 := rfl
  have c0 : 0 ≤ x1.toInt := b1.1
  have c1 : x1.toInt ≤ 1500 := b1.2
  intro r
  induction r with
  | zero =>
    intro x2 y h p2 m2 py my I J S ey
    refine t_X12_tick_27 d h I.1 x1 x2 _ ⟨fun zz => ⟨I, J, S, rfl, by rw [ey]; have := q_le.mp zz; omega⟩, fun z => ?_⟩
    have z := q_nle z
    omega
  | succ r ih =>
    intro x2 y h p2 m2 py my I J S ey
    refine t_X12_tick_27 d h I.1 x1 x2 _ ⟨fun zz => ⟨I, J, S, rfl, by rw [ey]; have := q_le.mp zz; omega⟩, fun z => ?_⟩
    have z := q_nle z
    have ex : (x2 + 1).toInt = x2.toInt + 1 := tx_add (by rw [t1]; omega) (by rw [t1]; omega)
    have ey1 : (y + 1).toInt = y.toInt + 1 := tx_add (by rw [t1]; omega) (by rw [t1]; omega)
    exact th_loop d h0 x1 x2 y ⟨py, by show _ ≤ (19999 : Int); omega⟩ (fun h' I' J' e' => ih (x2 + 1) (y + 1) h' (by omega) (by omega) (by omega) (by omega) I' J' e') 12 0 h (by decide) (by decide) I J S ey
theorem c_tickM (d : Nat) {h : Hp_} (I : Iv h) (J : J2 h) (x1 : Int32) : Ci (m_X12_tick (d + 10) 0 0) [.ref 1, .int x1] h (fun r h' => Iv h' ∧ J2 h' ∧ Fr wsT h h' ∧ otk (h_i h 1 0) x1 r (h_i h' 1 0)) := by
  have nr := I.2.1 1 0
  rw [show tf 1 0 = (0, 20000) by decide +kernel] at nr
  have n0 : 0 ≤ (h_i h 1 0).toInt := nr.1
  have n1 : (h_i h 1 0).toInt ≤ 20000 := nr.2
  have t0 : (0 : Int32).toInt = 0 := rfl
  have t15 : (1500 : Int32).toInt = 1500 := rfl
  have t20 : (20000 : Int32).toInt = 20000 := rfl
  refine t_X12_tick d h I.1 x1 _ ⟨fun n => ⟨I, J, Fr.rf _ _, Or.inr ⟨fun o => n o.1, rfl, rfl⟩⟩, fun z => ⟨fun y => ?_, fun n => ⟨I, J, Fr.rf _ _, Or.inr ⟨fun o => n (q_le.mpr (by have z1 := q_le.mp z.1; have z2 := q_le.mp z.2; have := o.2; rw [tx_add (by omega) (by omega)]; omega)), rfl, rfl⟩⟩⟩⟩
  have z1 := q_le.mp z.1
  have z2 := q_le.mp z.2
  have y := q_le.mp y
  have es : (h_i h 1 0 + x1).toInt = (h_i h 1 0).toInt + x1.toInt := tx_add (by omega) (by omega)
  refine AW.mono (to_loop (F := (h_i h 1 0).toInt + x1.toInt) d h x1 ⟨by show (0 : Int) ≤ _; omega, by show _ ≤ (1500 : Int); omega⟩ 1500 0 (h_i h 1 0) h (by decide) (by rw [t0]; omega) n0 (by rw [t0]; omega) I J (Fr.rf _ _) rfl) (fun v h' q => ?_)
  obtain ⟨r, ev, q1, q2, q3, q4, q5⟩ := q
  exact ⟨r, ev, q1, q2, q3, Or.inl ⟨⟨z, by omega⟩, q4, q5⟩⟩
