/-! constable of the reference; what every other call leaves of the men -/
def okm (m x1 x2 x3 : Int32) : Prop := (1 ≤ x1 ∧ x1 ≤ 4) ∧ (0 ≤ x2 ∧ x2 ≤ 40) ∧ (0 ≤ x3 ∧ x3 ≤ 15) ∧ ¬ m = 12
def ocm (m x1 x2 x3 r m' : Int32) : Prop := (okm m x1 x2 x3 ∧ r = m ∧ m' = m + 1) ∨ (¬ okm m x1 x2 x3 ∧ r = -1 ∧ m' = m)
def Cw (ok : Prop) (m x1 : Int32) (h h' : Hp_) : Prop := (ok → h_i h' 204 m.toNatClampNeg = x1) ∧ ∀ k, (k ≠ m.toNatClampNeg ∨ ¬ ok) → h_i h' 204 k = h_i h 204 k
theorem tx_back (x : Int32) : x + 1 - 1 = x := Int32.add_sub_cancel x 1
theorem c_conM (d : Nat) {h : Hp_} (I : Iv h) (J : J2 h) (x1 x2 x3 : Int32) : Ci (m_X12_constable (d + 2) 0 0) [.ref 1, .int x1, .int x2, .int x3] h (fun r h' => Iv h' ∧ J2 h' ∧ Sn h h' ∧ ocm (h_i h 1 7) x1 x2 x3 r (h_i h' 1 7) ∧ Cw (okm (h_i h 1 7) x1 x2 x3) (h_i h 1 7) x1 h h') := by
  have t0 : (0 : Int32).toInt = 0 := rfl
  have t1 : (1 : Int32).toInt = 1 := rfl
  have t12 : (12 : Int32).toInt = 12 := rfl
  have m0 : 0 ≤ (h_i h 1 7).toInt := (men_in I).1
  have m1 : (h_i h 1 7).toInt ≤ 12 := (men_in I).2
  refine t_X12_constable d h I.1 x1 x2 x3 _ ⟨fun n => ⟨I, J, Fr.rf _ _, Or.inr ⟨fun o => n o.1, rfl, rfl⟩, fun o => absurd o.1 n, fun _ _ => rfl⟩, fun a1 => ⟨fun n => ⟨I, J, Fr.rf _ _, Or.inr ⟨fun o => n o.2.1, rfl, rfl⟩, fun o => absurd o.2.1 n, fun _ _ => rfl⟩, fun a2 => ⟨fun n => ⟨I, J, Fr.rf _ _, Or.inr ⟨fun o => n o.2.2.1, rfl, rfl⟩, fun o => absurd o.2.2.1 n, fun _ _ => rfl⟩, fun y => ⟨fun z => ?_, fun n => ⟨I, J, Fr.rf _ _, Or.inr ⟨fun o => o.2.2.2 n, rfl, rfl⟩, fun o => absurd n o.2.2.2, fun _ _ => rfl⟩⟩⟩⟩⟩
  have ok : okm (h_i h 1 7) x1 x2 x3 := ⟨a1, a2, y, z⟩
  have y1 := q_le.mp y.1
  have y2 := q_le.mp y.2
  have b3 : rin x3.toInt (0, 15) := ⟨y1, y2⟩
  have lt : (h_i h 1 7).toInt ≤ 11 := by
    rcases Int.lt_or_le (h_i h 1 7).toInt 12 with u | u
    · omega
    · exact absurd (Int32.toInt_inj.mp (by rw [t12]; omega)) z
  have v : vp_in (h_i h 1 7) 12 := dp_in (lo := 0) (hi := 11) ⟨m0, lt⟩ (by decide) (by decide)
  have e7 : (h_i h 1 7 + 1).toInt = (h_i h 1 7).toInt + 1 := tx_add (by rw [t1]; omega) (by rw [t1]; omega)
  refine ⟨v, v, v, v, v, v, v, v, v, v, v, v, ?_⟩
  have nr := I.2.1 1 0
  rw [show tf 1 0 = (0, 20000) by decide +kernel] at nr
  have nc := n_nat m0
  generalize ecc : (h_i h 1 7).toNatClampNeg = c at nc ⊢
  have z4 : rin (0 : Int32).toInt (0, 400) := ⟨by decide, by decide⟩
  have IA := i2xx 205 (by decide +kernel) (by decide) (by decide) (i2xx 204 (by decide +kernel) (by decide) (by decide) I c x1) c x2
  have FB : Fr wsN h (h_im (h_im (h_im (h_im h 204 c x1) 205 c x2) 206 c x3) 207 c (h_i h 1 0)) := ((((Fr.rf _ _).im (inw_row (by decide +kernel) _)).im (inw_row (by decide +kernel) _)).im (inw_row (by decide +kernel) _)).im (inw_row (by decide +kernel) _)
  have JB : J2 (h_im (h_im (h_im (h_im h 204 c x1) 205 c x2) 206 c x3) 207 c (h_i h 1 0)) := J2_s (Js.im (by decide) (fun z => absurd z.1 (by decide))) (J2_s (Js.im (by decide) (fun z => absurd z.1 (by decide))) (J2_s (Js.im (by decide) (fun z => absurd z.1 (by decide))) (J2_s (Js.im (by decide) (fun z => absurd z.1 (by decide))) J)))
  have IB : Iv (h_im (h_im (h_im (h_im h 204 c x1) 205 c x2) 206 c x3) 207 c (h_i h 1 0)) := (IA.im (by rw [tfa_tf (show tfa 206 = some (0, 15) by decide +kernel)]; exact b3) (jw_jr (by decide) (by decide) _)).im (by rw [tfa_tf (show tfa 207 = some (0, 20000) by decide +kernel)]; exact nr) (jw_jr (by decide) (by decide) _)
  have MB : Mo c (h_im (h_im (h_im (h_im h 204 c x1) 205 c x2) 206 c x3) 207 c (h_i h 1 0)) (h_im (h_im (h_im (h_im h 204 c x1) 205 c x2) 206 c x3) 207 c (h_i h 1 0)) := Mo.rf _ _
  have IC := i213 (i211 (i210 (i209 (i208 IB c 0) c (b15 b3)) c m1_in) c (-1)) c m1_st
  have MC := ((((MB.im (b := 208) (k := c) (x := 0) (by decide) (fun _ => rfl)).im (b := 209) (k := c) (x := x3) (by decide) (fun y => absurd y (by decide))).im (b := 210) (k := c) (x := -1) (by decide) (fun _ => rfl)).im (b := 211) (k := c) (x := -1) (by decide) (fun y => absurd y (by decide))).im (b := 213) (k := c) (x := -1) (by decide) (fun _ => rfl)
  have ID : Iv (h_im (h_im (h_im (h_im (h_im (h_im (h_im (h_im (h_im (h_im (h_im (h_im h 204 c x1) 205 c x2) 206 c x3) 207 c (h_i h 1 0)) 208 c 0) 209 c x3) 210 c (-1)) 211 c (-1)) 213 c (-1)) 215 c 0) 216 c 0) 217 c 0) := (i216 (i215 IC c z4) c z4).im (by rw [tfa_tf (show tfa 217 = some (0, 400) by decide +kernel)]; exact z4) (jw_jr (by decide) (by decide) _)
  have MD := ((MC.im (b := 215) (k := c) (x := 0) (by decide) (fun y => absurd y (by decide))).im (b := 216) (k := c) (x := 0) (by decide) (fun _ => rfl)).im (b := 217) (k := c) (x := 0) (by decide) (fun y => absurd y (by decide))
  have e8 : h_i (h_im (h_im (h_im (h_im (h_im (h_im (h_im (h_im (h_im (h_im (h_im (h_im h 204 c x1) 205 c x2) 206 c x3) 207 c (h_i h 1 0)) 208 c 0) 209 c x3) 210 c (-1)) 211 c (-1)) 213 c (-1)) 215 c 0) 216 c 0) 217 c 0) 208 c = 0 := by rw [im_ne (by decide), im_ne (by decide), im_ne (by decide), im_ne (by decide), im_ne (by decide), im_ne (by decide), im_ne (by decide), im_at]
  have e10 : h_i (h_im (h_im (h_im (h_im (h_im (h_im (h_im (h_im (h_im (h_im (h_im (h_im h 204 c x1) 205 c x2) 206 c x3) 207 c (h_i h 1 0)) 208 c 0) 209 c x3) 210 c (-1)) 211 c (-1)) 213 c (-1)) 215 c 0) 216 c 0) 217 c 0) 210 c = -1 := by rw [im_ne (by decide), im_ne (by decide), im_ne (by decide), im_ne (by decide), im_ne (by decide), im_at]
  have JC := Jd.jm ⟨by rw [e8]; decide, fun _ => e10⟩
  have JD := J2_o MD JB JC
  have eM := (MD.2.2.2.1 7 (Or.inr (Or.inl rfl))).trans (show h_i (h_im (h_im (h_im (h_im h 204 c x1) 205 c x2) 206 c x3) 207 c (h_i h 1 0)) 1 7 = h_i h 1 7 by rw [im_ne (by decide), im_ne (by decide), im_ne (by decide), im_ne (by decide)])
  refine ⟨ID.im (by rw [show tf 1 7 = (0, 12) by decide +kernel]; exact ⟨by show (0 : Int) ≤ _; omega, by show _ ≤ (12 : Int); omega⟩) (by decide), fun k hk hm => Jm_z (Jz.im (by decide) (fun y => absurd y.2 (by decide))) ?_, Fr.im (FB.tr MD.sr.sn) (by decide +kernel), Or.inl ⟨ok, tx_back _, im_at⟩, fun _ => ?_, fun k hk => ?_⟩
  · rw [im_at, e7] at hm
    by_cases ek : k = c
    · rw [ek]; exact JC
    · exact JD k hk (by rw [eM]; omega)
  · rw [ecc, im_ne (by decide), im_ne (by decide), im_ne (by decide), im_ne (by decide), im_ne (by decide), im_ne (by decide), im_ne (by decide), im_ne (by decide), im_ne (by decide), im_ne (by decide), im_ne (by decide), im_ne (by decide), im_at]
  · have nk : k ≠ c := fun e => hk.elim (fun y => y (by rw [ecc]; exact e)) (fun y => y ok)
    rw [im_ne (by decide), im_ne (by decide), im_ne (by decide), im_ne (by decide), im_ne (by decide), im_ne (by decide), im_ne (by decide), im_ne (by decide), im_ne (by decide), im_ne (by decide), im_ne (by decide), im_ne (by decide), h_i_im, if_neg (fun e => nk e.2)]
/-- a call that writes nothing that the men's account looks at -/
def jso (ws : List Nat) : Bool := off ws 208 && off ws 210 && off ws 212 && off ws 213 && off ws 216 && off ws 227 && off ws 228 && !inw ws 1 42 && !inw ws 1 7
theorem Js.fr {ws : List Nat} {h h' : Hp_} (f : Fr ws h h') (o : jso ws = true) : Js h h' := by
  unfold jso at o
  simp only [Bool.and_eq_true] at o
  obtain ⟨⟨⟨⟨⟨⟨⟨⟨o1, o2⟩, o3⟩, o4⟩, o5⟩, o6⟩, o7⟩, o8⟩, o9⟩ := o
  rw [Bool.not_eq_true'] at o8 o9
  refine ⟨⟨fun r hr k => ?_, fun k => fr_i f o6 k, fun k => fr_i f o7 k, (f.2 1 42 o8).1⟩, (f.2 1 7 o9).1⟩
  unfold mrow at hr
  simp only [Bool.or_eq_true] at hr
  rcases hr with (((z | z) | z) | z) | z <;> have z := Nat.eq_of_beq_eq_true z <;> subst z
  · exact fr_i f o1 k
  · exact fr_i f o2 k
  · exact fr_i f o3 k
  · exact fr_i f o4 k
  · exact fr_i f o5 k
theorem Mf.js {W : List Nat} {h h' : Hp_} (m : Mf W h h') : Js h h' := by
  refine ⟨⟨fun r hr k => ?_, fun k => m.2.1 227 (by decide) (by decide) k, fun k => m.2.1 228 (by decide) (by decide) k, m.1 42⟩, m.1 7⟩
  unfold mrow at hr
  simp only [Bool.or_eq_true] at hr
  rcases hr with (((z | z) | z) | z) | z <;> have z := Nat.eq_of_beq_eq_true z <;> subst z <;> exact m.2.1 _ (by decide) (by decide) k
