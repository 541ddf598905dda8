/-! the reference's men: what one man's methods leave of the others -/
def mrow (a : Nat) : Bool := Nat.beq a 208 || Nat.beq a 210 || Nat.beq a 212 || Nat.beq a 213 || Nat.beq a 216
/-- what the reference's calls with an account of their own may write -/
def wsR : List Nat := [1032, 1033, 1034, 1035, 1036, 1037, 1042, 1043, 1044, 1052, 1063, 1080, 1096, 203999, 208999, 209999, 210999, 211999, 212999, 213999, 214999, 215999, 216999, 217999, 218999, 219999, 220999, 226999, 227999, 228999, 229999, 230999, 236999, 237999, 238999, 239999, 240999, 241999, 242999, 243999, 244999, 248999, 254999, 255999, 256999, 257999, 258999, 259999, 260999, 261999, 262999, 263999]
def wsN : List Nat := 1007 :: 204999 :: 205999 :: 206999 :: 207999 :: wsR
def wsT : List Nat := 1000 :: wsR
/-- all else stays -/
def Sr (h h' : Hp_) : Prop := Fr wsR h h'
def Sn (h h' : Hp_) : Prop := Fr wsN h h'
theorem Sr.rf (h : Hp_) : Sr h h := Fr.rf _ h
theorem Sr.tr {h h1 h2 : Hp_} (a : Sr h h1) (b : Sr h1 h2) : Sr h h2 := Fr.tr a b
theorem Sr.im {h0 h : Hp_} {a k : Nat} {x : Int32} (s : Sr h0 h) (o : inw wsR a k = true) : Sr h0 (h_im h a k x) := Fr.im s o
theorem Sr.fr {ws : List Nat} {h h' : Hp_} (f : Fr ws h h') (o : wsub ws wsR = true) : Sr h h' := f.more o
theorem Sr.sn {h h' : Hp_} (s : Sr h h') : Sn h h' := Fr.more (a := wsR) (by decide +kernel) s
theorem Sr.st {h h' : Hp_} (s : Sr h h') : Fr wsT h h' := Fr.more (a := wsR) (by decide +kernel) s
def Mo (c : Nat) (h h' : Hp_) : Prop := (∀ a, mrow a = true → ∀ k, k ≠ c → h_i h' a k = h_i h a k) ∧ (∀ k, h_i h' 227 k = h_i h 227 k) ∧ (∀ k, h_i h' 228 k = h_i h 228 k) ∧ (∀ k, (k = 0 ∨ k = 7 ∨ k = 42) → h_i h' 1 k = h_i h 1 k) ∧ Sr h h'
theorem Mo.rf (c : Nat) (h : Hp_) : Mo c h h := ⟨fun _ _ _ _ => rfl, fun _ => rfl, fun _ => rfl, fun _ _ => rfl, Sr.rf _⟩
theorem Mo.tr {c : Nat} {h h1 h2 : Hp_} (a : Mo c h h1) (b : Mo c h1 h2) : Mo c h h2 := ⟨fun r hr k hk => (b.1 r hr k hk).trans (a.1 r hr k hk), fun k => (b.2.1 k).trans (a.2.1 k), fun k => (b.2.2.1 k).trans (a.2.2.1 k), fun k hk => (b.2.2.2.1 k hk).trans (a.2.2.2.1 k hk), a.2.2.2.2.tr b.2.2.2.2⟩
theorem Mo.b42 {c : Nat} {h h' : Hp_} (m : Mo c h h') : h_i h' 1 42 = h_i h 1 42 := m.2.2.2.1 42 (Or.inr (Or.inr rfl))
theorem Mo.sr {c : Nat} {h h' : Hp_} (m : Mo c h h') : Sr h h' := m.2.2.2.2
theorem Mo.im {c : Nat} {h0 h : Hp_} {b k : Nat} {x : Int32} (m : Mo c h0 h) (hb : (Nat.beq b 227 || Nat.beq b 228 || Nat.beq b 1 || !(inw wsR b 999)) = false) (hk : mrow b = true → k = c) : Mo c h0 (h_im h b k x) := by
  rw [Bool.or_eq_false_iff, Bool.or_eq_false_iff, Bool.or_eq_false_iff, Bool.not_eq_false'] at hb
  have n : ∀ {y : Nat}, Nat.beq b y = false → y ≠ b := fun {y} z e => by rw [e, Nat.beq_refl] at z; cases z
  refine ⟨fun r hr j hj => ?_, fun j => ?_, fun j => ?_, fun j hj => ?_, m.2.2.2.2.im (inw_row hb.2 k)⟩
  · rw [h_i_im]
    split
    · rename_i e
      exact absurd (e.2.trans (hk (by rw [← e.1]; exact hr))) hj
    · exact m.1 r hr j hj
  · rw [h_i_im, if_neg (fun e => n hb.1.1.1 e.1)]; exact m.2.1 j
  · rw [h_i_im, if_neg (fun e => n hb.1.1.2 e.1)]; exact m.2.2.1 j
  · rw [h_i_im, if_neg (fun e => n hb.1.2 e.1)]; exact m.2.2.2.1 j hj
theorem Mo.fr {ws : List Nat} {c : Nat} {h h' : Hp_} (f : Fr ws h h') (o : (off ws 208 && off ws 210 && off ws 212 && off ws 213 && off ws 216 && off ws 227 && off ws 228 && (!inw ws 1 0 && !inw ws 1 7 && !inw ws 1 42 && wsub ws wsR)) = true) : Mo c h h' := by
  simp only [Bool.and_eq_true] at o
  obtain ⟨⟨⟨⟨⟨⟨⟨o1, o2⟩, o3⟩, o4⟩, o5⟩, o6⟩, o7⟩, ⟨⟨o8, o9⟩, o10⟩, o11⟩ := o
  rw [Bool.not_eq_true'] at o8 o9 o10
  refine ⟨fun r hr k _ => ?_, fun k => fr_i f o6 k, fun k => fr_i f o7 k, fun k hk => ?_, Sr.fr f o11⟩
  · unfold mrow at hr
    simp only [Bool.or_eq_true] at hr
    rcases hr with (((z | z) | z) | z) | z <;> have z := Nat.eq_of_beq_eq_true z <;> subst z
    · exact fr_i f o1 k
    · exact fr_i f o2 k
    · exact fr_i f o3 k
    · exact fr_i f o4 k
    · exact fr_i f o5 k
  · rcases hk with z | z | z <;> subst z
    · exact (f.2 1 0 o8).1
    · exact (f.2 1 7 o9).1
    · exact (f.2 1 42 o10).1
/-- the man's own: what he does, his beat, his step, his row -/
def So (c : Nat) (h h' : Hp_) : Prop := h_i h' 208 c = h_i h 208 c ∧ h_i h' 212 c = h_i h 212 c ∧ h_i h' 213 c = h_i h 213 c ∧ h_i h' 216 c = h_i h 216 c
theorem So.rf (c : Nat) (h : Hp_) : So c h h := ⟨rfl, rfl, rfl, rfl⟩
theorem So.tr {c : Nat} {h h1 h2 : Hp_} (a : So c h h1) (b : So c h1 h2) : So c h h2 := ⟨b.1.trans a.1, b.2.1.trans a.2.1, b.2.2.1.trans a.2.2.1, b.2.2.2.trans a.2.2.2⟩
theorem So.im {c : Nat} {h0 h : Hp_} {b k : Nat} {x : Int32} (m : So c h0 h) (hb : (Nat.beq b 208 || Nat.beq b 212 || Nat.beq b 213 || Nat.beq b 216) = false) : So c h0 (h_im h b k x) := by
  simp only [Bool.or_eq_false_iff] at hb
  have n : ∀ {y : Nat}, Nat.beq b y = false → y ≠ b := fun {y} z e => by rw [e, Nat.beq_refl] at z; cases z
  refine ⟨?_, ?_, ?_, ?_⟩
  · rw [h_i_im, if_neg (fun e => n hb.1.1.1 e.1)]; exact m.1
  · rw [h_i_im, if_neg (fun e => n hb.1.1.2 e.1)]; exact m.2.1
  · rw [h_i_im, if_neg (fun e => n hb.1.2 e.1)]; exact m.2.2.1
  · rw [h_i_im, if_neg (fun e => n hb.2 e.1)]; exact m.2.2.2
theorem So.fr {ws : List Nat} {c : Nat} {h h' : Hp_} (f : Fr ws h h') (o : (off ws 208 && off ws 212 && off ws 213 && off ws 216) = true) : So c h h' := by
  simp only [Bool.and_eq_true] at o
  exact ⟨fr_i f o.1.1.1 c, fr_i f o.1.1.2 c, fr_i f o.1.2 c, fr_i f o.2 c⟩
theorem im_ne {h : Hp_} {a b k j : Nat} {x : Int32} (n : b ≠ a) : h_i (h_im h a k x) b j = h_i h b j := by rw [h_i_im, if_neg (fun e => n e.1)]
theorem im_at {h : Hp_} {a k : Nat} {x : Int32} : h_i (h_im h a k x) a k = x := by rw [h_i_im, if_pos ⟨rfl, rfl⟩]
theorem tr_ (a : Nat) (e : tfa a = some rtop) {h : Hp_} (I : Iv h) (k : Nat) (x : Int32) (n : a ≠ 0) (j : jr a = false) : Iv (h_im h a k x) := I.im (by rw [tfa_tf e]; exact rtop_in _) (jw_jr n j _)
theorem i208 {h : Hp_} (I : Iv h) (k : Nat) (x : Int32) : Iv (h_im h 208 k x) := tr_ 208 (by decide +kernel) I k x (by decide) (by decide)
theorem i211 {h : Hp_} (I : Iv h) (k : Nat) (x : Int32) : Iv (h_im h 211 k x) := tr_ 211 (by decide +kernel) I k x (by decide) (by decide)
theorem i241 {h : Hp_} (I : Iv h) (k : Nat) (x : Int32) : Iv (h_im h 241 k x) := tr_ 241 (by decide +kernel) I k x (by decide) (by decide)
theorem i242 {h : Hp_} (I : Iv h) (k : Nat) (x : Int32) : Iv (h_im h 242 k x) := tr_ 242 (by decide +kernel) I k x (by decide) (by decide)
theorem i243 {h : Hp_} (I : Iv h) (k : Nat) (x : Int32) : Iv (h_im h 243 k x) := tr_ 243 (by decide +kernel) I k x (by decide) (by decide)
theorem i260 {h : Hp_} (I : Iv h) (k : Nat) (x : Int32) : Iv (h_im h 260 k x) := tr_ 260 (by decide +kernel) I k x (by decide) (by decide)
theorem i209 {h : Hp_} (I : Iv h) (k : Nat) {x : Int32} (b : rin x.toInt (-1, 15)) : Iv (h_im h 209 k x) := I.im (by rw [tfa_tf (show tfa 209 = some (-1, 15) by decide +kernel)]; exact b) (jw_jr (by decide) (by decide) _)
theorem i210 {h : Hp_} (I : Iv h) (k : Nat) {x : Int32} (b : rin x.toInt (-1, 15)) : Iv (h_im h 210 k x) := I.im (by rw [tfa_tf (show tfa 210 = some (-1, 15) by decide +kernel)]; exact b) (jw_jr (by decide) (by decide) _)
theorem i213 {h : Hp_} (I : Iv h) (k : Nat) {x : Int32} (b : rin x.toInt (-1, 150)) : Iv (h_im h 213 k x) := I.im (by rw [tfa_tf (show tfa 213 = some (-1, 150) by decide +kernel)]; exact b) (jw_jr (by decide) (by decide) _)
theorem i216 {h : Hp_} (I : Iv h) (k : Nat) {x : Int32} (b : rin x.toInt (0, 400)) : Iv (h_im h 216 k x) := I.im (by rw [tfa_tf (show tfa 216 = some (0, 400) by decide +kernel)]; exact b) (jw_jr (by decide) (by decide) _)
theorem m1_in : rin (-1 : Int32).toInt (-1, 15) := ⟨by decide, by decide⟩
theorem m1_st : rin (-1 : Int32).toInt (-1, 150) := ⟨by decide, by decide⟩
theorem b15 {x : Int32} (b : rin x.toInt (0, 15)) : rin x.toInt (-1, 15) := ⟨by have : 0 ≤ x.toInt := b.1; show (-1 : Int) ≤ _; omega, b.2⟩
theorem home_in {h : Hp_} (I : Iv h) (k : Nat) : rin (h_i h 206 k).toInt (0, 15) := dp_rg I 206 k (by decide +kernel)
theorem drawn_in {h : Hp_} (I : Iv h) (k : Nat) : rin (h_i h 218 k).toInt (0, 15) := dp_rg I 218 k (by decide +kernel)
theorem c_setOut (d : Nat) {h : Hp_} (I : Iv h) (x1 x2 : Int32) (b1 : rin x1.toInt (0, 11)) (b2 : rin x2.toInt (0, 15)) : Cv (m_X12_setOut (d + 1) 0 0) [.ref 1, .int x1, .int x2] h (fun h' => Iv h' ∧ Mo x1.toNatClampNeg h h' ∧ So x1.toNatClampNeg h h') := by
  have v1 := dp_in b1 (n := 12) (by decide) (by decide)
  refine t_X12_setOut d h I.1 x1 x2 _ ⟨v1, ?_⟩
  refine Ci.mono (c_walkOf d I _ x2 b2) (fun r h2 q => ?_)
  obtain ⟨I2, F2, _⟩ := q
  have M2 : Mo x1.toNatClampNeg h h2 := Mo.fr F2 (by decide +kernel)
  have S2 : So x1.toNatClampNeg h h2 := So.fr F2 (by decide +kernel)
  refine ⟨I2.1, fun _ => ⟨v1, v1, v1, i211 (i210 (i209 I2 _ m1_in) _ (b15 b2)) _ _, ((M2.im (by decide) (fun z => absurd z (by decide))).im (by decide) (fun _ => rfl)).im (by decide) (fun z => absurd z (by decide)), ((S2.im (by decide)).im (by decide)).im (by decide)⟩, fun _ => ⟨I2, M2, S2⟩⟩
/-- not on a beat; free only with no goal -/
def Jd (h : Hp_) (c : Nat) : Prop := ¬ h_i h 208 c = 1 ∧ (h_i h 208 c = 0 → h_i h 210 c = -1)
theorem c_free (d : Nat) {h : Hp_} (I : Iv h) (x1 : Int32) (b1 : rin x1.toInt (0, 11)) : Cv (m_X12_free (d + 0) 0 0) [.ref 1, .int x1] h (fun h' => Iv h' ∧ Mo x1.toNatClampNeg h h' ∧ h_i h' 208 x1.toNatClampNeg = 0 ∧ h_i h' 210 x1.toNatClampNeg = -1) := by
  have v1 := dp_in b1 (n := 12) (by decide) (by decide)
  have t1 : (1 : Int32).toInt = 1 := rfl
  have lp : ∀ (r : Nat) (x2 : Int32) (h2 : Hp_), 0 ≤ x2.toInt → 300 - x2.toInt ≤ r → Iv h2 → Mo x1.toNatClampNeg h h2 → h_i h2 208 x1.toNatClampNeg = 0 ∧ h_i h2 210 x1.toNatClampNeg = -1 → AW (m_X12_free (d + 0) 0 0) 0 0 42 [(0, .ref 1), (1, .int x1), (2, .int x2)] [] h2 (kV (fun h' => Iv h' ∧ Mo x1.toNatClampNeg h h' ∧ h_i h' 208 x1.toNatClampNeg = 0 ∧ h_i h' 210 x1.toNatClampNeg = -1)) := by
    intro r
    induction r with
    | zero =>
      intro x2 h2 p2 m2 I2 M2 e2
      have sm := I2.2.1 1 80
      rw [show tf 1 80 = (0, 300) by decide +kernel] at sm
      have s1 : (h_i h2 1 80).toInt ≤ 300 := sm.2
      refine t_X12_free_42 d h2 I2.1 x1 x2 _ ⟨fun _ => ⟨I2, M2, e2⟩, fun z => ?_⟩
      have z := q_nle z
      omega
    | succ r ih =>
      intro x2 h2 p2 m2 I2 M2 e2
      have sm := I2.2.1 1 80
      rw [show tf 1 80 = (0, 300) by decide +kernel] at sm
      have s1 : (h_i h2 1 80).toInt ≤ 300 := sm.2
      refine t_X12_free_42 d h2 I2.1 x1 x2 _ ⟨fun _ => ⟨I2, M2, e2⟩, fun z => ?_⟩
      have z := q_nle z
      have v2 : vp_in x2 300 := dp_in (lo := 0) (hi := 299) ⟨p2, by show _ ≤ (299 : Int); omega⟩ (by decide) (by decide)
      have ex : (x2 + 1).toInt = x2.toInt + 1 := tx_add (by rw [t1]; omega) (by rw [t1]; omega)
      have go := ih (x2 + 1) h2 (by omega) (by omega) I2 M2 e2
      exact ⟨v2, fun _ => go, fun _ => ⟨v2, fun _ => go, fun _ => ⟨v2, fun _ => go, fun _ => ⟨v2, ih (x2 + 1) _ (by omega) (by omega) (i260 I2 _ _) (M2.im (by decide) (fun y => absurd y (by decide))) ⟨by rw [im_ne (by decide)]; exact e2.1, by rw [im_ne (by decide)]; exact e2.2⟩⟩⟩⟩⟩
  refine t_X12_free d h I.1 x1 _ ⟨v1, v1, v1, v1, v1, v1, ?_⟩
  refine lp 300 0 _ (by decide) (by decide) (i213 (i211 (i210 (i209 (i208 I _ _) _ (b15 (home_in I _))) _ m1_in) _ _) _ m1_st) (((((Mo.rf _ _).im (by decide) (fun _ => rfl)).im (by decide) (fun y => absurd y (by decide))).im (by decide) (fun _ => rfl)).im (by decide) (fun y => absurd y (by decide)) |>.im (by decide) (fun _ => rfl)) ?_
  exact ⟨by rw [im_ne (by decide), im_ne (by decide), im_ne (by decide), im_ne (by decide), im_at], by rw [im_ne (by decide), im_ne (by decide), im_at]⟩
theorem c_goHome (d : Nat) {h : Hp_} (I : Iv h) (x1 : Int32) (b1 : rin x1.toInt (0, 11)) : Cv (m_X12_goHome (d + 2) 0 0) [.ref 1, .int x1] h (fun h' => Iv h' ∧ Mo x1.toNatClampNeg h h' ∧ Jd h' x1.toNatClampNeg) := by
  have v1 := dp_in b1 (n := 12) (by decide) (by decide)
  have I1 := i211 (i213 (i208 I x1.toNatClampNeg 2) x1.toNatClampNeg m1_st) x1.toNatClampNeg (-1)
  have M1 : Mo x1.toNatClampNeg h (h_im (h_im (h_im h 208 x1.toNatClampNeg 2) 213 x1.toNatClampNeg (-1)) 211 x1.toNatClampNeg (-1)) := (((Mo.rf _ _).im (by decide) (fun _ => rfl)).im (by decide) (fun _ => rfl)).im (by decide) (fun y => absurd y (by decide))
  have e1 : h_i (h_im (h_im (h_im h 208 x1.toNatClampNeg 2) 213 x1.toNatClampNeg (-1)) 211 x1.toNatClampNeg (-1)) 208 x1.toNatClampNeg = 2 := by rw [im_ne (by decide), im_ne (by decide), im_at]
  refine t_X12_goHome d h I.1 x1 _ ⟨v1, v1, v1, v1, v1, ?_⟩
  refine Ci.mono (c_walkOf d I1 _ _ (home_in I _)) (fun r h2 q => ?_)
  obtain ⟨I2, F2, _⟩ := q
  have M2 := M1.tr (Mo.fr (c := x1.toNatClampNeg) F2 (by decide +kernel))
  have S2 : So x1.toNatClampNeg _ h2 := So.fr F2 (by decide +kernel)
  have fr : Cv (m_X12_free (d + 0) 0 0) [.ref 1, .int x1] h2 (fun h' => Wf h' ∧ (Iv h' ∧ Mo x1.toNatClampNeg h h' ∧ Jd h' x1.toNatClampNeg)) := Cv.mono (c_free d I2 x1 b1) (fun h' q => ⟨q.1.1, q.1, M2.tr q.2.1, by rw [q.2.2.1]; decide, fun _ => q.2.2.2⟩)
  refine ⟨I2.1, fun _ => fr, fun _ => ⟨fun _ => ⟨v1, ?_⟩, fun _ => fr⟩⟩
  exact Cv.mono (c_setOut d I2 x1 _ b1 (home_in I2 _)) (fun h' q => ⟨q.1.1, q.1, M2.tr q.2.1, by rw [q.2.2.1, S2.1, e1]; decide, fun z => by rw [q.2.2.1, S2.1, e1] at z; exact absurd z (by decide)⟩)
theorem c_stay (d : Nat) {h : Hp_} (I : Iv h) (x1 : Int32) (b1 : rin x1.toInt (0, 11)) (n1 : ¬ h_i h 208 x1.toNatClampNeg = 1 ∧ ¬ h_i h 208 x1.toNatClampNeg = 0) : Cv (m_X12_stay (d + 3) 0 0) [.ref 1, .int x1] h (fun h' => Iv h' ∧ Mo x1.toNatClampNeg h h' ∧ Jd h' x1.toNatClampNeg) := by
  have v1 := dp_in b1 (n := 12) (by decide) (by decide)
  refine t_X12_stay d h I.1 x1 _ ⟨v1, fun _ => ⟨v1, v1, i211 I _ _, (Mo.rf _ _).im (by decide) (fun y => absurd y (by decide)), ⟨by rw [im_ne (by decide)]; exact n1.1, fun z => by rw [im_ne (by decide)] at z; exact absurd z n1.2⟩⟩, fun _ => Cv.mono (c_goHome d I x1 b1) (fun h' q => ⟨q.1.1, q⟩)⟩
theorem c_goDrawn (d : Nat) {h : Hp_} (I : Iv h) (x1 : Int32) (b1 : rin x1.toInt (0, 11)) (n1 : ¬ h_i h 208 x1.toNatClampNeg = 1 ∧ ¬ h_i h 208 x1.toNatClampNeg = 0) : Cv (m_X12_goDrawn (d + 4) 0 0) [.ref 1, .int x1] h (fun h' => Iv h' ∧ Mo x1.toNatClampNeg h h' ∧ Jd h' x1.toNatClampNeg) := by
  have v1 := dp_in b1 (n := 12) (by decide) (by decide)
  refine t_X12_goDrawn d h I.1 x1 _ ⟨v1, v1, ?_⟩
  refine Cv.mono (c_setOut d (i211 I x1.toNatClampNeg (-1)) x1 _ b1 (drawn_in I _)) (fun h' q => ?_)
  have M1 : Mo x1.toNatClampNeg h h' := ((Mo.rf _ _).im (by decide) (fun y => absurd y (by decide))).tr q.2.1
  have n2 : ¬ h_i h' 208 x1.toNatClampNeg = 1 ∧ ¬ h_i h' 208 x1.toNatClampNeg = 0 := by rw [q.2.2.1, im_ne (by decide)]; exact n1
  exact ⟨q.1.1, v1, fun _ => ⟨q.1, M1, n2.1, fun z => absurd z n2.2⟩, fun _ => Cv.mono (c_stay d q.1 x1 b1 n2) (fun h2 q2 => ⟨q2.1.1, q2.1, M1.tr q2.2.1, q2.2.2⟩)⟩
