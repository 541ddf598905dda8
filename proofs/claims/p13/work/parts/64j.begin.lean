/-! begin of the reference, whole -/
theorem i63 {h : Hp_} (I : Iv h) {x : Int32} (b : rin x.toInt (0, 400)) : Iv (h_im h 1 63 x) := I.im (by rw [show tf 1 63 = (0, 400) by decide +kernel]; exact b) (by decide)
theorem rows_in {h : Hp_} (I : Iv h) : rin (h_i h 1 63).toInt (0, 400) := by
  have := I.2.1 1 63
  rwa [show tf 1 63 = (0, 400) by decide +kernel] at this
theorem i2xx (a : Nat) (e : tfa a = some rtop) (n : a ≠ 0) (j : jr a = false) {h : Hp_} (I : Iv h) (k : Nat) (x : Int32) : Iv (h_im h a k x) := tr_ a e I k x n j
/-- while the rows are laid: what stands of the man -/
def Bg (h0 : Hp_) (c : Nat) (x2 : Int32) (N : Nat) (h : Hp_) : Prop := Iv h ∧ Mo c h0 h ∧ h_i h 208 c = 1 ∧ h_i h 212 c = x2 ∧ h_i h 213 c = 0 ∧ h_i h 210 c = -1 ∧ (h_i h 216 c).toInt + (N : Int) ≤ 400
theorem Bg.im {h0 : Hp_} {c : Nat} {x2 : Int32} {N : Nat} {h : Hp_} {a k : Nat} {x : Int32} (B : Bg h0 c x2 N h) (I : Iv (h_im h a k x)) (n : (mrow a || Nat.beq a 227 || Nat.beq a 228 || Nat.beq a 1 || !(inw wsR a 999)) = false) : Bg h0 c x2 N (h_im h a k x) := by
  simp only [Bool.or_eq_false_iff] at n
  have ne : ∀ {y : Nat}, mrow y = true → y ≠ a := fun {y} z e => by rw [e, n.1.1.1.1] at z; cases z
  refine ⟨I, B.2.1.im (by rw [n.1.1.1.2, n.1.1.2, n.1.2, n.2]; rfl) (fun z => by rw [n.1.1.1.1] at z; cases z), ?_, ?_, ?_, ?_, ?_⟩
  · rw [im_ne (ne rfl)]; exact B.2.2.1
  · rw [im_ne (ne rfl)]; exact B.2.2.2.1
  · rw [im_ne (ne rfl)]; exact B.2.2.2.2.1
  · rw [im_ne (ne rfl)]; exact B.2.2.2.2.2.1
  · rw [im_ne (ne rfl)]; exact B.2.2.2.2.2.2
theorem bg_loop (d : Nat) (h0 : Hp_) (x1 x2 : Int32) (b1 : rin x1.toInt (0, 11)) (b2 : rin x2.toInt (0, 11)) (hb : x2.toInt < (h_i h0 1 42).toInt) :
    ∀ (r s : Nat) (x3 : Int32) (h : Hp_), x3.toInt = 150 * x2.toInt + s → s + r = (h_i h0 227 x2.toNatClampNeg).toNatClampNeg → Bg h0 x1.toNatClampNeg x2 (mP (h_i h0 228) x2.toNatClampNeg (h_i h0 227 x2.toNatClampNeg).toNatClampNeg 0) h → (h_i h 1 63).toInt + (mP (h_i h0 228) x2.toNatClampNeg r s : Int) ≤ 400 →
    AW (m_X12_begin (d + 4) 0 0) 0 0 106 [(0, .ref 1), (1, .int x1), (2, .int x2), (3, .int x3)] [] h (kI (fun _ h' => Iv h' ∧ Mo x1.toNatClampNeg h0 h' ∧ Jm h' x1.toNatClampNeg)) := by
  have v1 := dp_in b1 (n := 12) (by decide) (by decide)
  have v2 := dp_in b2 (n := 12) (by decide) (by decide)
  have c0 : 0 ≤ x2.toInt := b2.1
  have c1 : x2.toInt ≤ 11 := b2.2
  have t0 : (0 : Int32).toInt = 0 := rfl
  have t1 : (1 : Int32).toInt = 1 := rfl
  have z0 : (0 : Int32).toNatClampNeg = 0 := by simp
  have fin : ∀ h, Bg h0 x1.toNatClampNeg x2 (mP (h_i h0 228) x2.toNatClampNeg (h_i h0 227 x2.toNatClampNeg).toNatClampNeg 0) h → Cv (m_X12_goOn (d + 3) 0 0) [.ref 1, .int x1] (h_im h 217 x1.toNatClampNeg (h_i h 1 63)) (fun h' => Wf h' ∧ (Iv h' ∧ Mo x1.toNatClampNeg h0 h' ∧ Jm h' x1.toNatClampNeg)) := by
    intro h B0
    have I0 := B0.1
    have B := B0.im (a := 217) (k := x1.toNatClampNeg) (x := h_i h 1 63) (I0.im (by rw [tfa_tf (show tfa 217 = some (0, 400) by decide +kernel)]; exact rows_in I0) (jw_jr (by decide) (by decide) _)) (by decide)
    generalize h_im h 217 x1.toNatClampNeg (h_i h 1 63) = h2 at B ⊢
    obtain ⟨I, M, e1, e2, e3, e4, e5⟩ := B
    have ez : nZ h2 x1.toNatClampNeg = (h_i h0 227 x2.toNatClampNeg).toNatClampNeg := by show (h_i h2 227 (h_i h2 212 x1.toNatClampNeg).toNatClampNeg).toNatClampNeg = _; rw [e2, M.2.1]
    have es : nS h2 x1.toNatClampNeg = 0 := by show (h_i h2 213 x1.toNatClampNeg).toNatClampNeg = _; rw [e3]; exact z0
    have eb : nB h2 x1.toNatClampNeg = x2.toNatClampNeg := by show (h_i h2 212 x1.toNatClampNeg).toNatClampNeg = _; rw [e2]
    have G : Gs h2 x1.toNatClampNeg := by
      unfold Gs
      rw [ez, es, eb, e2, e3, e4, M.wh, M.b42, Nat.sub_zero]
      exact ⟨by decide, Nat.zero_le _, hb, e5, rfl⟩
    exact Cv.mono (c_goOn d I x1 b1 (fun n => absurd e1 n) (fun _ => G)) (fun h' q => ⟨q.1.1, q.1, M.tr q.2.1, q.2.2⟩)
  intro r
  induction r with
  | zero =>
    intro s x3 h e3 es B er
    have ew := B.2.1.2.1 x2.toNatClampNeg
    obtain ⟨_, zb, _⟩ := bt_ix B.1 b2 (s := 0) (y := 150 * x2) (by rw [tx_mul (by rw [show (150 : Int32).toInt = 150 from rfl]; omega) (by rw [show (150 : Int32).toInt = 150 from rfl]; omega)]; show (150 : Int) * x2.toInt = _; omega) (by omega)
    rw [ew] at zb
    obtain ⟨k1, k2, k3⟩ := bt_ix B.1 b2 e3 (by omega)
    rw [ew] at k1
    refine t_X12_begin_106 d h B.1.1 x1 x2 x3 _ ⟨v2, fun _ => ⟨v1, fin h B⟩, fun z => ?_⟩
    rw [ew] at z
    have z := q_nle z
    omega
  | succ r ih =>
    intro s x3 h e3 es B er
    have ew := B.2.1.2.1 x2.toNatClampNeg
    obtain ⟨_, zb, _⟩ := bt_ix B.1 b2 (s := 0) (y := 150 * x2) (by rw [tx_mul (by rw [show (150 : Int32).toInt = 150 from rfl]; omega) (by rw [show (150 : Int32).toInt = 150 from rfl]; omega)]; show (150 : Int) * x2.toInt = _; omega) (by omega)
    rw [ew] at zb
    obtain ⟨k1, k2, k3⟩ := bt_ix B.1 b2 e3 (by omega)
    rw [ew] at k1
    have ex : (x3 + 1).toInt = 150 * x2.toInt + ((s + 1 : Nat) : Int) := by rw [tx_add (by rw [t1]; omega) (by rw [t1]; omega), t1, e3]; omega
    have v3 : vp_in x3 1800 := dp_in (lo := 0) (hi := 1799) ⟨by show (0 : Int) ≤ _; omega, by show _ ≤ (1799 : Int); omega⟩ (by decide) (by decide)
    have er' : (h_i h 1 63).toInt + (((if h_i h0 228 (150 * x2.toNatClampNeg + s) = 2 then 1 else 0) + mP (h_i h0 228) x2.toNatClampNeg r (s + 1) : Nat) : Int) ≤ 400 := er
    have wh : h_i h 228 x3.toNatClampNeg = h_i h0 228 (150 * x2.toNatClampNeg + s) := by rw [k3]; exact B.2.1.2.2.1 _
    refine t_X12_begin_106 d h B.1.1 x1 x2 x3 _ ⟨v2, fun _ => ⟨v1, fin h B⟩, fun z => ⟨v3, fun w => ?_, fun w => ?_⟩⟩
    · rw [wh] at w
      rw [if_neg w] at er'
      exact ih (s + 1) (x3 + 1) h ex (by omega) B (by omega)
    · rw [wh] at w
      rw [if_pos w] at er'
      have r0 : 0 ≤ (h_i h 1 63).toInt := (rows_in B.1).1
      have vr : vp_in (h_i h 1 63) 400 := dp_in (lo := 0) (hi := 399) ⟨r0, by show _ ≤ (399 : Int); omega⟩ (by decide) (by decide)
      have e63 : (h_i h 1 63 + 1).toInt = (h_i h 1 63).toInt + 1 := tx_add (by rw [t1]; omega) (by rw [t1]; omega)
      refine ⟨vr, v3, vr, v3, vr, vr, vr, vr, ?_⟩
      have B1 := B.im (i2xx 238 (by decide +kernel) (by decide) (by decide) B.1 (h_i h 1 63).toNatClampNeg x1) (by decide)
      have B2 := B1.im (i2xx 239 (by decide +kernel) (by decide) (by decide) B1.1 (h_i h 1 63).toNatClampNeg (h_i h 229 x3.toNatClampNeg)) (by decide)
      have B3 := B2.im (i2xx 240 (by decide +kernel) (by decide) (by decide) B2.1 (h_i h 1 63).toNatClampNeg ((h_i h 1 0) + (h_i h 230 x3.toNatClampNeg))) (by decide)
      have B4 := B3.im (i2xx 241 (by decide +kernel) (by decide) (by decide) B3.1 (h_i h 1 63).toNatClampNeg (-1)) (by decide)
      have B5 := B4.im (i2xx 242 (by decide +kernel) (by decide) (by decide) B4.1 (h_i h 1 63).toNatClampNeg (-1)) (by decide)
      have B6 := B5.im (i2xx 244 (by decide +kernel) (by decide) (by decide) B5.1 (h_i h 1 63).toNatClampNeg (h_i h 1 0)) (by decide)
      refine ih (s + 1) (x3 + 1) _ ex (by omega) ⟨i63 B6.1 ⟨by show (0 : Int) ≤ _; omega, by show _ ≤ (400 : Int); omega⟩, B6.2.1.im1 (by decide), ?_, ?_, ?_, ?_, ?_⟩ ?_
      · rw [im_ne (by decide)]; exact B6.2.2.1
      · rw [im_ne (by decide)]; exact B6.2.2.2.1
      · rw [im_ne (by decide)]; exact B6.2.2.2.2.1
      · rw [im_ne (by decide)]; exact B6.2.2.2.2.2.1
      · rw [im_ne (by decide)]; exact B6.2.2.2.2.2.2
      · rw [im_at]; omega
theorem i212 {h : Hp_} (I : Iv h) (k : Nat) {x : Int32} (b : rin x.toInt (0, 11)) : Iv (h_im h 212 k x) := I.im (by rw [tfa_tf (show tfa 212 = some (0, 11) by decide +kernel)]; exact b) (jw_jr (by decide) (by decide) _)
theorem i215 {h : Hp_} (I : Iv h) (k : Nat) {x : Int32} (b : rin x.toInt (0, 400)) : Iv (h_im h 215 k x) := I.im (by rw [tfa_tf (show tfa 215 = some (0, 400) by decide +kernel)]; exact b) (jw_jr (by decide) (by decide) _)
theorem c_begin (d : Nat) {h : Hp_} (I : Iv h) (J : J2 h) (x1 x2 : Int32) : Ci (m_X12_begin (d + 4) 0 0) [.ref 1, .int x1, .int x2] h (fun _ h' => Iv h' ∧ J2 h' ∧ Sr h h') := by
  have t0 : (0 : Int32).toInt = 0 := rfl
  have t1 : (1 : Int32).toInt = 1 := rfl
  have t400 : (400 : Int32).toInt = 400 := rfl
  have mm := men_in I
  have m0 : 0 ≤ (h_i h 1 7).toInt := mm.1
  have m1 : (h_i h 1 7).toInt ≤ 12 := mm.2
  have bm := I.2.1 1 42
  rw [show tf 1 42 = (0, 12) by decide +kernel] at bm
  have p0 : 0 ≤ (h_i h 1 42).toInt := bm.1
  have p1 : (h_i h 1 42).toInt ≤ 12 := bm.2
  have e7 : (h_i h 1 7 - 1).toInt = (h_i h 1 7).toInt - 1 := by rw [tx_sub (by rw [t1]; omega) (by rw [t1]; omega), t1]
  have e42 : (h_i h 1 42 - 1).toInt = (h_i h 1 42).toInt - 1 := by rw [tx_sub (by rw [t1]; omega) (by rw [t1]; omega), t1]
  refine t_X12_begin d h I.1 x1 x2 _ ⟨fun _ => ⟨I, J, Sr.rf _⟩, fun z => ⟨fun _ => ⟨I, J, Sr.rf _⟩, fun y => ?_⟩⟩
  have z1 := q_le.mp z.1
  have z2 := q_le.mp z.2
  have y1 := q_le.mp y.1
  have y2 := q_le.mp y.2
  have b1 : rin x1.toInt (0, 11) := ⟨by show (0 : Int) ≤ _; omega, by show _ ≤ (11 : Int); omega⟩
  have b2 : rin x2.toInt (0, 11) := ⟨by show (0 : Int) ≤ _; omega, by show _ ≤ (11 : Int); omega⟩
  have v1 := dp_in b1 (n := 12) (by decide) (by decide)
  have n1 := n_nat (x := x1) (by omega)
  refine ⟨v1, fun _ => ⟨I, J, Sr.rf _⟩, fun d0 => ?_⟩
  refine Ci.mono (c_pointsOf d I x2 b2) (fun r h9 q => ?_)
  obtain ⟨e9, er⟩ := q
  subst e9
  refine ⟨I.1, fun le => ⟨v1, v1, v1, v1, v1, v1, ?_⟩, fun _ => ⟨I, J, Sr.rf _⟩⟩
  have le := q_le.mp le
  have rr := rows_in I
  have r0 : 0 ≤ (h_i h9 1 63).toInt := rr.1
  have r1 : (h_i h9 1 63).toInt ≤ 400 := rr.2
  have mb := mP_le (wh := h_i h9 228) (b := x2.toNatClampNeg) (f := (h_i h9 227 x2.toNatClampNeg).toNatClampNeg) (s := 0)
  have t150 : (150 : Int32).toInt = 150 := rfl
  have m150 : (150 * x2).toInt = 150 * x2.toInt := by rw [tx_mul (by rw [t150]; omega) (by rw [t150]; omega), t150]
  obtain ⟨_, zb, _⟩ := bt_ix I b2 (s := 0) (y := 150 * x2) (by rw [m150]; omega) (by omega)
  have es : (h_i h9 1 63 + r).toInt = (h_i h9 1 63).toInt + r.toInt := tx_add (by omega) (by omega)
  have g1 : h_i h9 210 x1.toNatClampNeg = -1 := (J _ (by omega) (by omega)).1 d0
  have I6 := i216 (i215 (i2xx 214 (by decide +kernel) (by decide) (by decide) (i213 (i212 (i208 I x1.toNatClampNeg 1) x1.toNatClampNeg b2) x1.toNatClampNeg (x := 0) ⟨by decide, by decide⟩) x1.toNatClampNeg (h_i h9 1 0)) x1.toNatClampNeg rr) x1.toNatClampNeg rr
  refine AW.mono (bg_loop d h9 x1 x2 b1 b2 (by omega) (h_i h9 227 x2.toNatClampNeg).toNatClampNeg 0 (150 * x2) _ (by rw [m150]; omega) (by omega) ⟨I6, ?_, ?_, ?_, ?_, ?_, ?_⟩ ?_) (fun v h' q => ?_)
  · exact ((((((Mo.rf _ _).im (by decide) (fun _ => rfl)).im (by decide) (fun _ => rfl)).im (by decide) (fun _ => rfl)).im (by decide) (fun y => absurd y (by decide))).im (by decide) (fun y => absurd y (by decide))).im (by decide) (fun _ => rfl)
  · rw [im_ne (by decide), im_ne (by decide), im_ne (by decide), im_ne (by decide), im_ne (by decide), im_at]
  · rw [im_ne (by decide), im_ne (by decide), im_ne (by decide), im_ne (by decide), im_at]
  · rw [im_ne (by decide), im_ne (by decide), im_ne (by decide), im_at]
  · rw [im_ne (by decide), im_ne (by decide), im_ne (by decide), im_ne (by decide), im_ne (by decide), im_ne (by decide)]; exact g1
  · rw [im_at]; omega
  · rw [im_ne (by decide), im_ne (by decide), im_ne (by decide), im_ne (by decide), im_ne (by decide), im_ne (by decide)]; omega
  · obtain ⟨r2, ev, I', M', j'⟩ := q
    exact ⟨r2, ev, I', J2_o M' J j', M'.sr⟩
