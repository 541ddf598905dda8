/-! wake and tick of the reference -/
/-- at a step that is over: room for the points behind it -/
def Hs (h : Hp_) (c : Nat) : Prop := 0 ≤ (h_i h 213 c).toInt ∧ nS h c < nZ h c ∧ (h_i h 212 c).toInt < (h_i h 1 42).toInt ∧ h_i h 210 c = -1
theorem Gs_m {c : Nat} {h h' : Hp_} {x : Int32} (g : Hs h c) (m : Mo c h h') (e2 : h_i h' 212 c = h_i h 212 c) (e3 : h_i h' 213 c = x) (e4 : h_i h' 210 c = h_i h 210 c) (ex : x.toInt = (h_i h 213 c).toInt + 1)
    (er : (h_i h' 216 c).toInt + (mP (h_i h 228) (nB h c) (nZ h c - (nS h c + 1)) (nS h c + 1) : Int) ≤ 400) : Gs h' c := by
  have ez : nZ h' c = nZ h c := by show (h_i h' 227 (h_i h' 212 c).toNatClampNeg).toNatClampNeg = _; rw [e2, m.2.1]
  have eb : nB h' c = nB h c := by show (h_i h' 212 c).toNatClampNeg = _; rw [e2]
  have s0 := g.1
  have l := g.2.1
  have es : nS h' c = nS h c + 1 := by
    show (h_i h' 213 c).toNatClampNeg = (h_i h 213 c).toNatClampNeg + 1
    have a := n_nat (x := h_i h 213 c) s0
    have b := n_nat (x := x) (by omega)
    rw [e3]
    omega
  unfold Gs
  rw [ez, es, eb, e2, e3, e4, m.wh, m.b42]
  exact ⟨by omega, by omega, g.2.2.1, er, g.2.2.2⟩
theorem st_in {h : Hp_} (I : Iv h) {c : Nat} (g : Hs h c) {x : Int32} (ex : x = h_i h 213 c + 1) : x.toInt = (h_i h 213 c).toInt + 1 ∧ rin x.toInt (-1, 150) := by
  have t1 : (1 : Int32).toInt = 1 := rfl
  have zz := dp_rg I 227 (nB h c) (show tfa 227 = some (0, 150) by decide +kernel)
  have nz := n_nat (x := h_i h 227 (nB h c)) zz.1
  have z1 : (h_i h 227 (nB h c)).toInt ≤ 150 := zz.2
  have ns := n_nat (x := h_i h 213 c) g.1
  have s0 := g.1
  have l : (h_i h 213 c).toNatClampNeg < (h_i h 227 (nB h c)).toNatClampNeg := g.2.1
  have e : x.toInt = (h_i h 213 c).toInt + 1 := by rw [ex, tx_add (by rw [t1]; omega) (by rw [t1]; omega), t1]
  exact ⟨e, by show (-1 : Int) ≤ _; omega, by show _ ≤ (150 : Int); omega⟩
theorem wb_ix {h : Hp_} (I : Iv h) {c : Nat} (g : Hs h c) : (150 * h_i h 212 c + h_i h 213 c).toNatClampNeg = 150 * nB h c + nS h c ∧ vp_in (150 * h_i h 212 c + h_i h 213 c) 1800 := by
  have t150 : (150 : Int32).toInt = 150 := rfl
  have bb := dp_rg I 212 c (show tfa 212 = some (0, 11) by decide +kernel)
  have b0 : 0 ≤ (h_i h 212 c).toInt := bb.1
  have b1 : (h_i h 212 c).toInt ≤ 11 := bb.2
  have zz := dp_rg I 227 (nB h c) (show tfa 227 = some (0, 150) by decide +kernel)
  have nz := n_nat (x := h_i h 227 (nB h c)) zz.1
  have z1 : (h_i h 227 (nB h c)).toInt ≤ 150 := zz.2
  have nb := n_nat (x := h_i h 212 c) b0
  have ns := n_nat (x := h_i h 213 c) g.1
  have s0 := g.1
  have l : (h_i h 213 c).toNatClampNeg < (h_i h 227 (nB h c)).toNatClampNeg := g.2.1
  have m1 : (150 * h_i h 212 c).toInt = 150 * (h_i h 212 c).toInt := by rw [tx_mul (by rw [t150]; omega) (by rw [t150]; omega), t150]
  have m2 : (150 * h_i h 212 c + h_i h 213 c).toInt = 150 * (h_i h 212 c).toInt + (h_i h 213 c).toInt := by rw [tx_add (by omega) (by omega), m1]
  have nn := n_nat (x := 150 * h_i h 212 c + h_i h 213 c) (by omega)
  refine ⟨by show _ = 150 * (h_i h 212 c).toNatClampNeg + (h_i h 213 c).toNatClampNeg; omega, dp_in (lo := 0) (hi := 1799) ⟨by show (0 : Int) ≤ _; omega, by show _ ≤ (1799 : Int); omega⟩ (by decide) (by decide)⟩
theorem c_wakeBeat (d : Nat) {h : Hp_} (I : Iv h) (x1 x2 : Int32) (b1 : rin x1.toInt (0, 11)) (d1 : h_i h 208 x1.toNatClampNeg = 1) (g : Hs h x1.toNatClampNeg)
    (p1 : (h_i h 216 x1.toNatClampNeg).toInt + (mP (h_i h 228) (nB h x1.toNatClampNeg) (nZ h x1.toNatClampNeg - (nS h x1.toNatClampNeg + 1)) (nS h x1.toNatClampNeg + 1) : Int) ≤ 400) (p2 : ¬ x2 = 0 → (h_i h 216 x1.toNatClampNeg).toInt + (mP (h_i h 228) (nB h x1.toNatClampNeg) (nZ h x1.toNatClampNeg - nS h x1.toNatClampNeg) (nS h x1.toNatClampNeg) : Int) ≤ 400) :
    Cv (m_X12_wakeBeat (d + 8) 0 0) [.ref 1, .int x1, .int x2] h (fun h' => Iv h' ∧ Mo x1.toNatClampNeg h h' ∧ Jm h' x1.toNatClampNeg) := by
  have v1 := dp_in b1 (n := 12) (by decide) (by decide)
  obtain ⟨ix, vi⟩ := wb_ix I g
  have go : ∀ (h2 : Hp_) (x : Int32), Iv h2 → Mo x1.toNatClampNeg h h2 → h_i h2 208 x1.toNatClampNeg = 1 → h_i h2 212 x1.toNatClampNeg = h_i h 212 x1.toNatClampNeg → h_i h2 213 x1.toNatClampNeg = h_i h 213 x1.toNatClampNeg → h_i h2 210 x1.toNatClampNeg = h_i h 210 x1.toNatClampNeg → (h_i h2 216 x1.toNatClampNeg).toInt + (mP (h_i h 228) (nB h x1.toNatClampNeg) (nZ h x1.toNatClampNeg - (nS h x1.toNatClampNeg + 1)) (nS h x1.toNatClampNeg + 1) : Int) ≤ 400 → x = h_i h2 213 x1.toNatClampNeg + 1 →
      Cv (m_X12_goOn (d + 3) 0 0) [.ref 1, .int x1] (h_im h2 213 x1.toNatClampNeg x) (fun h' => Wf h' ∧ (Iv h' ∧ Mo x1.toNatClampNeg h h' ∧ Jm h' x1.toNatClampNeg)) := by
    intro h2 x I2 M2 e1 e2 e3 e4 e5 ex
    rw [e3] at ex
    obtain ⟨exi, exr⟩ := st_in I g ex
    have M3 : Mo x1.toNatClampNeg h (h_im h2 213 x1.toNatClampNeg x) := M2.im (by decide) (fun _ => rfl)
    have G3 : Gs (h_im h2 213 x1.toNatClampNeg x) x1.toNatClampNeg := Gs_m g M3 (by rw [im_ne (by decide)]; exact e2) im_at (by rw [im_ne (by decide)]; exact e4) exi (by rw [im_ne (by decide)]; exact e5)
    have f1 : h_i (h_im h2 213 x1.toNatClampNeg x) 208 x1.toNatClampNeg = 1 := by rw [im_ne (by decide)]; exact e1
    exact Cv.mono (c_goOn d (i213 I2 _ exr) x1 b1 (fun n => absurd f1 n) (fun _ => G3)) (fun h' q => ⟨q.1.1, q.1, M3.tr q.2.1, q.2.2⟩)
  have tr := t_X12_wakeBeat d h I.1 x1 x2 (fun h' => Iv h' ∧ Mo x1.toNatClampNeg h h' ∧ Jm h' x1.toNatClampNeg)
  rw [ix] at tr
  have g0 := go h _ I (Mo.rf _ _) d1 rfl rfl rfl p1 rfl
  refine tr ⟨v1, v1, fun _ => ⟨vi, fun _ => ⟨v1, v1, g0⟩, fun _ => ?_⟩, fun x2n => ⟨vi, fun _ => ⟨v1, v1, g0⟩, fun w2 => ⟨vi, ?_⟩⟩⟩
  · refine Ct.mono (hc_X12_see (d + 1) [.int x1, .ref 1] h ⟨⟨x1, rfl, b1, fun _ y => (nomatch y)⟩, rfl, trivial⟩ I (fun _ y => (nomatch y))) (fun v h2 k => ?_)
    obtain ⟨I2, F2, _, ev⟩ := k
    have S2 : So x1.toNatClampNeg h h2 := So.fr F2 (by decide +kernel)
    refine ⟨ev, I2.1, v1, v1, go h2 _ I2 (Mo.fr F2 (by decide +kernel)) (by rw [S2.1]; exact d1) S2.2.1 S2.2.2.1 (fr_i F2 (a := 210) (by decide +kernel) _) (by rw [S2.2.2.2]; exact p1) rfl⟩
  · have q2 := p2 x2n
    rw [mP_s g.2.1, if_pos w2] at q2
    refine Ci.mono (c_comes d I x1 _ b1 (by omega)) (fun r h2 C => ⟨C.1.1, fun _ => ⟨v1, v1, go h2 _ C.1 C.2.1 (by rw [C.2.2.1.1]; exact d1) C.2.2.1.2.1 C.2.2.1.2.2.1 C.2.2.1.2.2.2 (by rw [C.2.2.2]; omega) rfl⟩, fun _ => ⟨C.1, C.2.1, ?_⟩⟩)
    have f2 := C.2.2.1.2.1
    have f3 := C.2.2.1.2.2.1
    have f4 : h_i h2 210 x1.toNatClampNeg = -1 := by rw [C.2.2.1.2.2.2]; exact g.2.2.2
    have ez : nZ h2 x1.toNatClampNeg = nZ h x1.toNatClampNeg := by show (h_i h2 227 (h_i h2 212 x1.toNatClampNeg).toNatClampNeg).toNatClampNeg = _; rw [f2, C.2.1.2.1]
    have es : nS h2 x1.toNatClampNeg = nS h x1.toNatClampNeg := by show (h_i h2 213 x1.toNatClampNeg).toNatClampNeg = _; rw [f3]
    have eb : nB h2 x1.toNatClampNeg = nB h x1.toNatClampNeg := by show (h_i h2 212 x1.toNatClampNeg).toNatClampNeg = _; rw [f2]
    refine ⟨fun _ => f4, fun _ => ?_⟩
    rw [ez, es, eb, f2, f3, C.2.1.wh, C.2.1.b42, C.2.2.2]
    exact ⟨g.1, g.2.1, g.2.2.1, by omega, fun z => absurd f4 z⟩
theorem i248 {h : Hp_} (I : Iv h) (k : Nat) : Iv (h_im h 248 k (vp_nar .boolean 1)) := I.im (by rw [tfa_tf (show tfa 248 = some (0, 1) by decide +kernel)]; exact ⟨by decide, by decide⟩) (jw_jr (by decide) (by decide) _)
/-- the same man, the same account -/
theorem Jm_s {c : Nat} {h h' : Hp_} (m : Mo c h h') (o : So c h h') (e : h_i h' 210 c = h_i h 210 c) (j : Jm h c) : Jm h' c := by
  obtain ⟨_, ez, es, eb⟩ := Gs_f m o
  unfold Jm
  rw [ez, es, eb, o.1, o.2.1, o.2.2.1, o.2.2.2, m.wh, m.b42, e]
  exact j
theorem c_wake (d : Nat) {h : Hp_} (I : Iv h) (x1 : Int32) (b1 : rin x1.toInt (0, 11)) (j : Jm h x1.toNatClampNeg) : Cv (m_X12_wake (d + 9) 0 0) [.ref 1, .int x1] h (fun h' => Iv h' ∧ Mo x1.toNatClampNeg h h' ∧ Jm h' x1.toNatClampNeg) := by
  have v1 := dp_in b1 (n := 12) (by decide) (by decide)
  have fin : ∀ (s0 : Int32), (s0 = 0 → h_i h 210 x1.toNatClampNeg = -1) → (¬ s0 = 0 → ¬ h_i h 210 x1.toNatClampNeg = -1) → AW (m_X12_wake (d + 9) 0 0) 0 0 29 [(0, .ref 1), (1, .int x1)] [.int s0] h (kV (fun h' => Iv h' ∧ Mo x1.toNatClampNeg h h' ∧ Jm h' x1.toNatClampNeg)) := by
    intro s0 z0 z1
    have gb := dp_rg I 210 x1.toNatClampNeg (show tfa 210 = some (-1, 15) by decide +kernel)
    have IA := i211 I x1.toNatClampNeg (-1)
    have MA : Mo x1.toNatClampNeg h (h_im h 211 x1.toNatClampNeg (-1)) := (Mo.rf _ _).im (by decide) (fun y => absurd y (by decide))
    have SA : So x1.toNatClampNeg h (h_im h 211 x1.toNatClampNeg (-1)) := (So.rf _ _).im (by decide)
    have IB := i211 (i210 (i209 I x1.toNatClampNeg gb) x1.toNatClampNeg m1_in) x1.toNatClampNeg (-1)
    have MB : Mo x1.toNatClampNeg h (h_im (h_im (h_im h 209 x1.toNatClampNeg (h_i h 210 x1.toNatClampNeg)) 210 x1.toNatClampNeg (-1)) 211 x1.toNatClampNeg (-1)) := (((Mo.rf _ _).im (by decide) (fun y => absurd y (by decide))).im (by decide) (fun _ => rfl)).im (by decide) (fun y => absurd y (by decide))
    have SB : So x1.toNatClampNeg h (h_im (h_im (h_im h 209 x1.toNatClampNeg (h_i h 210 x1.toNatClampNeg)) 210 x1.toNatClampNeg (-1)) 211 x1.toNatClampNeg (-1)) := (((So.rf _ _).im (by decide)).im (by decide)).im (by decide)
    have gB : h_i (h_im (h_im (h_im h 209 x1.toNatClampNeg (h_i h 210 x1.toNatClampNeg)) 210 x1.toNatClampNeg (-1)) 211 x1.toNatClampNeg (-1)) 210 x1.toNatClampNeg = -1 := by rw [im_ne (by decide), im_at]
    have gA : h_i (h_im h 211 x1.toNatClampNeg (-1)) 210 x1.toNatClampNeg = h_i h 210 x1.toNatClampNeg := im_ne (by decide)
    have wrap : ∀ {y : MethodName} {cc : ByteArray} {nL : Nat} {ret : Option FieldType} {R : Room} {vs : List Value} {h2 : Hp_}, Mo x1.toNatClampNeg h h2 → Cv (fun _ _ _ => True, y, cc, nL, ret, R) vs h2 (fun h' => Iv h' ∧ Mo x1.toNatClampNeg h2 h' ∧ Jd h' x1.toNatClampNeg) → Cv (fun _ _ _ => True, y, cc, nL, ret, R) vs h2 (fun h' => Wf h' ∧ (Iv h' ∧ Mo x1.toNatClampNeg h h' ∧ Jm h' x1.toNatClampNeg)) := fun M2 C => Cv.mono C (fun h' q => ⟨q.1.1, q.1, M2.tr q.2.1, q.2.2.jm⟩)
    have wfree : ∀ {h2 : Hp_}, Iv h2 → Mo x1.toNatClampNeg h h2 → Cv (m_X12_free (d + 0) 0 0) [.ref 1, .int x1] h2 (fun h' => Wf h' ∧ (Iv h' ∧ Mo x1.toNatClampNeg h h' ∧ Jm h' x1.toNatClampNeg)) := fun I2 M2 => Cv.mono (c_free d I2 x1 b1) (fun h' q => ⟨q.1.1, q.1, M2.tr q.2.1, Jd.jm ⟨by rw [q.2.2.1]; decide, fun _ => q.2.2.2⟩⟩)
    have bt : ∀ {h2 : Hp_}, Iv h2 → Mo x1.toNatClampNeg h h2 → So x1.toNatClampNeg h h2 → h_i h2 210 x1.toNatClampNeg = -1 → h_i h 208 x1.toNatClampNeg = 1 → Cv (m_X12_wakeBeat (d + 8) 0 0) [.ref 1, .int x1, .int s0] h2 (fun h' => Wf h' ∧ (Iv h' ∧ Mo x1.toNatClampNeg h h' ∧ Jm h' x1.toNatClampNeg)) := by
      intro h2 I2 M2 S2 e2 d1
      obtain ⟨j1, j2, j3, j4, j5⟩ := j.2 d1
      obtain ⟨_, ez, es, eb⟩ := Gs_f M2 S2
      refine Cv.mono (c_wakeBeat d I2 x1 s0 b1 (by rw [S2.1]; exact d1) ⟨by rw [S2.2.2.1]; exact j1, by rw [es, ez]; exact j2, by rw [S2.2.1, M2.b42]; exact j3, e2⟩ ?_ (fun z => ?_)) (fun h' q => ⟨q.1.1, q.1, M2.tr q.2.1, q.2.2⟩)
      · rw [ez, es, eb, S2.2.2.2, M2.wh]; exact j4
      · rw [ez, es, eb, S2.2.2.2, M2.wh]; exact j5 (z1 z)
    refine t_X12_wake_29 d h I.1 x1 s0 _ ⟨fun e0 => ⟨v1, v1, fun n2 => ⟨v1, fun n3 => ⟨v1, fun n1 => ⟨IA, MA, Jm_s MA SA gA j⟩, fun d1 => bt IA MA SA (by rw [gA]; exact z0 e0) d1⟩, fun d3 => ⟨fun n => absurd e0 n, fun _ => wrap MA (c_goHome d IA x1 b1)⟩⟩, fun _ => wfree IA MA⟩, fun n0 => ⟨v1, v1, v1, v1, v1, fun n2 => ⟨v1, fun n3 => ⟨v1, fun n1 => ⟨IB, MB, ⟨fun _ => gB, fun z => absurd (by rw [← SB.1]; exact z) n1⟩⟩, fun d1 => bt IB MB SB gB d1⟩, fun d3 => ⟨fun _ => ⟨v1, v1, fun _ => ⟨v1, ?_⟩, fun _ => ⟨v1, fun _ => ⟨v1, ?_⟩, fun _ => ?_⟩⟩, fun e0 => absurd e0 n0⟩⟩, fun _ => wfree IB MB⟩⟩
    · exact wrap (MB.im (by decide) (fun y => absurd y (by decide))) (c_goDrawn d (i248 IB _) x1 b1 (by rw [im_ne (by decide), SB.1, d3]; exact ⟨by decide, by decide⟩))
    · exact wrap (MB.im (by decide) (fun y => absurd y (by decide))) (c_goDrawn d (i248 IB _) x1 b1 (by rw [im_ne (by decide), SB.1, d3]; exact ⟨by decide, by decide⟩))
    · exact wrap MB (c_stay d IB x1 b1 (by rw [SB.1, d3]; exact ⟨by decide, by decide⟩))
  exact t_X12_wake d h I.1 x1 _ ⟨v1, fun _ => ⟨v1, fun e => fin 0 (fun _ => e) (fun n => absurd rfl n), fun n => fin 1 (fun z => absurd z (by decide)) (fun _ => n)⟩, fun _ => ⟨I, Mo.rf _ _, j⟩⟩
