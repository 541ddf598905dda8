/-! goOn of the reference -/
theorem go_ix {h : Hp_} (I : Iv h) {c : Nat} (g : Gs h c) (l : nS h c < nZ h c) : (150 * h_i h 212 c + h_i h 213 c).toInt = 150 * (nB h c : Int) + (nS h c : Int) ∧ (150 * h_i h 212 c + h_i h 213 c).toNatClampNeg = 150 * nB h c + nS h c ∧ vp_in (150 * h_i h 212 c + h_i h 213 c) 1800 := by
  have t150 : (150 : Int32).toInt = 150 := rfl
  have bb := dp_rg I 212 c (show tfa 212 = some (0, 11) by decide +kernel)
  have b0 : 0 ≤ (h_i h 212 c).toInt := bb.1
  have b1 : (h_i h 212 c).toInt ≤ 11 := bb.2
  have zz := dp_rg I 227 (nB h c) (show tfa 227 = some (0, 150) by decide +kernel)
  have z0 : 0 ≤ (h_i h 227 (nB h c)).toInt := zz.1
  have z1 : (h_i h 227 (nB h c)).toInt ≤ 150 := zz.2
  have nb := n_nat (x := h_i h 212 c) b0
  have ns := n_nat (x := h_i h 213 c) g.1
  have nz := n_nat (x := h_i h 227 (nB h c)) z0
  have m1 : (150 * h_i h 212 c).toInt = 150 * (h_i h 212 c).toInt := by rw [tx_mul (by rw [t150]; omega) (by rw [t150]; omega), t150]
  have l' : (h_i h 213 c).toNatClampNeg < (h_i h 227 (nB h c)).toNatClampNeg := l
  have m2 : (150 * h_i h 212 c + h_i h 213 c).toInt = 150 * (h_i h 212 c).toInt + (h_i h 213 c).toInt := by rw [tx_add (by omega) (by omega), m1]
  have e : (150 * h_i h 212 c + h_i h 213 c).toInt = 150 * (nB h c : Int) + (nS h c : Int) := by rw [m2]; show _ = 150 * ((h_i h 212 c).toNatClampNeg : Int) + ((h_i h 213 c).toNatClampNeg : Int); omega
  have nn := n_nat (x := 150 * h_i h 212 c + h_i h 213 c) (by omega)
  refine ⟨e, by omega, dp_in (lo := 0) (hi := 1799) ⟨by show (0 : Int) ≤ _; omega, by show _ ≤ (1799 : Int); omega⟩ (by decide) (by decide)⟩
theorem go_loop (d : Nat) (h0 : Hp_) (x1 : Int32) (b1 : rin x1.toInt (0, 11)) : ∀ (r : Nat) (h : Hp_), Iv h → Mo x1.toNatClampNeg h0 h → (¬ h_i h 208 x1.toNatClampNeg = 1 → Jd h x1.toNatClampNeg) → (h_i h 208 x1.toNatClampNeg = 1 → Gs h x1.toNatClampNeg ∧ nZ h x1.toNatClampNeg - nS h x1.toNatClampNeg ≤ r) →
    AW (m_X12_goOn (d + 3) 0 0) 0 0 0 [(0, .ref 1), (1, .int x1)] [] h (kV (fun h' => Iv h' ∧ Mo x1.toNatClampNeg h0 h' ∧ Jm h' x1.toNatClampNeg)) := by
  have v1 := dp_in b1 (n := 12) (by decide) (by decide)
  have t1 : (1 : Int32).toInt = 1 := rfl
  generalize hc : x1.toNatClampNeg = c
  intro r
  induction r with
  | zero =>
    intro h I M nd yd
    have hB := dp_in (dp_rg I 212 c (show tfa 212 = some (0, 11) by decide +kernel)) (n := 12) (by decide) (by decide)
    have tr := t_X12_goOn_0 d h I.1 x1 (fun h' => Iv h' ∧ Mo c h0 h' ∧ Jm h' c)
    rw [hc] at tr
    refine tr ⟨v1, fun n => ⟨I, M, (nd n).jm⟩, fun d1 => ⟨v1, v1, hB, fun ne => ?_, fun _ => ?_⟩⟩
    · obtain ⟨g, gr⟩ := yd d1
      exfalso
      apply ne
      have zz := dp_rg I 227 (nB h c) (show tfa 227 = some (0, 150) by decide +kernel)
      have a := n_nat (x := h_i h 227 (nB h c)) zz.1
      have b := n_nat (x := h_i h 213 c) g.1
      have l1 : (h_i h 213 c).toNatClampNeg ≤ (h_i h 227 (nB h c)).toNatClampNeg := g.2.1
      have l2 : (h_i h 227 (nB h c)).toNatClampNeg - (h_i h 213 c).toNatClampNeg ≤ 0 := gr
      exact Int32.toInt_inj.mp (by show (h_i h 213 c).toInt = (h_i h 227 (nB h c)).toInt; omega)
    · have gh := c_goHome d I x1 b1
      rw [hc] at gh
      exact Cv.mono gh (fun h' q => ⟨q.1.1, q.1, M.tr q.2.1, q.2.2.jm⟩)
  | succ r ih =>
    intro h I M nd yd
    have hB := dp_in (dp_rg I 212 c (show tfa 212 = some (0, 11) by decide +kernel)) (n := 12) (by decide) (by decide)
    have tr := t_X12_goOn_0 d h I.1 x1 (fun h' => Iv h' ∧ Mo c h0 h' ∧ Jm h' c)
    rw [hc] at tr
    have gh := c_goHome d I x1 b1
    rw [hc] at gh
    refine tr ⟨v1, fun n => ⟨I, M, (nd n).jm⟩, fun d1 => ⟨v1, v1, hB, fun ne => ?_, fun _ => Cv.mono gh (fun h' q => ⟨q.1.1, q.1, M.tr q.2.1, q.2.2.jm⟩)⟩⟩
    obtain ⟨g, gr⟩ := yd d1
    have zz := dp_rg I 227 (nB h c) (show tfa 227 = some (0, 150) by decide +kernel)
    have nz := n_nat (x := h_i h 227 (nB h c)) zz.1
    have ns := n_nat (x := h_i h 213 c) g.1
    have z1 : (h_i h 227 (nB h c)).toInt ≤ 150 := zz.2
    have l : nS h c < nZ h c := by
      rcases Nat.lt_or_ge (nS h c) (nZ h c) with y | y
      · exact y
      · exfalso
        apply ne
        have l1 : (h_i h 213 c).toNatClampNeg ≤ (h_i h 227 (nB h c)).toNatClampNeg := g.2.1
        have y' : (h_i h 227 (nB h c)).toNatClampNeg ≤ (h_i h 213 c).toNatClampNeg := y
        exact Int32.toInt_inj.mp (by show (h_i h 213 c).toInt = (h_i h 227 (nB h c)).toInt; omega)
    have l' : (h_i h 213 c).toNatClampNeg < (h_i h 227 (nB h c)).toNatClampNeg := l
    obtain ⟨_, ix, vi⟩ := go_ix I g l
    rw [ix]
    have g4 := g.2.2.2.1
    rw [mP_s l] at g4
    have nx : ∀ (h2 : Hp_) (x : Int32), Iv h2 → Mo c h h2 → h_i h2 208 c = 1 → h_i h2 212 c = h_i h 212 c → h_i h2 213 c = h_i h 213 c → h_i h2 210 c = h_i h 210 c → (h_i h2 216 c).toInt ≤ (h_i h 216 c).toInt + (if h_i h 228 (150 * nB h c + nS h c) = 2 then 1 else 0 : Nat) → x = h_i h2 213 c + 1 →
        AW (m_X12_goOn (d + 3) 0 0) 0 0 0 [(0, .ref 1), (1, .int x1)] [] (h_im h2 213 c x) (kV (fun h' => Iv h' ∧ Mo c h0 h' ∧ Jm h' c)) := by
      intro h2 x I2 M2 e1 e2 e3 e4 e5 ex
      have exi : x.toInt = (h_i h 213 c).toInt + 1 := by rw [ex, e3, tx_add (by rw [t1]; omega) (by rw [t1]; omega), t1]
      have M3 : Mo c h (h_im h2 213 c x) := M2.im (by decide) (fun _ => rfl)
      obtain ⟨g3, s3, z3⟩ := Gs_n (x := x) I M3 (by rw [im_ne (by decide)]; exact e2) im_at (by rw [im_ne (by decide)]; exact e4) exi g l (by rw [im_ne (by decide)]; exact e5)
      refine ih _ (i213 I2 _ ⟨by show (-1 : Int) ≤ _; omega, by show _ ≤ (150 : Int); omega⟩) (M.tr M3) (fun n => absurd (by rw [im_ne (by decide)]; exact e1) n) (fun _ => ⟨g3, ?_⟩)
      rw [s3, z3]; omega
    have I1 := i211 I c (-1)
    have M1 : Mo c h (h_im h 211 c (-1)) := (Mo.rf _ _).im (by decide) (fun y => absurd y (by decide))
    have S1 : So c h (h_im h 211 c (-1)) := (So.rf _ _).im (by decide)
    have wkc : ¬ h_i h 228 (150 * nB h c + nS h c) = 1 → ∀ (q : Int32) (h2 : Hp_), Iv h2 → Fr wz_X12_walkOf (h_im h 211 c (-1)) h2 → (Mo c h h2 ∧ So c h h2 ∧ h_i h2 210 c = h_i h 210 c) := by
      intro _ q h2 I2 F2
      exact ⟨M1.tr (Mo.fr F2 (by decide +kernel)), S1.tr (So.fr F2 (by decide +kernel)), by rw [fr_i F2 (a := 210) (by decide +kernel), im_ne (by decide)]⟩
    have so : ∀ h2, Iv h2 → Mo c h h2 → So c h h2 → ¬ h_i h 228 (150 * nB h c + nS h c) = 1 → Cv (m_X12_setOut (d + 1) 0 0) [.ref 1, .int x1, .int (h_i h2 229 (150 * nB h c + nS h c))] h2 (fun h' => Wf h' ∧ (Iv h' ∧ Mo c h0 h' ∧ Jm h' c)) := by
      intro h2 I2 M2 S2 w
      have cs := c_setOut d I2 x1 (h_i h2 229 (150 * nB h c + nS h c)) b1 (I2.2.2.2.2.2.1 _ (by rw [M2.wh]; exact w))
      rw [hc] at cs
      exact Cv.mono cs (fun h' q => ⟨q.1.1, q.1, M.tr (M2.tr q.2.1), Gs_j (M2.tr q.2.1) (S2.tr q.2.2) d1 g l⟩)
    have cm : ∀ (h2 : Hp_) (x2 : Int32), Iv h2 → Mo c h h2 → So c h h2 → h_i h2 210 c = h_i h 210 c → h_i h 228 (150 * nB h c + nS h c) = 2 → Ci (m_X12_comes (d + 1) 0 0) [.ref 1, .int x1, .int x2] h2 (fun q h' => Wf h' ∧ ((q = 0 → vp_in x1 12 ∧ (vp_in x1 12 ∧ (AW (m_X12_goOn (d + 3) 0 0) 0 0 0 [(0, .ref 1), (1, .int x1)] [] (h_im h' 213 c ((h_i h' 213 c) + 1)) (kV (fun h' => Iv h' ∧ Mo c h0 h' ∧ Jm h' c))))) ∧ (¬ q = 0 → (Iv h' ∧ Mo c h0 h' ∧ Jm h' c)))) := by
      intro h2 x2 I2 M2 S2 e210 w
      rw [if_pos w] at g4
      have cc := c_comes d I2 x1 x2 b1 (by rw [hc, S2.2.2.2]; omega)
      rw [hc] at cc
      refine Ci.mono cc (fun q h' C => ⟨C.1.1, fun _ => ⟨v1, v1, nx h' _ C.1 (M2.tr C.2.1) ?_ ?_ ?_ ?_ ?_ rfl⟩, fun _ => ⟨C.1, M.tr (M2.tr C.2.1), ?_⟩⟩)
      · rw [C.2.2.1.1, S2.1]; exact d1
      · rw [C.2.2.1.2.1, S2.2.1]
      · rw [C.2.2.1.2.2.1, S2.2.2.1]
      · rw [C.2.2.1.2.2.2, e210]
      · rw [C.2.2.2, S2.2.2.2, if_pos w]; omega
      · have M' := M2.tr C.2.1
        have f1 : h_i h' 208 c = 1 := by rw [C.2.2.1.1, S2.1]; exact d1
        have f2 : h_i h' 212 c = h_i h 212 c := by rw [C.2.2.1.2.1, S2.2.1]
        have f3 : h_i h' 213 c = h_i h 213 c := by rw [C.2.2.1.2.2.1, S2.2.2.1]
        have f4 : h_i h' 210 c = -1 := by rw [C.2.2.1.2.2.2, e210]; exact g.2.2.2.2
        have ez : nZ h' c = nZ h c := by show (h_i h' 227 (h_i h' 212 c).toNatClampNeg).toNatClampNeg = _; rw [f2, M'.2.1]
        have es : nS h' c = nS h c := by show (h_i h' 213 c).toNatClampNeg = _; rw [f3]
        have eb : nB h' c = nB h c := by show (h_i h' 212 c).toNatClampNeg = _; rw [f2]
        refine ⟨fun _ => f4, fun _ => ?_⟩
        rw [ez, es, eb, f2, f3, M'.wh, M'.b42, C.2.2.2, S2.2.2.2]
        exact ⟨g.1, l, g.2.2.1, by omega, fun z => absurd f4 z⟩
    have ms : ∀ (h2 : Hp_), Iv h2 → Mo c h h2 → So c h h2 → h_i h2 210 c = h_i h 210 c → h_i h 228 (150 * nB h c + nS h c) = 2 → Cv (m_X12_miss (d + 0) 0 0) [.ref 1, .int (h_i h2 216 c), .int 2] h2 (fun h' => Wf h' ∧ (vp_in x1 12 ∧ (vp_in x1 12 ∧ (vp_in x1 12 ∧ (vp_in x1 12 ∧ (AW (m_X12_goOn (d + 3) 0 0) 0 0 0 [(0, .ref 1), (1, .int x1)] [] (h_im (h_im h' 216 c ((h_i h' 216 c) + 1)) 213 c ((h_i h' 213 c) + 1)) (kV (fun h' => Iv h' ∧ Mo c h0 h' ∧ Jm h' c)))))))) := by
      intro h2 I2 M2 S2 e210 w
      rw [if_pos w] at g4
      have r0 : 0 ≤ (h_i h 216 c).toInt := (rw_in I c).1
      refine Cv.mono (c_miss d I2 c _ 2 (by rw [S2.2.2.2]; exact ⟨r0, by show _ ≤ (399 : Int); omega⟩)) (fun h' q => ⟨q.1.1, v1, v1, v1, v1, ?_⟩)
      have e6 : (h_i h' 216 c + 1).toInt = (h_i h 216 c).toInt + 1 := by rw [q.2.2.1.2.2.2, S2.2.2.2, tx_add (by rw [t1]; omega) (by rw [t1]; omega), t1]
      refine nx _ _ (i216 q.1 _ ⟨by show (0 : Int) ≤ _; omega, by show _ ≤ (400 : Int); omega⟩) ((M2.tr q.2.1).im (by decide) (fun _ => rfl)) ?_ ?_ ?_ ?_ ?_ ?_
      · rw [im_ne (by decide), q.2.2.1.1, S2.1]; exact d1
      · rw [im_ne (by decide), q.2.2.1.2.1, S2.2.1]
      · rw [im_ne (by decide), q.2.2.1.2.2.1, S2.2.2.1]
      · rw [im_ne (by decide), q.2.2.2, e210]
      · rw [im_at, e6, if_pos w]; omega
      · rw [im_ne (by decide)]
    refine ⟨v1, v1, vi, v1, fun w0 => ⟨v1, vi, ?_⟩, fun nw0 => ⟨fun nw2 => ⟨fun _ => ⟨v1, i211 I1 _ _, M.tr (M1.im (by decide) (fun y => absurd y (by decide))), Gs_j (M1.im (by decide) (fun y => absurd y (by decide))) (S1.im (by decide)) d1 g l⟩, fun _ => ⟨vi, v1, i211 I1 _ _, M.tr (M1.im (by decide) (fun y => absurd y (by decide))), Gs_j (M1.im (by decide) (fun y => absurd y (by decide))) (S1.im (by decide)) d1 g l⟩⟩, fun w2 => ⟨v1, vi, ?_⟩⟩⟩
    · have n1 : ¬ h_i h 228 (150 * nB h c + nS h c) = 1 := by rw [w0]; decide
      have n2 : ¬ h_i h 228 (150 * nB h c + nS h c) = 2 := by rw [w0]; decide
      refine Ci.mono (c_walkOf d I1 _ _ (I.2.2.2.2.2.1 _ n1)) (fun q h2 k => ?_)
      obtain ⟨I2, F2, _⟩ := k
      obtain ⟨M2, S2, e210⟩ := wkc n1 q h2 I2 F2
      exact ⟨I2.1, fun _ => ⟨fun _ => ⟨fun _ => ⟨v1, v1, nx h2 _ I2 M2 (by rw [S2.1]; exact d1) S2.2.1 S2.2.2.1 e210 (by rw [S2.2.2.2]; omega) rfl⟩, fun y => absurd y n2⟩, fun y => absurd y n2⟩, fun _ => ⟨vi, so h2 I2 M2 S2 n1⟩⟩
    · have n1 : ¬ h_i h 228 (150 * nB h c + nS h c) = 1 := by rw [w2]; decide
      refine Ci.mono (c_walkOf d I1 _ _ (I.2.2.2.2.2.1 _ n1)) (fun q h2 k => ?_)
      obtain ⟨I2, F2, _⟩ := k
      obtain ⟨M2, S2, e210⟩ := wkc n1 q h2 I2 F2
      exact ⟨I2.1, fun _ => ⟨fun y => absurd w2 y, fun _ => ⟨fun _ => ⟨fun y => absurd w2 y, fun _ => ⟨vi, cm h2 _ I2 M2 S2 e210 w2⟩⟩, fun _ => ⟨v1, ms h2 I2 M2 S2 e210 w2⟩⟩⟩, fun _ => ⟨vi, so h2 I2 M2 S2 n1⟩⟩
theorem c_goOn (d : Nat) {h : Hp_} (I : Iv h) (x1 : Int32) (b1 : rin x1.toInt (0, 11)) (nd : ¬ h_i h 208 x1.toNatClampNeg = 1 → Jd h x1.toNatClampNeg) (yd : h_i h 208 x1.toNatClampNeg = 1 → Gs h x1.toNatClampNeg) : Cv (m_X12_goOn (d + 3) 0 0) [.ref 1, .int x1] h (fun h' => Iv h' ∧ Mo x1.toNatClampNeg h h' ∧ Jm h' x1.toNatClampNeg) := by
  refine Ct.of (fun _ _ _ => trivial) rfl (Nat.le_of_ble_eq_true rfl) ?_
  exact go_loop d h x1 b1 (nZ h x1.toNatClampNeg) h I (Mo.rf _ _) nd (fun z => ⟨yd z, by omega⟩)
