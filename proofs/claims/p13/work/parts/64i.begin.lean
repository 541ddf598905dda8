/-! begin of the reference -/
theorem Mo.im1 {c : Nat} {h0 h : Hp_} {k : Nat} {x : Int32} (m : Mo c h0 h) (hk0 : ¬ (k = 0 ∨ k = 7 ∨ k = 42) ∧ inw wsR 1 k = true) : Mo c h0 (h_im h 1 k x) := by
  have hk := hk0.1
  refine ⟨fun r hr j hj => ?_, fun j => ?_, fun j => ?_, fun j hj => ?_, m.2.2.2.2.im hk0.2⟩
  · rw [im_ne (fun e => by rw [e] at hr; exact absurd hr (by decide))]; exact m.1 r hr j hj
  · rw [im_ne (by decide)]; exact m.2.1 j
  · rw [im_ne (by decide)]; exact m.2.2.1 j
  · rw [h_i_im, if_neg (fun e => hk (by rw [← e.2]; exact hj))]; exact m.2.2.2.1 j hj
theorem mP_le {wh : Nat → Int32} {b : Nat} : ∀ {f s : Nat}, mP wh b f s ≤ f
  | 0, _ => Nat.le_refl _
  | f + 1, s => by
    have := mP_le (wh := wh) (b := b) (f := f) (s := s + 1)
    show (if wh (150 * b + s) = 2 then 1 else 0) + mP wh b f (s + 1) ≤ f + 1
    split <;> omega
theorem bt_ix {h : Hp_} (I : Iv h) {x : Int32} (bx : rin x.toInt (0, 11)) {s : Nat} {y : Int32} (ey : y.toInt = 150 * x.toInt + s) (hs : s ≤ 150) : (150 * x + h_i h 227 x.toNatClampNeg).toInt = 150 * x.toInt + ((h_i h 227 x.toNatClampNeg).toNatClampNeg : Int) ∧ (h_i h 227 x.toNatClampNeg).toNatClampNeg ≤ 150 ∧ y.toNatClampNeg = 150 * x.toNatClampNeg + s := by
  have t150 : (150 : Int32).toInt = 150 := rfl
  have c0 : 0 ≤ x.toInt := bx.1
  have c1 : x.toInt ≤ 11 := bx.2
  have zz := dp_rg I 227 x.toNatClampNeg (show tfa 227 = some (0, 150) by decide +kernel)
  have nz := n_nat (x := h_i h 227 x.toNatClampNeg) zz.1
  have z0 : 0 ≤ (h_i h 227 x.toNatClampNeg).toInt := zz.1
  have z1 : (h_i h 227 x.toNatClampNeg).toInt ≤ 150 := zz.2
  have m1 : (150 * x).toInt = 150 * x.toInt := by rw [tx_mul (by rw [t150]; omega) (by rw [t150]; omega), t150]
  have nx := n_nat (x := x) c0
  have ny := n_nat (x := y) (by omega)
  exact ⟨by rw [tx_add (by omega) (by omega), m1]; omega, by omega, by omega⟩
theorem c_pointsOf (d : Nat) {h : Hp_} (I : Iv h) (x1 : Int32) (b1 : rin x1.toInt (0, 11)) : Ci (m_X12_pointsOf (d + 0) 0 0) [.ref 1, .int x1] h (fun r h' => h' = h ∧ r.toInt = (mP (h_i h 228) x1.toNatClampNeg (h_i h 227 x1.toNatClampNeg).toNatClampNeg 0 : Int)) := by
  have v1 := dp_in b1 (n := 12) (by decide) (by decide)
  have c0 : 0 ≤ x1.toInt := b1.1
  have c1 : x1.toInt ≤ 11 := b1.2
  have t0 : (0 : Int32).toInt = 0 := rfl
  have t1 : (1 : Int32).toInt = 1 := rfl
  have t150 : (150 : Int32).toInt = 150 := rfl
  have m1 : (150 * x1).toInt = 150 * x1.toInt := by rw [tx_mul (by rw [t150]; omega) (by rw [t150]; omega), t150]
  have lp : ∀ (r s : Nat) (x2 x3 : Int32), x3.toInt = 150 * x1.toInt + s → s + r = (h_i h 227 x1.toNatClampNeg).toNatClampNeg → 0 ≤ x2.toInt → x2.toInt ≤ s → x2.toInt + (mP (h_i h 228) x1.toNatClampNeg r s : Int) = (mP (h_i h 228) x1.toNatClampNeg (h_i h 227 x1.toNatClampNeg).toNatClampNeg 0 : Int) →
      AW (m_X12_pointsOf (d + 0) 0 0) 0 0 8 [(0, .ref 1), (1, .int x1), (2, .int x2), (3, .int x3)] [] h (kI (fun r h' => h' = h ∧ r.toInt = (mP (h_i h 228) x1.toNatClampNeg (h_i h 227 x1.toNatClampNeg).toNatClampNeg 0 : Int))) := by
    intro r
    induction r with
    | zero =>
      intro s x2 x3 e3 es p2 q2 e2
      have zb := (bt_ix I b1 (s := 0) (y := 150 * x1) (by rw [m1]; omega) (by omega)).2.1
      obtain ⟨k1, k2, k3⟩ := bt_ix I b1 e3 (by omega)
      refine t_X12_pointsOf_8 d h I.1 x1 x2 x3 _ ⟨v1, fun _ => ⟨rfl, by rw [← e2]; show _ = x2.toInt + ((0 : Nat) : Int); omega⟩, fun z => ?_⟩
      have z := q_nle z
      omega
    | succ r ih =>
      intro s x2 x3 e3 es p2 q2 e2
      have zb := (bt_ix I b1 (s := 0) (y := 150 * x1) (by rw [m1]; omega) (by omega)).2.1
      obtain ⟨k1, k2, k3⟩ := bt_ix I b1 e3 (by omega)
      have ex : (x3 + 1).toInt = 150 * x1.toInt + ((s + 1 : Nat) : Int) := by rw [tx_add (by rw [t1]; omega) (by rw [t1]; omega), t1, e3]; omega
      have ea : (x2 + 0).toInt = x2.toInt := by rw [tx_add (by rw [t0]; omega) (by rw [t0]; omega), t0]; omega
      have eb : (x2 + 1).toInt = x2.toInt + 1 := tx_add (by rw [t1]; omega) (by rw [t1]; omega)
      have e2' : x2.toInt + (((if h_i h 228 (150 * x1.toNatClampNeg + s) = 2 then 1 else 0) + mP (h_i h 228) x1.toNatClampNeg r (s + 1) : Nat) : Int) = (mP (h_i h 228) x1.toNatClampNeg (h_i h 227 x1.toNatClampNeg).toNatClampNeg 0 : Int) := e2
      refine t_X12_pointsOf_8 d h I.1 x1 x2 x3 _ ⟨v1, fun z => ?_, fun _ => ⟨dp_in (lo := 0) (hi := 1799) ⟨by show (0 : Int) ≤ _; omega, by show _ ≤ (1799 : Int); omega⟩ (by decide) (by decide), fun z => ?_, fun z => ?_⟩⟩
      · have z := q_le.mp z
        omega
      · rw [k3] at z
        rw [if_neg z] at e2'
        exact ih (s + 1) (x2 + 0) (x3 + 1) ex (by omega) (by omega) (by omega) (by rw [ea]; omega)
      · rw [k3] at z
        rw [if_pos z] at e2'
        exact ih (s + 1) (x2 + 1) (x3 + 1) ex (by omega) (by omega) (by omega) (by rw [eb]; omega)
  exact t_X12_pointsOf d h x1 _ (lp (h_i h 227 x1.toNatClampNeg).toNatClampNeg 0 0 (150 * x1) (by rw [m1]; omega) (by omega) (by decide) (by decide) (by rw [t0]; omega))
