/-! the reference's reader: its small methods -/
def wzp : List Nat := [1033, 1034, 1035, 1036, 226999]
abbrev pa (h : Hp_) : Int := (h_i h 1 33).toInt
abbrev pz (h : Hp_) : Int := (h_i h 1 32).toInt
theorem pz_in {h : Hp_} (I : Iv h) : rin (pz h) (0, 160) := by
  have := I.2.1 1 32
  rwa [show tf 1 32 = (0, 160) by decide +kernel] at this
theorem pa_in {h : Hp_} (I : Iv h) : rin (pa h) (0, 180) := by
  have := I.2.1 1 33
  rwa [show tf 1 33 = (0, 180) by decide +kernel] at this
theorem i33 {h : Hp_} (I : Iv h) {x : Int32} (b : rin x.toInt (0, 180)) : Iv (h_im h 1 33 x) := I.im (by rw [show tf 1 33 = (0, 180) by decide +kernel]; exact b) (by decide)
theorem i34 {h : Hp_} (I : Iv h) (x : Int32) : Iv (h_im h 1 34 x) := I.im (by rw [show tf 1 34 = rtop by decide +kernel]; exact rtop_in _) (by decide)
theorem i36 {h : Hp_} (I : Iv h) {x : Int32} (b : rin x.toInt (0, 559)) : Iv (h_im h 1 36 x) := I.im (by rw [show tf 1 36 = (0, 559) by decide +kernel]; exact b) (by decide)
theorem i226 {h : Hp_} (I : Iv h) (k : Nat) (x : Int32) : Iv (h_im h 226 k x) := tr_ 226 (by decide +kernel) I k x (by decide) (by decide)
theorem f_ne {h : Hp_} {k j : Nat} {x : Int32} (n : j ≠ k) : h_i (h_im h 1 k x) 1 j = h_i h 1 j := by rw [h_i_im, if_neg (fun e => n e.2)]
/-- what look leaves: only the place may have moved on, over blanks -/
def Lk (h : Hp_) (r : Int32) (h' : Hp_) : Prop := Iv h' ∧ Fr [1033] h h' ∧ pa h ≤ pa h' ∧ (pa h' ≤ pa h ∨ pa h' ≤ pz h) ∧ ((r = -1 ∧ pz h ≤ pa h') ∨ (pa h' < pz h ∧ r = h_i h 225 (h_i h' 1 33).toNatClampNeg))
theorem c_look (d : Nat) {h : Hp_} (I : Iv h) : Ci (m_X12_look (d + 0) 0 0) [.ref 1] h (fun r h' => Lk h r h') := by
  have t1 : (1 : Int32).toInt = 1 := rfl
  have lp : ∀ (q : Nat) (h2 : Hp_), Iv h2 → Fr [1033] h h2 → pa h ≤ pa h2 → (pa h2 ≤ pa h ∨ pa h2 ≤ pz h) → pz h - pa h2 ≤ q → AW (m_X12_look (d + 0) 0 0) 0 0 0 [(0, .ref 1)] [] h2 (kI (fun r h' => Lk h r h')) := by
    intro q
    induction q with
    | zero =>
      intro h2 I2 F2 l1 l2 m
      have ez : h_i h2 1 32 = h_i h 1 32 := (F2.2 1 32 (by decide +kernel)).1
      have fin : Lk h (-1) h2 := ⟨I2, F2, l1, l2, Or.inl ⟨rfl, by omega⟩⟩
      refine t_X12_look_0 d h2 I2.1 _ ⟨fun y => ⟨fun _ => fin, fun z => absurd y z⟩, fun z => ?_⟩
      rw [ez] at z
      have z := q_nle z
      have m' : (h_i h 1 32).toInt - (h_i h2 1 33).toInt ≤ 0 := m
      omega
    | succ q ih =>
      intro h2 I2 F2 l1 l2 m
      have ez : h_i h2 1 32 = h_i h 1 32 := (F2.2 1 32 (by decide +kernel)).1
      have et : ∀ k, h_i h2 225 k = h_i h 225 k := fun k => fr_i F2 (by decide +kernel) k
      have p0 : 0 ≤ (h_i h2 1 33).toInt := (pa_in I2).1
      have z1 : (h_i h 1 32).toInt ≤ 160 := (pz_in I).2
      have m' : (h_i h 1 32).toInt - (h_i h2 1 33).toInt ≤ (q + 1 : Nat) := m
      have fin1 : h_i h2 1 32 ≤ h_i h2 1 33 → Lk h (-1) h2 := fun y => ⟨I2, F2, l1, l2, Or.inl ⟨rfl, by rw [ez] at y; exact q_le.mp y⟩⟩
      have fin2 : ¬ h_i h2 1 32 ≤ h_i h2 1 33 → Lk h (h_i h2 225 (h_i h2 1 33).toNatClampNeg) h2 := fun y => ⟨I2, F2, l1, l2, Or.inr ⟨by rw [ez] at y; exact q_nle y, et _⟩⟩
      refine t_X12_look_0 d h2 I2.1 _ ⟨fun y => ⟨fun _ => fin1 y, fun z => absurd y z⟩, fun z => ?_⟩
      have z' := z
      rw [ez] at z'
      have z' := q_nle z'
      have v : vp_in (h_i h2 1 33) 160 := dp_in (lo := 0) (hi := 159) ⟨p0, by show _ ≤ (159 : Int); omega⟩ (by decide) (by decide)
      refine ⟨v, fun _ => ⟨fun y => absurd y z, fun _ => ⟨v, fin2 z⟩⟩, fun _ => ?_⟩
      have ex : (h_i h2 1 33 + 1).toInt = (h_i h2 1 33).toInt + 1 := tx_add (by rw [t1]; omega) (by rw [t1]; omega)
      have l1' : (h_i h 1 33).toInt ≤ (h_i h2 1 33).toInt := l1
      refine ih _ (i33 I2 ⟨by show (0 : Int) ≤ _; omega, by show _ ≤ (180 : Int); omega⟩) (F2.im (by decide +kernel)) ?_ ?_ ?_
      · show (h_i h 1 33).toInt ≤ (h_i (h_im h2 1 33 _) 1 33).toInt
        rw [im_at]; omega
      · right
        show (h_i (h_im h2 1 33 _) 1 33).toInt ≤ (h_i h 1 32).toInt
        rw [im_at]; omega
      · show (h_i h 1 32).toInt - (h_i (h_im h2 1 33 _) 1 33).toInt ≤ _
        rw [im_at]; omega
  refine Ct.of (fun _ _ _ => trivial) rfl (Nat.le_of_ble_eq_true rfl) ?_
  have z0 : 0 ≤ (h_i h 1 32).toInt := (pz_in I).1
  have p0 : 0 ≤ (h_i h 1 33).toInt := (pa_in I).1
  have z1 : (h_i h 1 32).toInt ≤ 160 := (pz_in I).2
  exact lp 160 h I (Fr.rf _ _) (Int.le_refl _) (Or.inl (Int.le_refl _)) (by show (h_i h 1 32).toInt - (h_i h 1 33).toInt ≤ 160; omega)
theorem c_bad (d : Nat) {h : Hp_} (I : Iv h) : Cv (m_X12_bad (d + 0) 0 0) [.ref 1] h (fun h' => Iv h' ∧ Fr [1034] h h' ∧ ¬ h_i h' 1 34 = -1) := by
  have p0 : 0 ≤ (h_i h 1 33).toInt := (pa_in I).1
  refine t_X12_bad d h I.1 _ ⟨fun z => ⟨i34 I _, (Fr.rf _ _).im (by decide +kernel), by rw [im_at]; exact z⟩, fun _ => ⟨i34 I _, (Fr.rf _ _).im (by decide +kernel), ?_⟩⟩
  rw [im_at]
  intro e
  rw [e] at p0
  exact absurd p0 (by decide)
theorem c_say (d : Nat) {h : Hp_} (I : Iv h) (x : Int32) (l : (h_i h 1 36).toInt ≤ 558) : Cv (m_X12_say (d + 0) 0 0) [.ref 1, .int x] h (fun h' => Iv h' ∧ Fr [1036, 226999] h h' ∧ (h_i h' 1 36).toInt = (h_i h 1 36).toInt + 1 ∧ h_i h' 226 (h_i h 1 36).toNatClampNeg = x ∧ ∀ k, k ≠ (h_i h 1 36).toNatClampNeg → h_i h' 226 k = h_i h 226 k) := by
  have t1 : (1 : Int32).toInt = 1 := rfl
  have sr := I.2.1 1 36
  rw [show tf 1 36 = (0, 559) by decide +kernel] at sr
  have s0 : 0 ≤ (h_i h 1 36).toInt := sr.1
  have ex : (h_i h 1 36 + 1).toInt = (h_i h 1 36).toInt + 1 := tx_add (by rw [t1]; omega) (by rw [t1]; omega)
  refine t_X12_say d h I.1 x _ ⟨dp_in (lo := 0) (hi := 559) ⟨s0, by show _ ≤ (559 : Int); omega⟩ (by decide) (by decide), i36 (i226 I _ _) ⟨by show (0 : Int) ≤ _; omega, by show _ ≤ (559 : Int); omega⟩, ((Fr.rf _ _).im (inw_row (by decide +kernel) _)).im (by decide +kernel), by rw [im_at]; exact ex, by rw [im_ne (by decide), im_at], fun k hk => ?_⟩
  rw [im_ne (by decide), h_i_im, if_neg (fun e => hk e.2)]
