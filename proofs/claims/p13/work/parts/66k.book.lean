/-! book of the reference: twice the same pay, so that its lines have room -/
def bkR (P : Nat → Nat → Int32) (bk : Nat → Int32) (day : Nat) : Nat → Nat → Nat
  | 0, _ => 0
  | n + 1, c => (if P c day = bk (31 * c + day) then 0 else 1) + bkR P bk day n (c + 1)
def bkT (P : Nat → Nat → Int32) (bk : Nat → Int32) (M : Nat) : Nat → Nat → Nat
  | 0, _ => 0
  | n + 1, day => bkR P bk day M 0 + bkT P bk M n (day + 1)
theorem bkR_le {P : Nat → Nat → Int32} {bk : Nat → Int32} {day : Nat} : ∀ {n c : Nat}, bkR P bk day n c ≤ n
  | 0, _ => Nat.le_refl _
  | n + 1, c => by
    have := bkR_le (P := P) (bk := bk) (day := day) (n := n) (c := c + 1)
    show (if P c day = bk (31 * c + day) then 0 else 1) + bkR P bk day n (c + 1) ≤ n + 1
    split <;> omega
theorem bkT_le {P : Nat → Nat → Int32} {bk : Nat → Int32} {M : Nat} (hM : M ≤ 12) : ∀ {n day : Nat}, bkT P bk M n day ≤ 12 * n
  | 0, _ => Nat.le_refl _
  | n + 1, day => by
    have a := bkT_le (P := P) (bk := bk) hM (n := n) (day := day + 1)
    have b := bkR_le (P := P) (bk := bk) (day := day) (n := M) (c := 0)
    show bkR P bk day M 0 + bkT P bk M n (day + 1) ≤ 12 * (n + 1)
    omega
theorem ix31 {c day : Nat} (hc : c < 12) (hd : day < 31) : (31 * Int32.ofNat c + Int32.ofNat day).toNatClampNeg = 31 * c + day ∧ vp_in (31 * Int32.ofNat c + Int32.ofNat day) 372 := by
  have t31 : (31 : Int32).toInt = 31 := rfl
  have es := on_j (n := c) (by omega)
  have ek := on_j (n := day) (by omega)
  have m1 : (31 * Int32.ofNat c).toInt = 31 * (c : Int) := by rw [tx_mul (by rw [t31, es]; omega) (by rw [t31, es]; omega), t31, es]
  have m2 : (31 * Int32.ofNat c + Int32.ofNat day).toInt = 31 * (c : Int) + day := by rw [tx_add (by omega) (by omega), m1, ek]
  have nn := n_nat (x := 31 * Int32.ofNat c + Int32.ofNat day) (by omega)
  exact ⟨by omega, dp_in (lo := 0) (hi := 371) ⟨by show (0 : Int) ≤ _; omega, by show _ ≤ (371 : Int); omega⟩ (by decide) (by decide)⟩
/-- what is the same all through: the men, the days, the pay of each -/
def Bk (d : Nat) (h : Hp_) (M D : Nat) (P : Nat → Nat → Int32) : Prop := Iv h ∧ M ≤ 12 ∧ D ≤ 13 ∧ h_i h 1 7 = Int32.ofNat M ∧ h_i h 1 0 / 1440 = Int32.ofNat D ∧ ∀ c day, c < 12 → ∀ h2, Iv h2 → Fr wzE h h2 → Ci (m_X12_payOf (d + 7) 0 0) [.ref 1, .int (Int32.ofNat c), .int (Int32.ofNat day), .int (h_i h 1 0)] h2 (Dp (P c day) h2)
abbrev bK (h : Hp_) : Option Value → Hp_ → Prop := kI (fun _ h' => Iv h' ∧ Fr wzE h h')
/-- behind day and man the books are as they were -/
def Bo (h : Hp_) (day c : Nat) (h2 : Hp_) : Prop := Iv h2 ∧ Fr wzE h h2 ∧ ∀ c' day', c' < 12 → day' < 31 → (day < day' ∨ (day' = day ∧ c ≤ c')) → h_i h2 293 (31 * c' + day') = h_i h 293 (31 * c' + day')
theorem lines_in {h : Hp_} (I : Iv h) : rin (h_i h 1 127).toInt (0, 600) := by
  have := I.2.1 1 127
  rwa [show tf 1 127 = (0, 600) by decide +kernel] at this
theorem bk_100 (d : Nat) {h : Hp_} {M D : Nat} {P : Nat → Nat → Int32} (B : Bk d h M D P) (x1 : Int32) (day : Nat) (hd : day < D) (R : Nat)
    (O : ∀ h3, Bo h (day + 1) 0 h3 → (h_i h3 1 127).toInt + (R : Int) ≤ 600 → AW (m_X12_book (d + 8) 0 0) 0 0 86 [(0, .ref 1), (1, .int x1), (2, .int (Int32.ofNat (day + 1)))] [] h3 (bK h)) :
    ∀ (n c : Nat) (h2 : Hp_), c + n = M → Bo h day c h2 → (h_i h2 1 127).toInt + ((bkR P (h_i h 293) day n c + R : Nat) : Int) ≤ 600 → AW (m_X12_book (d + 8) 0 0) 0 0 100 [(0, .ref 1), (1, .int x1), (2, .int (Int32.ofNat day)), (3, .int (Int32.ofNat c))] [] h2 (bK h) := by
  obtain ⟨I, lM, lD, e7, eD, hP⟩ := B
  have oM := on_j (n := M) (by omega)
  have t1 : (1 : Int32).toInt = 1 := rfl
  intro n
  induction n with
  | zero =>
    intro c h2 e b m
    have oc := on_j (n := c) (by omega)
    refine t_X12_book_100 d h2 b.1.1 x1 _ _ _ ⟨fun _ => ?_, fun z => ?_⟩
    · rw [on_s (by omega)]
      refine O h2 ⟨b.1, b.2.1, fun c' day' h1 h2' o => b.2.2 c' day' h1 h2' ?_⟩ ?_
      · rcases o with u | u
        · exact Or.inl (by omega)
        · exact Or.inl (by omega)
      · have m' : (h_i h2 1 127).toInt + ((0 + R : Nat) : Int) ≤ 600 := m
        omega
    · rw [(b.2.1.2 1 7 (by decide +kernel)).1, e7] at z
      have z := q_nle z
      omega
  | succ n ih =>
    intro c h2 e b m
    have oc := on_j (n := c) (by omega)
    obtain ⟨jx, vx⟩ := ix31 (c := c) (day := day) (by omega) (by omega)
    have m' : (h_i h2 1 127).toInt + ((((if P c day = h_i h 293 (31 * c + day) then 0 else 1) + bkR P (h_i h 293) day n (c + 1)) + R : Nat) : Int) ≤ 600 := m
    refine t_X12_book_100 d h2 b.1.1 x1 _ _ _ ⟨fun z => ?_, fun _ => ?_⟩
    · rw [(b.2.1.2 1 7 (by decide +kernel)).1, e7] at z
      have z := q_le.mp z
      omega
    · rw [(b.2.1.2 1 0 (by decide +kernel)).1]
      refine Ci.mono (hP c day (by omega) h2 b.1 b.2.1) (fun r h3 k => ?_)
      obtain ⟨kr, I3, F3⟩ := k
      have F' : Fr wzE h h3 := b.2.1.tr (F3.more (by decide +kernel))
      have l3 : h_i h3 1 127 = h_i h2 1 127 := (F3.2 1 127 (by decide +kernel)).1
      have b3 : ∀ k, h_i h3 293 k = h_i h2 293 k := fun k => fr_i F3 (by decide +kernel) k
      have bc := b.2.2 c day (by omega) (by omega) (Or.inr ⟨rfl, Nat.le_refl _⟩)
      refine ⟨I3.1, vx, fun er => ?_, fun nr => ?_⟩
      · rw [jx, b3, bc, kr] at er
        rw [if_pos er] at m'
        rw [on_s (by omega)]
        refine ih (c + 1) h3 (by omega) ⟨I3, F', fun c' day' h1 h2' o => ?_⟩ (by rw [l3]; omega)
        rw [b3]
        refine b.2.2 c' day' h1 h2' ?_
        rcases o with u | u
        · exact Or.inl u
        · exact Or.inr ⟨u.1, by omega⟩
      · rw [jx, b3, bc, kr] at nr
        rw [if_neg nr] at m'
        have lr := lines_in I3
        have l0 : 0 ≤ (h_i h3 1 127).toInt := lr.1
        have l1 : (h_i h3 1 127).toInt ≤ 599 := by rw [l3]; omega
        have vl : vp_in (h_i h3 1 127) 600 := dp_in (lo := 0) (hi := 599) ⟨l0, by show _ ≤ (599 : Int); omega⟩ (by decide) (by decide)
        have ex : (h_i h3 1 127 + 1).toInt = (h_i h3 1 127).toInt + 1 := by rw [tx_add (by rw [t1]; omega) (by rw [t1]; omega), t1]
        refine ⟨vl, vl, vx, vl, vl, vx, ?_⟩
        rw [jx, on_s (by omega)]
        have l5 : (h_i h2 1 127).toInt = (h_i h3 1 127).toInt := by rw [l3]
        generalize (r - h_i h3 293 (31 * c + day)) = x9
        generalize (h_i h3 1 127).toNatClampNeg = kl
        have I4 : Iv (h_im (h_im (h_im (h_im (h_im (h_im h3 294 kl (Int32.ofNat c)) 295 kl (Int32.ofNat day)) 296 kl x9) 297 kl (h_i h3 1 0)) 1 127 ((h_i h3 1 127) + 1)) 293 (31 * c + day) r) := i2xx 293 (by decide +kernel) (by decide) (by decide) ((i2xx 297 (by decide +kernel) (by decide) (by decide) (i2xx 296 (by decide +kernel) (by decide) (by decide) (i2xx 295 (by decide +kernel) (by decide) (by decide) (i2xx 294 (by decide +kernel) (by decide) (by decide) I3 _ _) _ _) _ _) _ _).im (a := 1) (k := 127) (by rw [show tf 1 127 = (0, 600) by decide +kernel, ex]; exact ⟨by show (0 : Int) ≤ _; omega, by show _ ≤ (600 : Int); omega⟩) (by decide)) _ _
        refine ih (c + 1) _ (by omega) ⟨I4, (((((F'.im (inw_row (by decide +kernel) _)).im (inw_row (by decide +kernel) _)).im (inw_row (by decide +kernel) _)).im (inw_row (by decide +kernel) _)).im (by decide +kernel)).im (inw_row (by decide +kernel) _), fun c' day' h1 h2' o => ?_⟩ ?_
        · rw [h_i_im, if_neg (fun u => by
            have := u.2
            rcases o with v | v
            · omega
            · omega), im_ne (by decide), im_ne (by decide), im_ne (by decide), im_ne (by decide), im_ne (by decide), b3]
          refine b.2.2 c' day' h1 h2' ?_
          rcases o with u | u
          · exact Or.inl u
          · exact Or.inr ⟨u.1, by omega⟩
        · rw [im_ne (by decide), im_at, ex]
          omega
theorem bk_86 (d : Nat) {h : Hp_} {M D : Nat} {P : Nat → Nat → Int32} (B : Bk d h M D P) (x1 : Int32) :
    ∀ (n day : Nat) (h2 : Hp_), day + n = D → Bo h day 0 h2 → (h_i h2 1 127).toInt + (bkT P (h_i h 293) M n day : Int) ≤ 600 → AW (m_X12_book (d + 8) 0 0) 0 0 86 [(0, .ref 1), (1, .int x1), (2, .int (Int32.ofNat day))] [] h2 (bK h) := by
  have B' := B
  obtain ⟨I, lM, lD, e7, eD, hP⟩ := B'
  have oD := on_j (n := D) (by omega)
  intro n
  induction n with
  | zero =>
    intro day h2 e b m
    have od := on_j (n := day) (by omega)
    refine t_X12_book_86 d h2 b.1.1 x1 _ _ ⟨fun _ => ⟨b.1, b.2.1⟩, fun z => ?_⟩
    rw [(b.2.1.2 1 0 (by decide +kernel)).1, eD] at z
    have z := q_nle z
    omega
  | succ n ih =>
    intro day h2 e b m
    have od := on_j (n := day) (by omega)
    refine t_X12_book_86 d h2 b.1.1 x1 _ _ ⟨fun z => ?_, fun _ => ?_⟩
    · rw [(b.2.1.2 1 0 (by decide +kernel)).1, eD] at z
      have z := q_le.mp z
      omega
    · exact bk_100 d B x1 day (by omega) (bkT P (h_i h 293) M n (day + 1)) (fun h3 b3 m3 => ih (day + 1) h3 (by omega) b3 m3) M 0 h2 (by omega) b m
theorem bk_18 (d : Nat) {h : Hp_} {M D : Nat} {P : Nat → Nat → Int32} (B : Bk d h M D P) (T day : Nat) (hT : T ≤ 156) (hd : day < D) (R : Nat)
    (O : ∀ (x1 : Int32) (h3 : Hp_), Iv h3 → Fr wzL h h3 → 0 ≤ x1.toInt → x1.toInt + (R : Int) = T → AW (m_X12_book (d + 8) 0 0) 0 0 4 [(0, .ref 1), (1, .int x1), (2, .int (Int32.ofNat (day + 1)))] [] h3 (bK h)) :
    ∀ (n c : Nat) (x1 : Int32) (h2 : Hp_), c + n = M → Iv h2 → Fr wzL h h2 → 0 ≤ x1.toInt → x1.toInt + ((bkR P (h_i h 293) day n c + R : Nat) : Int) = T → AW (m_X12_book (d + 8) 0 0) 0 0 18 [(0, .ref 1), (1, .int x1), (2, .int (Int32.ofNat day)), (3, .int (Int32.ofNat c))] [] h2 (bK h) := by
  obtain ⟨I, lM, lD, e7, eD, hP⟩ := B
  have oM := on_j (n := M) (by omega)
  have t1 : (1 : Int32).toInt = 1 := rfl
  have t0 : (0 : Int32).toInt = 0 := rfl
  intro n
  induction n with
  | zero =>
    intro c x1 h2 e I2 F p m
    have oc := on_j (n := c) (by omega)
    refine t_X12_book_18 d h2 I2.1 x1 _ _ _ ⟨fun _ => ?_, fun z => ?_⟩
    · rw [on_s (by omega)]
      have m' : x1.toInt + ((0 + R : Nat) : Int) = T := m
      exact O x1 h2 I2 F p (by omega)
    · rw [(F.2 1 7 (by decide +kernel)).1, e7] at z
      have z := q_nle z
      omega
  | succ n ih =>
    intro c x1 h2 e I2 F p m
    have oc := on_j (n := c) (by omega)
    obtain ⟨jx, vx⟩ := ix31 (c := c) (day := day) (by omega) (by omega)
    have m' : x1.toInt + ((((if P c day = h_i h 293 (31 * c + day) then 0 else 1) + bkR P (h_i h 293) day n (c + 1)) + R : Nat) : Int) = T := m
    refine t_X12_book_18 d h2 I2.1 x1 _ _ _ ⟨fun z => ?_, fun _ => ?_⟩
    · rw [(F.2 1 7 (by decide +kernel)).1, e7] at z
      have z := q_le.mp z
      omega
    · rw [(F.2 1 0 (by decide +kernel)).1]
      refine Ci.mono (hP c day (by omega) h2 I2 (F.more (by decide +kernel))) (fun r h3 k => ?_)
      obtain ⟨kr, I3, F3⟩ := k
      have F' : Fr wzL h h3 := F.tr F3
      have b3 : h_i h3 293 (31 * c + day) = h_i h 293 (31 * c + day) := fr_i F' (by decide +kernel) _
      refine ⟨I3.1, vx, fun er => ?_, fun nr => ?_⟩
      · rw [jx, b3, kr] at er
        rw [if_pos er] at m'
        have ea : (x1 + 0).toInt = x1.toInt := by rw [tx_add (by rw [t0]; omega) (by rw [t0]; omega), t0]; omega
        rw [on_s (by omega)]
        exact ih (c + 1) _ h3 (by omega) I3 F' (by omega) (by rw [ea]; omega)
      · rw [jx, b3, kr] at nr
        rw [if_neg nr] at m'
        have ea : (x1 + 1).toInt = x1.toInt + 1 := by rw [tx_add (by rw [t1]; omega) (by rw [t1]; omega), t1]
        rw [on_s (by omega)]
        exact ih (c + 1) _ h3 (by omega) I3 F' (by omega) (by rw [ea]; omega)
theorem bk_4 (d : Nat) {h : Hp_} {M D : Nat} {P : Nat → Nat → Int32} (B : Bk d h M D P) :
    ∀ (n day : Nat) (x1 : Int32) (h2 : Hp_), day + n = D → Iv h2 → Fr wzL h h2 → 0 ≤ x1.toInt → x1.toInt + (bkT P (h_i h 293) M n day : Int) = (bkT P (h_i h 293) M D 0 : Int) → AW (m_X12_book (d + 8) 0 0) 0 0 4 [(0, .ref 1), (1, .int x1), (2, .int (Int32.ofNat day))] [] h2 (bK h) := by
  have B' := B
  obtain ⟨I, lM, lD, e7, eD, hP⟩ := B'
  have oD := on_j (n := D) (by omega)
  have tl := bkT_le (P := P) (bk := h_i h 293) lM (n := D) (day := 0)
  intro n
  induction n with
  | zero =>
    intro day x1 h2 e I2 F p m
    have od := on_j (n := day) (by omega)
    have m' : x1.toInt + ((0 : Nat) : Int) = (bkT P (h_i h 293) M D 0 : Int) := m
    have F' : Fr wzE h h2 := F.more (by decide +kernel)
    have l2 : h_i h2 1 127 = h_i h 1 127 := (F.2 1 127 (by decide +kernel)).1
    refine t_X12_book_4 d h2 I2.1 x1 _ _ ⟨fun _ => ⟨fun le => ?_, fun _ => ⟨I2, F'⟩⟩, fun z => ?_⟩
    · have le := q_le.mp le
      have lr := lines_in I2
      have l0 : 0 ≤ (h_i h2 1 127).toInt := lr.1
      have l1 : (h_i h2 1 127).toInt ≤ 600 := lr.2
      have ea : (h_i h2 1 127 + x1).toInt = (h_i h2 1 127).toInt + x1.toInt := tx_add (by omega) (by omega)
      have t6 : (600 : Int32).toInt = 600 := rfl
      rw [ea, t6] at le
      exact bk_86 d B x1 D 0 h2 (by omega) ⟨I2, F', fun c' day' _ _ _ => fr_i F (by decide +kernel) _⟩ (by omega)
    · rw [(F.2 1 0 (by decide +kernel)).1, eD] at z
      have z := q_nle z
      omega
  | succ n ih =>
    intro day x1 h2 e I2 F p m
    have od := on_j (n := day) (by omega)
    refine t_X12_book_4 d h2 I2.1 x1 _ _ ⟨fun z => ?_, fun _ => ?_⟩
    · rw [(F.2 1 0 (by decide +kernel)).1, eD] at z
      have z := q_le.mp z
      omega
    · exact bk_18 d B (bkT P (h_i h 293) M D 0) day (by omega) (by omega) (bkT P (h_i h 293) M n (day + 1)) (fun x1' h3 I3 F3 p3 m3 => ih (day + 1) x1' h3 (by omega) I3 F3 p3 m3) M 0 x1 h2 (by omega) I2 F p m
theorem c_book (d : Nat) {h : Hp_} (I : Iv h) : Ci (m_X12_book (d + 8) 0 0) [.ref 1] h (fun _ h' => Iv h' ∧ Fr wzE h h') := by
  have mr := men_in I
  have m0 : 0 ≤ (h_i h 1 7).toInt := mr.1
  have m1 : (h_i h 1 7).toInt ≤ 12 := mr.2
  have nm := n_nat m0
  have nr := I.2.1 1 0
  rw [show tf 1 0 = (0, 20000) by decide +kernel] at nr
  have n0 : 0 ≤ (h_i h 1 0).toInt := nr.1
  have n1 : (h_i h 1 0).toInt ≤ 20000 := nr.2
  have t14 : (1440 : Int32).toInt = 1440 := rfl
  have dv : (h_i h 1 0 / 1440).toInt = (h_i h 1 0).toInt / 1440 := by rw [ti_div n0 (by rw [t14]; decide), t14]
  have d0 : 0 ≤ (h_i h 1 0 / 1440).toInt := by rw [dv]; omega
  have d1 : (h_i h 1 0 / 1440).toInt ≤ 13 := by rw [dv]; omega
  have nd := n_nat d0
  obtain ⟨P, hP⟩ : ∃ P : Nat → Nat → Int32, ∀ c day, c < 12 → ∀ h2, Iv h2 → Fr wzE h h2 → Ci (m_X12_payOf (d + 7) 0 0) [.ref 1, .int (Int32.ofNat c), .int (Int32.ofNat day), .int (h_i h 1 0)] h2 (Dp (P c day) h2) := by
    have q : ∀ c day, ∃ r, c < 12 → ∀ h2, Iv h2 → Fr wzE h h2 → Ci (m_X12_payOf (d + 7) 0 0) [.ref 1, .int (Int32.ofNat c), .int (Int32.ofNat day), .int (h_i h 1 0)] h2 (Dp r h2) := by
      intro c day
      by_cases hc : c < 12
      · obtain ⟨r, hr⟩ := d_payOf d I c hc (Int32.ofNat day) (h_i h 1 0)
        exact ⟨r, fun _ => hr⟩
      · exact ⟨0, fun y => absurd y hc⟩
    exact ⟨fun c day => Classical.choose (q c day), fun c day => Classical.choose_spec (q c day)⟩
  have B : Bk d h (h_i h 1 7).toNatClampNeg (h_i h 1 0 / 1440).toNatClampNeg P := ⟨I, by omega, by omega, (of_nat32 m0).symm, (of_nat32 d0).symm, hP⟩
  exact t_X12_book d h _ (bk_4 d B (h_i h 1 0 / 1440).toNatClampNeg 0 0 h (by omega) I (Fr.rf _ _) (by decide) (by rw [show (0 : Int32).toInt = 0 from rfl]; omega))
