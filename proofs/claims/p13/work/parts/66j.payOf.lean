/-! lets and payOf: the same answer from every heap that has the same of what they read -/
def lNat (k : Nat) : Nat := [107, 119, 112, 104, 100, 99, 110, 101, 116].getD k 0
def ltN (v : Nat → Int32) : Nat → (Nat → Int32) → Nat → Int32
  | 0, e => e
  | k + 1, e => upp (ltN v k e) (lNat k) (v k)
theorem lt9 (v e e' : Nat → Int32) {c : Int32} (o : okl 1 c = true) : ltN v 9 e c.toNatClampNeg = ltN v 9 e' c.toNatClampNeg := by
  have o : ([99, 116, 107, 119, 112, 104, 100, 110, 101] : List Int32).any (fun x => decide (x = c)) = true := o
  obtain ⟨x, hx, ex⟩ := List.any_eq_true.mp o
  have ex := of_decide_eq_true ex
  subst ex
  simp only [List.mem_cons, List.not_mem_nil, or_false] at hx
  rcases hx with u | u | u | u | u | u | u | u | u <;> subst u
  · rw [show (99 : Int32).toNatClampNeg = 99 by simp]; rfl
  · rw [show (116 : Int32).toNatClampNeg = 116 by simp]; rfl
  · rw [show (107 : Int32).toNatClampNeg = 107 by simp]; rfl
  · rw [show (119 : Int32).toNatClampNeg = 119 by simp]; rfl
  · rw [show (112 : Int32).toNatClampNeg = 112 by simp]; rfl
  · rw [show (104 : Int32).toNatClampNeg = 104 by simp]; rfl
  · rw [show (100 : Int32).toNatClampNeg = 100 by simp]; rfl
  · rw [show (110 : Int32).toNatClampNeg = 110 by simp]; rfl
  · rw [show (101 : Int32).toNatClampNeg = 101 by simp]; rfl
theorem tl9 {k : Nat} (hk : k < 9) : ((tby 1).getD k 0).toNatClampNeg = lNat k ∧ vp_in ((tby 1).getD k 0) 128 := by
  have g : ∀ x : Int32, rin x.toInt (0, 127) → vp_in x 128 := fun x b => dp_in b (by decide) (by decide)
  match k, hk with
  | 0, _ => exact ⟨by show (107 : Int32).toNatClampNeg = 107; simp, g _ ⟨by decide, by decide⟩⟩
  | 1, _ => exact ⟨by show (119 : Int32).toNatClampNeg = 119; simp, g _ ⟨by decide, by decide⟩⟩
  | 2, _ => exact ⟨by show (112 : Int32).toNatClampNeg = 112; simp, g _ ⟨by decide, by decide⟩⟩
  | 3, _ => exact ⟨by show (104 : Int32).toNatClampNeg = 104; simp, g _ ⟨by decide, by decide⟩⟩
  | 4, _ => exact ⟨by show (100 : Int32).toNatClampNeg = 100; simp, g _ ⟨by decide, by decide⟩⟩
  | 5, _ => exact ⟨by show (99 : Int32).toNatClampNeg = 99; simp, g _ ⟨by decide, by decide⟩⟩
  | 6, _ => exact ⟨by show (110 : Int32).toNatClampNeg = 110; simp, g _ ⟨by decide, by decide⟩⟩
  | 7, _ => exact ⟨by show (101 : Int32).toNatClampNeg = 101; simp, g _ ⟨by decide, by decide⟩⟩
  | 8, _ => exact ⟨by show (116 : Int32).toNatClampNeg = 116; simp, g _ ⟨by decide, by decide⟩⟩
  | k + 9, h => exact absurd h (by omega)
theorem lr_is (h : Hp_) (k : Nat) (v : Int32) : h_i (h_im h 236 k v) 236 = upp (h_i h 236) k v := funext (fun j => by
  rw [h_i_im]
  unfold upp
  by_cases y : j = k
  · rw [if_pos ⟨rfl, y⟩, if_pos y]
  · rw [if_neg (fun u => y u.2), if_neg y])
theorem i236 {h : Hp_} (I : Iv h) (k : Nat) (x : Int32) : Iv (h_im h 236 k x) := tr_ 236 (by decide +kernel) I k x (by decide) (by decide)
theorem d_lets (d : Nat) {h : Hp_} (I : Iv h) (i : Nat) (hi : i < 300) (x2 : Int32) : ∃ r, ∀ h2, Iv h2 → Fr wzE h h2 → Ci (m_X12_lets (d + 6) 0 0) [.ref 1, .int (Int32.ofNat i), .int x2] h2 (Dp r h2) := by
  obtain ⟨f, fb, hf⟩ := d_forceOf d 0 (by decide) I (h_i h 257 i / 1440) x2
  obtain ⟨r, hr⟩ := d_tell d 0 (by decide) I f fb (ltN (fun k => h_i h 261 (9 * i + k)) 9 (fun _ => 0))
  have vi : vp_in (Int32.ofNat i) 300 := on_in hi (by decide)
  have ki : (Int32.ofNat i).toNatClampNeg = i := on_k (by omega)
  have oi := on_j (n := i) (by omega)
  have t9 : (9 : Int32).toInt = 9 := rfl
  refine ⟨r, fun h2 I2 F => t_X12_lets d h2 _ x2 _ ?_⟩
  have lp : ∀ (n k : Nat) (h3 : Hp_), k + n = 9 → Iv h3 → Fr wzL h2 h3 → h_i h3 236 = ltN (fun k => h_i h 261 (9 * i + k)) k (h_i h2 236) → AW (m_X12_lets (d + 6) 0 0) 0 0 2 [(0, .ref 1), (1, .int (Int32.ofNat i)), (2, .int x2), (3, .int (Int32.ofNat k))] [] h3 (kI (Dp r h2)) := by
    intro n
    induction n with
    | zero =>
      intro k h3 e I3 F3 L3
      have ok := on_j (n := k) (by omega)
      have F' : Fr wzE h h3 := F.tr (F3.more (by decide +kernel))
      refine t_X12_lets_2 d h3 I3.1 _ x2 _ _ ⟨fun _ => ⟨vi, ?_⟩, fun z => ?_⟩
      · rw [ki, fr_i F' (a := 257) (by decide +kernel) i]
        refine Ci.mono (hf h3 I3 F') (fun r4 h4 k4 => ?_)
        rw [k4.1, k4.2]
        refine ⟨I3.1, Ci.mono (hr h3 I3 F' (fun c o => ?_)) (fun r5 h5 k5 => ⟨k5.2.1.1, k5.1, k5.2.1, F3.tr k5.2.2⟩)⟩
        rw [L3, show k = 9 by omega]
        exact lt9 _ _ _ o
      · have z := q_nle z
        omega
    | succ n ih =>
      intro k h3 e I3 F3 L3
      have ok := on_j (n := k) (by omega)
      have F' : Fr wzE h h3 := F.tr (F3.more (by decide +kernel))
      obtain ⟨lk, lv⟩ := tl9 (k := k) (by omega)
      have m1 : (9 * Int32.ofNat i).toInt = 9 * (i : Int) := by rw [tx_mul (by rw [t9, oi]; omega) (by rw [t9, oi]; omega), t9, oi]
      have m2 : (9 * Int32.ofNat i + Int32.ofNat k).toInt = 9 * (i : Int) + k := by rw [tx_add (by omega) (by omega), m1, ok]
      have nn := n_nat (x := 9 * Int32.ofNat i + Int32.ofNat k) (by omega)
      have jn : (9 * Int32.ofNat i + Int32.ofNat k).toNatClampNeg = 9 * i + k := by omega
      refine t_X12_lets_2 d h3 I3.1 _ x2 _ _ ⟨fun z => ?_, fun _ => ?_⟩
      · have z := q_le.mp z
        omega
      · refine Ci.mono (c_letterFor (d + 1) k (by omega) h3) (fun r4 h4 k4 => ?_)
        rw [k4.1, k4.2]
        refine ⟨I3.1, dp_in (lo := 0) (hi := 2699) ⟨by show (0 : Int) ≤ _; omega, by show _ ≤ (2699 : Int); omega⟩ (by decide) (by decide), lv, ?_⟩
        rw [jn, lk, on_s (by omega), fr_i F' (a := 261) (by decide +kernel) _]
        refine ih (k + 1) _ (by omega) (i236 I3 _ _) (F3.im (inw_row (by decide +kernel) _)) ?_
        rw [lr_is, L3]
        rfl
  exact lp 9 0 h2 rfl I2 (Fr.rf _ _) rfl
def up6 (e : Nat → Int32) (c y m x t a : Int32) : Nat → Int32 := upp (upp (upp (upp (upp (upp e 99 c) 121 y) 109 m) 120 x) 116 t) 97 a
theorem lt6 (e e' : Nat → Int32) (r y m x t a : Int32) {c : Int32} (o : okl 2 c = true) : up6 e r y m x t a c.toNatClampNeg = up6 e' r y m x t a c.toNatClampNeg := by
  have o : ([99, 116, 121, 109, 120, 97] : List Int32).any (fun x => decide (x = c)) = true := o
  obtain ⟨z, hz, ez⟩ := List.any_eq_true.mp o
  have ez := of_decide_eq_true ez
  subst ez
  simp only [List.mem_cons, List.not_mem_nil, or_false] at hz
  rcases hz with u | u | u | u | u | u <;> subst u
  · rw [show (99 : Int32).toNatClampNeg = 99 by simp]; rfl
  · rw [show (116 : Int32).toNatClampNeg = 116 by simp]; rfl
  · rw [show (121 : Int32).toNatClampNeg = 121 by simp]; rfl
  · rw [show (109 : Int32).toNatClampNeg = 109 by simp]; rfl
  · rw [show (120 : Int32).toNatClampNeg = 120 by simp]; rfl
  · rw [show (97 : Int32).toNatClampNeg = 97 by simp]; rfl
theorem py_end (d : Nat) {h : Hp_} (I : Iv h) (c : Nat) (hc : c < 12) (x2 x3 x4 x5 x6 x7 : Int32) : ∃ r, ∀ h2, Iv h2 → Fr wzE h h2 → Ci (m_X12_rankOn (d + 0) 0 0) [.ref 1, .int (Int32.ofNat c), .int x2, .int x3] h2 (fun r26 h24 => Wf h24 ∧ (vp_in 99 128 ∧ (vp_in (Int32.ofNat c) 12 ∧ (vp_in 121 128 ∧ (vp_in 109 128 ∧ (vp_in 120 128 ∧ (vp_in 116 128 ∧ (vp_in 97 128 ∧ (Ci (m_X12_forceOf (d + 0) 0 0) [.ref 1, .int 1, .int x2, .int x3] (h_im (h_im (h_im (h_im (h_im (h_im h24 236 (99 : Int32).toNatClampNeg r26) 236 (121 : Int32).toNatClampNeg (h_i h24 205 (Int32.ofNat c).toNatClampNeg)) 236 (109 : Int32).toNatClampNeg x4) 236 (120 : Int32).toNatClampNeg x5) 236 (116 : Int32).toNatClampNeg x6) 236 (97 : Int32).toNatClampNeg x7) (fun r36 h34 => Wf h34 ∧ (Ci (m_X12_tell (d + 4) 0 0) [.ref 1, .int 1, .int r36] h34 (fun r39 h37 => Wf h37 ∧ (Dp r h2 (if 0 < (if r39 < 10000 then r39 else 10000) then (if r39 < 10000 then r39 else 10000) else 0) h37))))))))))))) := by
  have v1 : vp_in (Int32.ofNat c) 12 := on_in hc (by decide)
  have k1 : (Int32.ofNat c).toNatClampNeg = c := on_k (by omega)
  obtain ⟨rk, hrk⟩ := d_rankOn d I (Int32.ofNat c) x2 x3 v1
  obtain ⟨f, fb, hf⟩ := d_forceOf d 1 (by decide) I x2 x3
  obtain ⟨t, ht⟩ := d_tell d 1 (by decide) I f fb (up6 (fun _ => 0) rk (h_i h 205 c) x4 x5 x6 x7)
  have g : ∀ x : Int32, rin x.toInt (0, 127) → vp_in x 128 := fun x b => dp_in b (by decide) (by decide)
  refine ⟨if 0 < (if t < 10000 then t else 10000) then (if t < 10000 then t else 10000) else 0, fun h2 I2 F => Ci.mono (hrk h2 I2 F) (fun r' h' k => ?_)⟩
  rw [k.1, k.2]
  refine ⟨I2.1, g _ ⟨by decide, by decide⟩, v1, g _ ⟨by decide, by decide⟩, g _ ⟨by decide, by decide⟩, g _ ⟨by decide, by decide⟩, g _ ⟨by decide, by decide⟩, g _ ⟨by decide, by decide⟩, ?_⟩
  rw [show (99 : Int32).toNatClampNeg = 99 by simp, show (121 : Int32).toNatClampNeg = 121 by simp, show (109 : Int32).toNatClampNeg = 109 by simp, show (120 : Int32).toNatClampNeg = 120 by simp, show (116 : Int32).toNatClampNeg = 116 by simp, show (97 : Int32).toNatClampNeg = 97 by simp, k1, fr_i F (a := 205) (by decide +kernel) c]
  have I3 : Iv (h_im (h_im (h_im (h_im (h_im (h_im h2 236 99 rk) 236 121 (h_i h 205 c)) 236 109 x4) 236 120 x5) 236 116 x6) 236 97 x7) := i236 (i236 (i236 (i236 (i236 (i236 I2 _ _) _ _) _ _) _ _) _ _) _ _
  have F3 : Fr wzL h2 (h_im (h_im (h_im (h_im (h_im (h_im h2 236 99 rk) 236 121 (h_i h 205 c)) 236 109 x4) 236 120 x5) 236 116 x6) 236 97 x7) := ((((((Fr.rf _ _).im (inw_row (by decide +kernel) _)).im (inw_row (by decide +kernel) _)).im (inw_row (by decide +kernel) _)).im (inw_row (by decide +kernel) _)).im (inw_row (by decide +kernel) _)).im (inw_row (by decide +kernel) _)
  have L3 : h_i (h_im (h_im (h_im (h_im (h_im (h_im h2 236 99 rk) 236 121 (h_i h 205 c)) 236 109 x4) 236 120 x5) 236 116 x6) 236 97 x7) 236 = up6 (h_i h2 236) rk (h_i h 205 c) x4 x5 x6 x7 := by rw [lr_is, lr_is, lr_is, lr_is, lr_is, lr_is]; rfl
  generalize h_im (h_im (h_im (h_im (h_im (h_im h2 236 99 rk) 236 121 (h_i h 205 c)) 236 109 x4) 236 120 x5) 236 116 x6) 236 97 x7 = h3 at I3 F3 L3 ⊢
  have F' : Fr wzE h h3 := F.tr (F3.more (by decide +kernel))
  refine Ci.mono (hf h3 I3 F') (fun r4 h4 k4 => ?_)
  rw [k4.1, k4.2]
  refine ⟨I3.1, Ci.mono (ht h3 I3 F' (fun c o => ?_)) (fun r5 h5 k5 => ⟨k5.2.1.1, ?_, k5.2.1, F3.tr k5.2.2⟩)⟩
  · rw [L3]
    exact lt6 _ _ _ _ _ _ _ _ o
  · rw [k5.1]
theorem py_128 (d : Nat) {h : Hp_} (I : Iv h) (c : Nat) (hc : c < 12) (x2 x3 x4 x5 : Int32) : ∀ (n k : Nat) (x6 x7 : Int32), k + n = (h_i h 1 80).toNatClampNeg → ∃ r, ∀ h2, Iv h2 → Fr wzE h h2 → AW (m_X12_payOf (d + 7) 0 0) 0 0 128 [(0, .ref 1), (1, .int (Int32.ofNat c)), (2, .int x2), (3, .int x3), (4, .int x4), (5, .int x5), (6, .int x6), (7, .int x7), (8, .int (Int32.ofNat k))] [] h2 (kI (Dp r h2)) := by
  have c80 := I.2.1 1 80
  rw [show tf 1 80 = (0, 300) by decide +kernel] at c80
  have b0 : 0 ≤ (h_i h 1 80).toInt := c80.1
  have b1 : (h_i h 1 80).toInt ≤ 300 := c80.2
  have nc := n_nat b0
  intro n
  induction n with
  | zero =>
    intro k x6 x7 e
    have ok := on_j (n := k) (by omega)
    obtain ⟨r, hr⟩ := py_end d I c hc x2 x3 x4 x5 x6 x7
    refine ⟨r, fun h2 I2 F => t_X12_payOf_128 d h2 I2.1 _ x2 x3 x4 x5 x6 x7 _ _ ⟨fun _ => hr h2 I2 F, fun z => ?_⟩⟩
    rw [(F.2 1 80 (by decide +kernel)).1] at z
    have z := q_nle z
    omega
  | succ n ih =>
    intro k x6 x7 e
    have ok := on_j (n := k) (by omega)
    have kk := on_k (n := k) (by omega)
    have v : vp_in (Int32.ofNat k) 300 := on_in (by omega) (by decide)
    by_cases P : h_i h 255 k = Int32.ofNat c ∧ h_i h 257 k / 1440 = x2 ∧ h_i h 258 k = 3
    · obtain ⟨l, hl⟩ := d_lets d I k (by omega) x3
      by_cases l3 : l = 3
      · obtain ⟨r, hr⟩ := ih (k + 1) (x6 + 1) (x7 + 0) (by omega)
        refine ⟨r, fun h2 I2 F => t_X12_payOf_128 d h2 I2.1 _ x2 x3 x4 x5 x6 x7 _ _ ⟨fun z => ?_, fun _ => ?_⟩⟩
        · rw [(F.2 1 80 (by decide +kernel)).1] at z
          have z := q_le.mp z
          omega
        · rw [kk, fr_i F (a := 255) (by decide +kernel) k, fr_i F (a := 257) (by decide +kernel) k, fr_i F (a := 258) (by decide +kernel) k, on_s (by omega)]
          refine ⟨v, fun y => absurd P.1 y, fun _ => ⟨v, fun y => absurd P.2.1 y, fun _ => ⟨v, fun y => absurd P.2.2 y, fun _ => Ci.mono (hl h2 I2 F) (fun r4 h4 k4 => ⟨k4.2.1.1, fun y => absurd (k4.1.trans l3) y, fun _ => ?_⟩)⟩⟩⟩
          exact AW.mono (hr h4 k4.2.1 (F.tr (k4.2.2.more (by decide +kernel)))) (fun u h' q => by
            obtain ⟨r', ev, e1, i1, f1⟩ := q
            exact ⟨r', ev, e1, i1, k4.2.2.tr f1⟩)
      · obtain ⟨r, hr⟩ := ih (k + 1) (x6 + 0) (x7 + 1) (by omega)
        refine ⟨r, fun h2 I2 F => t_X12_payOf_128 d h2 I2.1 _ x2 x3 x4 x5 x6 x7 _ _ ⟨fun z => ?_, fun _ => ?_⟩⟩
        · rw [(F.2 1 80 (by decide +kernel)).1] at z
          have z := q_le.mp z
          omega
        · rw [kk, fr_i F (a := 255) (by decide +kernel) k, fr_i F (a := 257) (by decide +kernel) k, fr_i F (a := 258) (by decide +kernel) k, on_s (by omega)]
          refine ⟨v, fun y => absurd P.1 y, fun _ => ⟨v, fun y => absurd P.2.1 y, fun _ => ⟨v, fun y => absurd P.2.2 y, fun _ => Ci.mono (hl h2 I2 F) (fun r4 h4 k4 => ⟨k4.2.1.1, fun _ => ?_, fun y => absurd (k4.1.symm.trans y) l3⟩)⟩⟩⟩
          exact AW.mono (hr h4 k4.2.1 (F.tr (k4.2.2.more (by decide +kernel)))) (fun u h' q => by
            obtain ⟨r', ev, e1, i1, f1⟩ := q
            exact ⟨r', ev, e1, i1, k4.2.2.tr f1⟩)
    · obtain ⟨r, hr⟩ := ih (k + 1) x6 x7 (by omega)
      refine ⟨r, fun h2 I2 F => t_X12_payOf_128 d h2 I2.1 _ x2 x3 x4 x5 x6 x7 _ _ ⟨fun z => ?_, fun _ => ?_⟩⟩
      · rw [(F.2 1 80 (by decide +kernel)).1] at z
        have z := q_le.mp z
        omega
      · have go := hr h2 I2 F
        rw [kk, fr_i F (a := 255) (by decide +kernel) k, fr_i F (a := 257) (by decide +kernel) k, fr_i F (a := 258) (by decide +kernel) k, on_s (by omega)]
        exact ⟨v, fun _ => go, fun y1 => ⟨v, fun _ => go, fun y2 => ⟨v, fun _ => go, fun y3 => absurd ⟨y1, y2, y3⟩ P⟩⟩⟩
theorem d_payOf (d : Nat) {h : Hp_} (I : Iv h) (c : Nat) (hc : c < 12) (x2 x3 : Int32) : ∃ r, ∀ h2, Iv h2 → Fr wzE h h2 → Ci (m_X12_payOf (d + 7) 0 0) [.ref 1, .int (Int32.ofNat c), .int x2, .int x3] h2 (Dp r h2) := by
  have c63 := rows_in I
  have b0 : 0 ≤ (h_i h 1 63).toInt := c63.1
  have b1 : (h_i h 1 63).toInt ≤ 400 := c63.2
  have nc := n_nat b0
  have lp : ∀ (n k : Nat) (x4 x5 : Int32), k + n = (h_i h 1 63).toNatClampNeg → ∃ r, ∀ h2, Iv h2 → Fr wzE h h2 → AW (m_X12_payOf (d + 7) 0 0) 0 0 9 [(0, .ref 1), (1, .int (Int32.ofNat c)), (2, .int x2), (3, .int x3), (4, .int x4), (5, .int x5), (6, .int (Int32.ofNat k))] [] h2 (kI (Dp r h2)) := by
    intro n
    induction n with
    | zero =>
      intro k x4 x5 e
      have ok := on_j (n := k) (by omega)
      obtain ⟨r, hr⟩ := py_128 d I c hc x2 x3 x4 x5 (h_i h 1 80).toNatClampNeg 0 0 0 (by omega)
      refine ⟨r, fun h2 I2 F => t_X12_payOf_9 d h2 I2.1 _ x2 x3 x4 x5 _ _ ⟨fun _ => hr h2 I2 F, fun z => ?_⟩⟩
      rw [(F.2 1 63 (by decide +kernel)).1] at z
      have z := q_nle z
      omega
    | succ n ih =>
      intro k x4 x5 e
      have ok := on_j (n := k) (by omega)
      have kk := on_k (n := k) (by omega)
      have v : vp_in (Int32.ofNat k) 400 := on_in (by omega) (by decide)
      have st : ∀ h2, Iv h2 → Fr wzE h h2 → h_i h2 1 63 ≤ Int32.ofNat k → False := fun h2 I2 F z => by
        rw [(F.2 1 63 (by decide +kernel)).1] at z
        have z := q_le.mp z
        omega
      by_cases P : h_i h 238 k = Int32.ofNat c ∧ h_i h 240 k / 1440 = x2
      · obtain ⟨s, hs⟩ := d_stateOf d (h := h) (Int32.ofNat k) x3 v
        by_cases s2 : s = 2
        · obtain ⟨u, hu⟩ := d_causeOf d I (Int32.ofNat k) x3 v
          by_cases q : u = 1 ∨ ¬ u < 5
          · obtain ⟨r, hr⟩ := ih (k + 1) (x4 + 0) (x5 + 1) (by omega)
            refine ⟨r, fun h2 I2 F => t_X12_payOf_9 d h2 I2.1 _ x2 x3 x4 x5 _ _ ⟨fun z => (st h2 I2 F z).elim, fun _ => ?_⟩⟩
            have go := hr h2 I2 F
            rw [kk, fr_i F (a := 238) (by decide +kernel) k, fr_i F (a := 240) (by decide +kernel) k, on_s (by omega)]
            refine ⟨v, fun y => absurd P.1 y, fun _ => ⟨v, fun _ => Ci.mono (hs h2 I2 F) (fun r4 h4 k4 => ?_), fun y => absurd P.2 y⟩⟩
            rw [k4.1, k4.2]
            refine ⟨I2.1, fun y => absurd s2 y, fun _ => Ci.mono (hu h2 I2 F) (fun r5 h5 k5 => ?_)⟩
            rw [k5.1, k5.2]
            exact ⟨I2.1, fun _ => ⟨fun _ => go, fun y => ⟨fun w => absurd w (q.resolve_left y), fun _ => go⟩⟩, fun y => absurd (s2.symm.trans y) (by decide)⟩
          · obtain ⟨r, hr⟩ := ih (k + 1) (x4 + 0) (x5 + 0) (by omega)
            refine ⟨r, fun h2 I2 F => t_X12_payOf_9 d h2 I2.1 _ x2 x3 x4 x5 _ _ ⟨fun z => (st h2 I2 F z).elim, fun _ => ?_⟩⟩
            have go := hr h2 I2 F
            rw [kk, fr_i F (a := 238) (by decide +kernel) k, fr_i F (a := 240) (by decide +kernel) k, on_s (by omega)]
            refine ⟨v, fun y => absurd P.1 y, fun _ => ⟨v, fun _ => Ci.mono (hs h2 I2 F) (fun r4 h4 k4 => ?_), fun y => absurd P.2 y⟩⟩
            rw [k4.1, k4.2]
            refine ⟨I2.1, fun y => absurd s2 y, fun _ => Ci.mono (hu h2 I2 F) (fun r5 h5 k5 => ?_)⟩
            rw [k5.1, k5.2]
            exact ⟨I2.1, fun _ => ⟨fun y => absurd (Or.inl y) q, fun _ => ⟨fun _ => go, fun y => absurd (Or.inr y) q⟩⟩, fun y => absurd (s2.symm.trans y) (by decide)⟩
        · by_cases s1 : s = 1
          · obtain ⟨r, hr⟩ := ih (k + 1) (x4 + 1) (x5 + 0) (by omega)
            refine ⟨r, fun h2 I2 F => t_X12_payOf_9 d h2 I2.1 _ x2 x3 x4 x5 _ _ ⟨fun z => (st h2 I2 F z).elim, fun _ => ?_⟩⟩
            have go := hr h2 I2 F
            rw [kk, fr_i F (a := 238) (by decide +kernel) k, fr_i F (a := 240) (by decide +kernel) k, on_s (by omega)]
            refine ⟨v, fun y => absurd P.1 y, fun _ => ⟨v, fun _ => Ci.mono (hs h2 I2 F) (fun r4 h4 k4 => ?_), fun y => absurd P.2 y⟩⟩
            rw [k4.1, k4.2]
            exact ⟨I2.1, fun _ => ⟨fun y => absurd s1 y, fun _ => go⟩, fun y => absurd y s2⟩
          · obtain ⟨r, hr⟩ := ih (k + 1) (x4 + 0) (x5 + 0) (by omega)
            refine ⟨r, fun h2 I2 F => t_X12_payOf_9 d h2 I2.1 _ x2 x3 x4 x5 _ _ ⟨fun z => (st h2 I2 F z).elim, fun _ => ?_⟩⟩
            have go := hr h2 I2 F
            rw [kk, fr_i F (a := 238) (by decide +kernel) k, fr_i F (a := 240) (by decide +kernel) k, on_s (by omega)]
            refine ⟨v, fun y => absurd P.1 y, fun _ => ⟨v, fun _ => Ci.mono (hs h2 I2 F) (fun r4 h4 k4 => ?_), fun y => absurd P.2 y⟩⟩
            rw [k4.1, k4.2]
            exact ⟨I2.1, fun _ => ⟨fun _ => go, fun y => absurd y s1⟩, fun y => absurd y s2⟩
      · obtain ⟨r, hr⟩ := ih (k + 1) x4 x5 (by omega)
        refine ⟨r, fun h2 I2 F => t_X12_payOf_9 d h2 I2.1 _ x2 x3 x4 x5 _ _ ⟨fun z => (st h2 I2 F z).elim, fun _ => ?_⟩⟩
        have go := hr h2 I2 F
        rw [kk, fr_i F (a := 238) (by decide +kernel) k, fr_i F (a := 240) (by decide +kernel) k, on_s (by omega)]
        exact ⟨v, fun _ => go, fun y1 => ⟨v, fun y2 => absurd ⟨y1, y2⟩ P, fun _ => go⟩⟩
  obtain ⟨r, hr⟩ := lp (h_i h 1 63).toNatClampNeg 0 0 0 (by omega)
  exact ⟨r, fun h2 I2 F => t_X12_payOf d h2 _ x2 x3 _ (hr h2 I2 F)⟩
