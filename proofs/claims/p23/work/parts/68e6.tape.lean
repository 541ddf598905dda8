/-! beat of the reference, by what stands on the tape -/
def wbt : List Nat := [1032, 1033, 1034, 1035, 1036, 1037, 1042, 1043, 1044, 226999, 227999, 228999, 229999, 230999]
def okB (b : Nat → Int32) (n : Nat) (z : Int32) : Prop := ¬ z = 12 ∧ enq b n (beq b n) = -1 ∧ (beo b n).length ≤ 150
/-- what beat leaves of the numbers of beats and of the tape -/
def Btm (b : Nat → Int32) (n : Nat) (h : Hp_) (r : Int32) (h' : Hp_) : Prop := Fr wbt h h' ∧ (∀ k, k < bB h → h_i h' 228 k = h_i h 228 k ∧ h_i h' 229 k = h_i h 229 k ∧ h_i h' 230 k = h_i h 230 k) ∧ (¬ okB b n (h_i h 1 42) → r = -1 ∧ h_i h' 1 42 = h_i h 1 42 ∧ h_i h' 1 32 = h_i h 1 32 ∧ ∀ k, h_i h' 227 k = h_i h 227 k) ∧ (okB b n (h_i h 1 42) → r = h_i h 1 42 ∧ h_i h' 1 42 = h_i h 1 42 + 1 ∧ h_i h' 1 32 = 0 ∧ (∀ k, h_i h' 227 k = if k = (h_i h 1 42).toNatClampNeg then Int32.ofNat (beo b n).length else h_i h 227 k) ∧ (∀ k x, (beo b n)[k]? = some x → h_i h' 228 (bB h + k) = x.1 ∧ h_i h' 229 (bB h + k) = x.2.1 ∧ h_i h' 230 (bB h + k) = x.2.2) ∧ ∀ x ∈ beo b n, stR x)
theorem c_beatf (d : Nat) {b : Nat → Int32} {n : Nat} (bb : ∀ k, k < n → ¬ b k = -1) {h : Hp_} (I : Iv h) (J : J2 h) (t : Tp b n h) : Ci (m_X12_beat (d + 80 + 60) 0 0) [.ref 1] h (fun r h' => (Iv h' ∧ J2 h') ∧ Btm b n h r h') := by
  have t12 : (12 : Int32).toInt = 12 := rfl
  have t1 : (1 : Int32).toInt = 1 := rfl
  refine t_X12_beat (d + 80) h I.1 _ ⟨fun e => ⟨⟨I, J⟩, Fr.rf _ _, fun _ _ => ⟨rfl, rfl, rfl⟩, fun _ => ⟨rfl, rfl, rfl, fun _ => rfl⟩, fun o => absurd e o.1⟩, fun ne => ?_⟩
  refine Ci.mono (c_faultf0 d bb I t) (fun r h2 k => ?_)
  obtain ⟨I2, F2, ev, g⟩ := k
  have J2' : J2 h2 := J2_s (Js.fr F2 (by decide +kernel)) J
  have e42 : h_i h2 1 42 = h_i h 1 42 := (F2.2 1 42 (by decide +kernel)).1
  have e32 : h_i h2 1 32 = h_i h 1 32 := (F2.2 1 32 (by decide +kernel)).1
  have e27 : ∀ k, h_i h2 227 k = h_i h 227 k := fun k => fr_i F2 (by decide +kernel) k
  refine ⟨I2.1, fun er => ?_, fun nr => ⟨⟨I2, J2'⟩, F2.more (by decide +kernel), fun k _ => ⟨fr_i F2 (by decide +kernel) k, fr_i F2 (by decide +kernel) k, fr_i F2 (by decide +kernel) k⟩, fun _ => ⟨rfl, e42, e32, e27⟩, fun o => absurd (ev.trans o.2.1) nr⟩⟩
  obtain ⟨f, q⟩ := g er
  have ee : enq b n (beq b n) = -1 := ev.symm.trans er
  have r42 := I2.2.1 1 42
  rw [show tf 1 42 = (0, 12) by decide +kernel] at r42
  have b0 : 0 ≤ (h_i h2 1 42).toInt := r42.1
  have b1' : (h_i h2 1 42).toInt ≤ 12 := r42.2
  have b1 : (h_i h2 1 42).toInt ≤ 11 := by
    rcases Int.lt_or_le (h_i h2 1 42).toInt 12 with u | u
    · omega
    · exact absurd (Int32.toInt_inj.mp (by rw [← e42, t12]; omega)) ne
  have n2 := sN_i I2
  have p2 : ps h2 ≤ 559 := (ps_in I2).2
  have hN : h_i h2 1 36 = Int32.ofNat (sN h2) := Int32.toInt_inj.mp (by rw [on_j (by omega)]; exact n2.symm)
  have I3 : Iv (h_im h2 1 43 0) := I2.im (by rw [show tf 1 43 = (0, 150) by decide +kernel]; exact ⟨by decide, by decide⟩) (by decide)
  have J3 : J2 (h_im h2 1 43 0) := J2_s (Js.im (by decide) (fun y => absurd y.2 (by decide))) J2'
  have t := c_unfoldf (h_im h2 1 43 0) (sN h2) (by rw [f_ne (by decide)]; exact hN) (by omega) (by rw [f_ne (by decide)]; exact b1) 4 (d + 75) f 0 (sN h2) (beo b n) (h_im h2 1 43 0) (by rw [show h_i (h_im h2 1 43 0) 226 = h_i h2 226 from funext (fun k => im_ne (by decide))]; exact q) (Nat.le_refl _) (Or.inl rfl) ⟨⟨I3, Fr.rf _ _, fun _ _ => rfl⟩, fun _ _ => ⟨rfl, rfl⟩⟩
  rw [show d + 75 + 4 + 1 = d + 80 + 0 by omega] at t
  have O3 : Uo (bB (h_im h2 1 43 0)) [] (h_im h2 1 43 0) := ⟨by decide, im_at, fun k x e => by simp at e⟩
  have eB : bB (h_im h2 1 43 0) = bB h := by
    show 150 * (h_i (h_im h2 1 43 0) 1 42).toNatClampNeg = 150 * (h_i h 1 42).toNatClampNeg
    rw [f_ne (by decide), e42]
  refine Ci.mono t (fun r6 h6 k => ?_)
  obtain ⟨⟨⟨I6, F6, C6⟩, C9⟩, K1, K0⟩ := k
  have e6 : h_i h6 1 42 = h_i h2 1 42 := by rw [(F6.2 1 42 (by decide +kernel)).1, f_ne (by decide)]
  have er6 : ∀ a, mrow a = true → ∀ k, h_i h6 a k = h_i (h_im h2 1 43 0) a k := by
    intro a ha k
    unfold mrow at ha
    simp only [Bool.or_eq_true] at ha
    rcases ha with (((z | z) | z) | z) | z <;> have z := Nat.eq_of_beq_eq_true z <;> subst z <;> exact fr_i F6 (by decide +kernel) k
  have e67 : ∀ k, h_i h6 227 k = h_i (h_im h2 1 43 0) 227 k := fun k => fr_i F6 (by decide +kernel) k
  have e67' : ∀ k, h_i h6 227 k = h_i h 227 k := fun k => by rw [e67, im_ne (by decide), e27]
  have e62 : h_i h6 1 32 = h_i h 1 32 := by rw [(F6.2 1 32 (by decide +kernel)).1, f_ne (by decide), e32]
  have J6 : J2 h6 := J2_beat I3 er6 (fun k _ => e67 k) C6 (by rw [(F6.2 1 42 (by decide +kernel)).1]; exact Int.le_refl _) (F6.2 1 7 (by decide +kernel)).1 J3
  have W6 : Fr wbt h h6 := (F2.more (by decide +kernel)).tr (((Fr.rf wbt h2).im (by decide +kernel)).tr (F6.more (by decide +kernel)))
  have c8 : ∀ k, k < bB h → h_i h6 228 k = h_i h 228 k ∧ h_i h6 229 k = h_i h 229 k ∧ h_i h6 230 k = h_i h 230 k := fun k hk => by
    have q := C6 k (by
      show k < 150 * (h_i (h_im h2 1 43 0) 1 42).toNatClampNeg
      rw [f_ne (by decide), e42]
      exact hk)
    have q9 := C9 k (by rw [eB]; exact hk)
    rw [q, q9.1, q9.2, im_ne (by decide), im_ne (by decide), im_ne (by decide)]
    exact ⟨fr_i F2 (by decide +kernel) k, fr_i F2 (by decide +kernel) k, fr_i F2 (by decide +kernel) k⟩
  refine ⟨I6.1, fun n6r => ?_, fun er6 => ⟨⟨I6, J6⟩, W6, c8, fun _ => ⟨rfl, e6.trans e42, e62, e67'⟩, fun o => ?_⟩⟩
  · have O6 := (K1 n6r).2 [] O3
    rw [List.nil_append, eB] at O6
    have n6 := n_nat (x := h_i h6 1 42) (by rw [e6]; exact b0)
    rw [e6] at n6
    have ex : (h_i h6 1 42 + 1).toInt = (h_i h2 1 42).toInt + 1 := by rw [e6, tx_add (by rw [t1]; omega) (by rw [t1]; omega), t1]
    have r43 := I6.2.1 1 43
    rw [show tf 1 43 = (0, 150) by decide +kernel] at r43
    refine ⟨dp_in (lo := 0) (hi := 11) (by rw [e6]; exact ⟨b0, b1⟩) (by decide) (by decide), ⟨?_, ?_⟩, ((W6.im (inw_row (by decide +kernel) _)).im (by decide +kernel)).im (by decide +kernel), fun k hk => by rw [im_ne (by decide), im_ne (by decide), im_ne (by decide), im_ne (by decide), im_ne (by decide), im_ne (by decide), im_ne (by decide), im_ne (by decide), im_ne (by decide)]; exact c8 k hk, fun no => absurd ⟨ne, ee, O6.1⟩ no, fun _ => ⟨?_, ?_, ?_, fun k => ?_, fun k x e => ?_, sqU_r (fun _ _ _ t => uD_r t) q⟩⟩
    · exact i32 ((I6.im (a := 227) (by rw [tfa_tf (show tfa 227 = some (0, 150) by decide +kernel)]; exact r43) (jw_jr (by decide) (by decide) _)).im (a := 1) (k := 42) (by rw [show tf 1 42 = (0, 12) by decide +kernel, ex]; exact ⟨by show (0 : Int) ≤ _; omega, by show _ ≤ (12 : Int); omega⟩) (by decide)) ⟨by decide, by decide⟩
    · refine J2_beat I6 (fun a ha k => ?_) (fun k hk => ?_) (fun k _ => ?_) ?_ (by rw [f_ne (by decide), f_ne (by decide), im_ne (by decide)]) J6
      · have n1 : a ≠ 1 := fun z => by rw [z] at ha; exact absurd ha (by decide)
        have n7 : a ≠ 227 := fun z => by rw [z] at ha; exact absurd ha (by decide)
        rw [im_ne n1, im_ne n1, im_ne n7]
      · rw [im_ne (by decide), im_ne (by decide), h_i_im, if_neg (fun u => by have := u.2; omega)]
      · rw [im_ne (by decide), im_ne (by decide), im_ne (by decide)]
      · rw [f_ne (by decide), im_at, ex, e6]; omega
    · rw [e6, e42]
      refine Int32.toInt_inj.mp ?_
      rw [← e42, tx_sub (by rw [t1, tx_add (by rw [t1]; omega) (by rw [t1]; omega), t1]; omega) (by rw [t1, tx_add (by rw [t1]; omega) (by rw [t1]; omega), t1]; omega), tx_add (by rw [t1]; omega) (by rw [t1]; omega), t1]
      omega
    · rw [f_ne (by decide), im_at, e6, e42]
    · rw [im_at]
    · rw [im_ne (by decide), im_ne (by decide), h_i_im, e6, e42]
      by_cases z : k = (h_i h 1 42).toNatClampNeg
      · rw [if_pos ⟨rfl, z⟩, if_pos z]
        exact O6.2.1
      · rw [if_neg (fun u => z u.2), if_neg z]
        exact e67' k
    · rw [im_ne (by decide), im_ne (by decide), im_ne (by decide), im_ne (by decide), im_ne (by decide), im_ne (by decide), im_ne (by decide), im_ne (by decide), im_ne (by decide)]
      exact O6.2.2 k x e
  · have l := K0 er6 [] O3
    rw [List.nil_append] at l
    have := o.2.2
    omega
/-! beat, act and pay of the class -/
def wkp : List Nat := [12003, 34999, 35999, 36999]
theorem x12_in {h : Hp_} (I : Iv h) : 0 ≤ (h_i h 12 3).toInt ∧ (h_i h 12 3).toInt ≤ 12 := by
  have rg := I.2.1 12 3
  rw [show tf 12 3 = (0, 12) by decide +kernel] at rg
  exact ⟨rg.1, rg.2⟩
theorem c_kp (d : Nat) {h : Hp_} (I : Iv h) (L : List Sp3) (O : Ou L h) : Ci (m_X0_keep (d + 1) 0 0) [.ref 12, .ref 11] h (fun r h' => Iv h' ∧ Fr wkp h h' ∧ ((h_i h 12 3 = 12 ∨ 150 < L.length) → r = -1 ∧ h_i h' 12 3 = h_i h 12 3) ∧ (¬ h_i h 12 3 = 12 → L.length ≤ 150 → r = h_i h 12 3 ∧ h_i h' 12 3 = h_i h 12 3 + 1 ∧ h_i h' 35 (h_i h 12 3).toNatClampNeg = Int32.ofNat L.length)) := by
  have t12 : (12 : Int32).toInt = 12 := rfl
  have t1 : (1 : Int32).toInt = 1 := rfl
  have t150 : (150 : Int32).toInt = 150 := rfl
  have b3 := x12_in I
  have b6 := x6_in I
  refine t_X0_keep d h I.1 _ ⟨fun z => ⟨I, Fr.rf _ _, fun _ => ⟨rfl, rfl⟩, fun n => ?_⟩, fun z => ⟨fun z7 => ?_, fun n7 => ⟨I, Fr.rf _ _, fun _ => ⟨rfl, rfl⟩, fun _ l => ?_⟩⟩⟩
  · have z := q_le.mp z
    exact absurd (Int32.toInt_inj.mp (by rw [t12]; omega)) n
  · have z := q_nle z
    have n12 : ¬ h_i h 12 3 = 12 := fun e => by rw [e] at z; exact absurd z (by decide)
    have OL : L.length ≤ 150 ∧ h_i h 11 6 = Int32.ofNat L.length := by
      rcases O with q | q
      · exact ⟨q.2.1, q.2.2.1⟩
      · rw [z7] at q
        exact absurd q.1 (by decide)
    have lp : ∀ (n : Nat) (x2 x3 : Int32) (h2 : Hp_), Iv h2 → Fr [34999] h h2 → 0 ≤ x3.toInt → (h_i h 11 6).toInt - x3.toInt ≤ n → AW (m_X0_keep (d + 1) 0 0) 0 0 22 [(0, .ref 12), (1, .ref 11), (2, .int x2), (3, .int x3)] [] h2 (kI (fun r h' => Iv h' ∧ Fr wkp h h' ∧ ((h_i h 12 3 = 12 ∨ 150 < L.length) → r = -1 ∧ h_i h' 12 3 = h_i h 12 3) ∧ (¬ h_i h 12 3 = 12 → L.length ≤ 150 → r = h_i h 12 3 ∧ h_i h' 12 3 = h_i h 12 3 + 1 ∧ h_i h' 35 (h_i h 12 3).toNatClampNeg = Int32.ofNat L.length))) := by
      have ex : (h_i h 12 3 + 1).toInt = (h_i h 12 3).toInt + 1 := tx_add (by rw [t1]; omega) (by rw [t1]; omega)
      have em : h_i h 12 3 + 1 - 1 = h_i h 12 3 := by
        refine Int32.toInt_inj.mp ?_
        rw [tx_sub (by rw [t1]; omega) (by rw [t1]; omega), ex, t1]
        omega
      have fin : ∀ (x2 : Int32) (h2 : Hp_), Iv h2 → Fr [34999] h h2 → vp_in (h_i h2 12 3) 12 ∧ (vp_in (h_i h2 12 3) 12 ∧ ((fun r h' => Iv h' ∧ Fr wkp h h' ∧ ((h_i h 12 3 = 12 ∨ 150 < L.length) → r = -1 ∧ h_i h' 12 3 = h_i h 12 3) ∧ (¬ h_i h 12 3 = 12 → L.length ≤ 150 → r = h_i h 12 3 ∧ h_i h' 12 3 = h_i h 12 3 + 1 ∧ h_i h' 35 (h_i h 12 3).toNatClampNeg = Int32.ofNat L.length)) (((h_i h2 12 3) + 1) - 1) (h_im (h_im (h_im h2 35 ((h_i h2 12 3) : Int32).toNatClampNeg (h_i h2 11 6)) 36 ((h_i h2 12 3) : Int32).toNatClampNeg x2) 12 3 ((h_i h2 12 3) + 1)))) := fun x2 h2 I2 F2 => by
        have e3 : h_i h2 12 3 = h_i h 12 3 := (F2.2 12 3 (by decide +kernel)).1
        have e6 : h_i h2 11 6 = h_i h 11 6 := (F2.2 11 6 (by decide +kernel)).1
        rw [e3, e6]
        have v : vp_in (h_i h 12 3) 12 := dp_in (lo := 0) (hi := 11) ⟨b3.1, by show _ ≤ (11 : Int); omega⟩ (by decide) (by decide)
        refine ⟨v, v, ?_, ?_, ?_, ?_⟩
        · exact (i2xx 36 (by decide +kernel) (by decide) (by decide) (I2.im (a := 35) (by rw [tfa_tf (show tfa 35 = some (0, 150) by decide +kernel)]; exact ⟨b6.1, b6.2⟩) (jw_jr (by decide) (by decide) _)) _ x2).im (a := 12) (k := 3) (by rw [show tf 12 3 = (0, 12) by decide +kernel, ex]; exact ⟨by show (0 : Int) ≤ _; omega, by show _ ≤ (12 : Int); omega⟩) (by decide)
        · exact (((F2.more (by decide +kernel)).im (inw_row (by decide +kernel) _)).im (inw_row (by decide +kernel) _)).im (by decide +kernel)
        · intro y
          rcases y with y | y
          · exact absurd y n12
          · exact absurd OL.1 (by omega)
        · intro _ _
          refine ⟨em, im_at, ?_⟩
          rw [im_ne (by decide), im_ne (by decide), im_at]
          exact OL.2
      intro n
      induction n with
      | zero =>
        intro x2 x3 h2 I2 F2 l3 m
        have e6 : h_i h2 11 6 = h_i h 11 6 := (F2.2 11 6 (by decide +kernel)).1
        refine t_X0_keep_22 d h2 I2.1 x2 x3 _ ⟨fun _ => fin x2 h2 I2 F2, fun z => ?_⟩
        rw [e6] at z
        have z := q_nle z
        omega
      | succ n ih =>
        intro x2 x3 h2 I2 F2 l3 m
        have e6 : h_i h2 11 6 = h_i h 11 6 := (F2.2 11 6 (by decide +kernel)).1
        have e3 : h_i h2 12 3 = h_i h 12 3 := (F2.2 12 3 (by decide +kernel)).1
        refine t_X0_keep_22 d h2 I2.1 x2 x3 _ ⟨fun _ => fin x2 h2 I2 F2, fun z => ?_⟩
        rw [e6] at z
        have z := q_nle z
        have v3 : vp_in x3 150 := dp_in (lo := 0) (hi := 149) ⟨l3, by show _ ≤ (149 : Int); omega⟩ (by decide) (by decide)
        have m1 : (h_i h 12 3 * 150).toInt = (h_i h 12 3).toInt * 150 := by rw [tx_mul (by rw [t150]; omega) (by rw [t150]; omega), t150]
        have m2 : (h_i h 12 3 * 150 + x3).toInt = (h_i h 12 3).toInt * 150 + x3.toInt := by rw [tx_add (by omega) (by omega), m1]
        have e1 : (x3 + 1).toInt = x3.toInt + 1 := tx_add (by rw [t1]; omega) (by rw [t1]; omega)
        refine ⟨v3, ?_, v3, t_X0_kindOf d _ _ _ ?_⟩
        · rw [e3]
          exact dp_in (lo := 0) (hi := 1799) ⟨by show (0 : Int) ≤ _; omega, by show _ ≤ (1799 : Int); omega⟩ (by decide) (by decide)
        · have I4 := i2xx 34 (by decide +kernel) (by decide) (by decide) I2 ((((h_i h2 12 3) * 150) + x3) : Int32).toNatClampNeg (h_i h2 32 x3.toNatClampNeg)
          have F4 : Fr [34999] h (h_im h2 34 ((((h_i h2 12 3) * 150) + x3) : Int32).toNatClampNeg (h_i h2 32 x3.toNatClampNeg)) := F2.im (inw_row (by decide +kernel) _)
          exact ⟨I4.1, fun _ => ih _ _ _ I4 F4 (by omega) (by omega), fun _ => ih _ _ _ I4 F4 (by omega) (by omega)⟩
    exact lp 150 0 0 h I (Fr.rf _ _) (by decide) (by have : (0 : Int32).toInt = 0 := rfl; omega)
  · rcases O with q | q
    · exact absurd q.1 n7
    · exact absurd l (by omega)
def wbx : List Nat := [11001, 11002, 11003, 11004, 11006, 11007, 11009, 12003, 32999, 33999, 34999, 35999, 36999]
theorem y1 {h : Hp_} (I : Iv h) : Iv (h_im h 11 1 0) := I.im (by rw [show tf 11 1 = (0, 160) by decide +kernel]; exact ⟨by decide, by decide⟩) (by decide)
theorem c_cut0 (d : Nat) {h : Hp_} (I : Iv h) : Ci (m_X8_cut (d + 1) 0 0) [.ref 11, .int 0] h (fun _ h' => h' = h_im h 11 1 0) := by
  refine t_X8_cut d h I.1 0 _ ⟨fun _ => rfl, fun n => absurd ⟨by decide, q_le.mpr ?_⟩ n⟩
  have t0 : (0 : Int32).toInt = 0 := rfl
  have := (x1_in I).1
  omega
theorem c_btx (d : Nat) {h : Hp_} (I : Iv h) : Ci (m_X11_beat (d + 105) 0 0) [.ref 0] h (fun r h' => Iv h' ∧ Fr wbx h h' ∧ (¬ okB (h_i h 31) (xn h) (h_i h 12 3) → r = -1 ∧ h_i h' 12 3 = h_i h 12 3 ∧ h_i h' 11 1 = h_i h 11 1) ∧ (okB (h_i h 31) (xn h) (h_i h 12 3) → r = h_i h 12 3 ∧ h_i h' 12 3 = h_i h 12 3 + 1 ∧ h_i h' 11 1 = 0 ∧ h_i h' 35 (h_i h 12 3).toNatClampNeg = Int32.ofNat (beo (h_i h 31) (xn h)).length)) := by
  have k := c_rb (b := h_i h 31) (n := xn h) d I rfl rfl
  rw [show d + 50 + 54 = d + 104 by omega] at k
  refine t_X11_beat d h I.1 _ (Ci.mono k (fun r3 h1 X => ?_))
  obtain ⟨e3, I1, F1, ee, O⟩ := X
  have e12 : h_i h1 12 3 = h_i h 12 3 := (F1.2 12 3 (by decide +kernel)).1
  have e11 : h_i h1 11 1 = h_i h 11 1 := (F1.2 11 1 (by decide +kernel)).1
  have W1 : Fr wbx h h1 := F1.more (by decide +kernel)
  refine ⟨I1.1, fun er => Ci.mono (c_kp d I1 _ (O er)) (fun r7 h5 Y => ?_), fun nr => ⟨I1, W1, fun _ => ⟨rfl, e12, e11⟩, fun o => absurd (e3.trans (ee.trans o.2.1)) nr⟩⟩
  obtain ⟨I5, F5, Yn, Yy⟩ := Y
  rw [e12] at Yn Yy
  have ev : enq (h_i h 31) (xn h) (beq (h_i h 31) (xn h)) = -1 := ee.symm.trans (e3.symm.trans er)
  have W5 : Fr wbx h h5 := W1.tr (F5.more (by decide +kernel))
  have e51 : h_i h5 11 1 = h_i h 11 1 := ((F5.2 11 1 (by decide +kernel)).1).trans e11
  have t12 : (12 : Int32).toInt = 12 := rfl
  have b3 := x12_in I
  refine ⟨I5.1, fun e7 => ⟨I5, W5, fun no => ?_, fun o => ?_⟩, fun n7 => Ci.mono (c_cut0 d I5) (fun _ h9 e9 => ?_)⟩
  · by_cases z : h_i h 12 3 = 12
    · exact ⟨e7, (Yn (Or.inl z)).2, e51⟩
    · rcases Nat.lt_or_ge 150 (beo (h_i h 31) (xn h)).length with u | u
      · exact ⟨e7, (Yn (Or.inr u)).2, e51⟩
      · exact absurd ⟨z, ev, u⟩ no
  · have q := (Yy o.1 o.2.2).1
    rw [e7] at q
    rw [← q] at b3
    exact absurd b3.1 (by decide)
  · have ok : okB (h_i h 31) (xn h) (h_i h 12 3) := by
      refine ⟨fun z => n7 (Yn (Or.inl z)).1, ev, ?_⟩
      rcases Nat.lt_or_ge 150 (beo (h_i h 31) (xn h)).length with u | u
      · exact absurd (Yn (Or.inr u)).1 n7
      · exact u
    have q := Yy ok.1 ok.2.2
    subst e9
    exact ⟨(y1 I5).1, y1 I5, W5.im (by decide +kernel), fun no => absurd ok no, fun _ => ⟨q.1, by rw [im_ne (by decide)]; exact q.2.1, im_at, by rw [im_ne (by decide)]; exact q.2.2⟩⟩
/-! act and pay of the reference, by what stands on the tape -/
def Txm (s m : Nat) (x2 : Int32) (h6 : Hp_) (r : Int32) (h' : Hp_) : Prop := r = Int32.ofNat m ∧ h_i h' 1 32 = 0 ∧ (∀ k, h_i h' 235 k = if k = s then Int32.ofNat m + 1 else h_i h6 235 k) ∧ (∀ k, h_i h' 233 k = if k = 20 * s + m then x2 else h_i h6 233 k) ∧ (∀ k, h_i h' 234 k = if k = 20 * s + m then h_i h6 1 0 else h_i h6 234 k)
theorem tx_loopf (d s m : Nat) (hs : s < 2) (lm : m < 20) {h h6 : Hp_} (x2 x3 : Int32) (I6 : Iv h6) (hm : h_i h6 235 s = Int32.ofNat m) (e3 : x3.toInt = ((20 * s + m : Nat) : Int)) (pc : ∃ f, pcl (s + 1) (h_i h6 226) f 0 (sN h6)) :
    ∀ (n k : Nat) (h2 : Hp_), k + n = sN h6 → (∀ a j, a ≠ 231 → h_i h2 a j = h_i h6 a j) → h_sh h2 = h_sh h6 → h_r h2 = h_r h6 → Fr wzt h h2 → (∀ j, j < k → h_i h2 231 (560 * (20 * s + m) + j) = h_i h6 226 j) → (∀ j, (j < 560 * (20 * s + m) ∨ 560 * (20 * s + m) + 560 ≤ j) → h_i h2 231 j = h_i h6 231 j) →
    AW (m_X12_text (d + 60) 0 0) 0 0 49 [(0, .ref 1), (1, .int (Int32.ofNat s)), (2, .int x2), (3, .int x3), (4, .int (Int32.ofNat k))] [] h2 (kI (fun r h' => (Iv h' ∧ Fr wzt h h') ∧ Txm s m x2 h6 r h')) := by
  have n6 := sN_i I6
  have p6 : ps h6 ≤ 559 := (ps_in I6).2
  have n3 := n_nat (x := x3) (by omega)
  have k3 : x3.toNatClampNeg = 20 * s + m := by omega
  have v3 : vp_in x3 40 := dp_in (lo := 0) (hi := 39) ⟨by show (0 : Int) ≤ _; omega, by show _ ≤ (39 : Int); omega⟩ (by decide) (by decide)
  have v1 : vp_in (Int32.ofNat s) 2 := on_in hs (by decide)
  have k1 : (Int32.ofNat s).toNatClampNeg = s := on_k (by omega)
  have t560 : (560 : Int32).toInt = 560 := rfl
  intro n
  induction n with
  | zero =>
    intro k h2 e he hsh hr F c1 c2
    have ek : (Int32.ofNat k).toInt = (k : Int) := on_j (by omega)
    have es : h_i h2 1 36 = h_i h6 1 36 := he 1 36 (by decide)
    have w2 : Wf h2 := ⟨fun q hq => by rw [hsh]; exact I6.1.1 q hq, fun q hq => by rw [hr]; exact I6.1.2 q hq⟩
    refine t_X12_text_49 d h2 w2 _ x2 x3 _ _ ⟨fun _ => ⟨v3, v3, v3, v1, v1, v1, ?_⟩, fun z => ?_⟩
    · rw [k3, k1, es, he 235 s (by decide), hm]
      have kk : k = sN h6 := by omega
      have I3 : Iv (h_im h2 232 (20 * s + m) (h_i h6 1 36)) := by
        refine Iv_codes I6 he hsh hr (by omega) ⟨by show (0 : Int) ≤ ps h6; omega, by show ps h6 ≤ (560 : Int); omega⟩ c2 ?_
        obtain ⟨f, p⟩ := pc
        have p2 := pcl_sh (t := 560 * (20 * s + m)) (cd' := h_i h2 231) (fun x _ b => by rw [Nat.add_comm]; exact c1 x (by omega)) p
        rw [Nat.zero_add, Nat.add_comm (sN h6)] at p2
        rw [show (20 * s + m) / 20 + 1 = s + 1 by omega]
        exact ⟨f, p2⟩
      have e20 : (Int32.ofNat m + 1).toInt = ((m + 1 : Nat) : Int) := by rw [on_s (by omega)]; exact on_j (by omega)
      refine ⟨⟨i32 (i235 (i2xx 234 (by decide +kernel) (by decide) (by decide) (i2xx 233 (by decide +kernel) (by decide) (by decide) I3 _ _) _ _) _ ⟨by rw [e20]; show (0 : Int) ≤ _; omega, by rw [e20]; show _ ≤ (20 : Int); omega⟩) ⟨by decide, by decide⟩, ((((F.im (inw_row (by decide +kernel) _)).im (inw_row (by decide +kernel) _)).im (inw_row (by decide +kernel) _)).im (inw_row (by decide +kernel) _)).im (by decide +kernel)⟩, ?_, ?_, fun q => ?_, fun q => ?_, fun q => ?_⟩
      · rw [on_s (by omega)]
        refine Int32.toInt_inj.mp ?_
        have o1 : (1 : Int32).toInt = 1 := rfl
        rw [tx_sub (by rw [o1, on_j (by omega)]; omega) (by rw [o1, on_j (by omega)]; omega), o1, on_j (by omega), on_j (by omega)]
        omega
      · rw [im_at]
      · rw [im_ne (by decide), h_i_im]
        by_cases y : q = s
        · rw [if_pos ⟨rfl, y⟩, if_pos y]
        · rw [if_neg (fun u => y u.2), if_neg y, im_ne (by decide), im_ne (by decide), im_ne (by decide)]
          exact he 235 q (by decide)
      · rw [im_ne (by decide), im_ne (by decide), im_ne (by decide), h_i_im]
        by_cases y : q = 20 * s + m
        · rw [if_pos ⟨rfl, y⟩, if_pos y]
        · rw [if_neg (fun u => y u.2), if_neg y, im_ne (by decide)]
          exact he 233 q (by decide)
      · rw [im_ne (by decide), im_ne (by decide), h_i_im]
        by_cases y : q = 20 * s + m
        · rw [if_pos ⟨rfl, y⟩, if_pos y]
          exact he 1 0 (by decide)
        · rw [if_neg (fun u => y u.2), if_neg y, im_ne (by decide), im_ne (by decide)]
          exact he 234 q (by decide)
    · rw [es] at z
      have z := q_nle z
      have z' : (Int32.ofNat k).toInt < ps h6 := z
      omega
  | succ n ih =>
    intro k h2 e he hsh hr F c1 c2
    have ek : (Int32.ofNat k).toInt = (k : Int) := on_j (by omega)
    have nk : (Int32.ofNat k).toNatClampNeg = k := on_k (by omega)
    have es : h_i h2 1 36 = h_i h6 1 36 := he 1 36 (by decide)
    have w2 : Wf h2 := ⟨fun q hq => by rw [hsh]; exact I6.1.1 q hq, fun q hq => by rw [hr]; exact I6.1.2 q hq⟩
    have m1 : (560 * x3).toInt = 560 * x3.toInt := by rw [tx_mul (by rw [t560]; omega) (by rw [t560]; omega), t560]
    have m2 : (560 * x3 + Int32.ofNat k).toInt = 560 * ((20 * s + m : Nat) : Int) + k := by rw [tx_add (by omega) (by omega), m1, ek, e3]
    have nm := n_nat (x := 560 * x3 + Int32.ofNat k) (by omega)
    have km : (560 * x3 + Int32.ofNat k).toNatClampNeg = 560 * (20 * s + m) + k := by omega
    refine t_X12_text_49 d h2 w2 _ x2 x3 _ _ ⟨fun z => ?_, fun _ => ⟨on_in (by omega) (by decide), dp_in (lo := 0) (hi := 22399) ⟨by show (0 : Int) ≤ _; omega, by show _ ≤ (22399 : Int); omega⟩ (by decide) (by decide), ?_⟩⟩
    · rw [es] at z
      have z := q_le.mp z
      have z' : ps h6 ≤ (Int32.ofNat k).toInt := z
      omega
    · rw [km, nk, on_s (by omega)]
      refine ih (k + 1) _ (by omega) (fun a j na => ?_) hsh hr (F.im (inw_row (by decide +kernel) _)) (fun j hj => ?_) (fun j hj => ?_)
      · rw [im_ne na]; exact he a j na
      · rw [h_i_im]
        by_cases y : j = k
        · rw [if_pos ⟨rfl, by omega⟩, y]; exact he 226 k (by decide)
        · rw [if_neg (fun u => by have := u.2; omega)]; exact c1 j (by omega)
      · rw [h_i_im, if_neg (fun u => by have := u.2; omega)]; exact c2 j hj
def okR (b : Nat → Int32) (n s : Nat) (x2 z : Int32) : Prop := (0 ≤ x2 ∧ x2 ≤ 30) ∧ ¬ z = 20 ∧ enq b n (ruq b n (clq b n (s + 1))) = -1
def Rlm (b : Nat → Int32) (n s : Nat) (x2 : Int32) (h : Hp_) (r : Int32) (h' : Hp_) : Prop := (¬ okR b n s x2 (h_i h 235 s) → r = -1 ∧ h_i h' 1 32 = h_i h 1 32 ∧ (∀ k, h_i h' 235 k = h_i h 235 k) ∧ (∀ k, h_i h' 233 k = h_i h 233 k) ∧ (∀ k, h_i h' 234 k = h_i h 234 k)) ∧ (okR b n s x2 (h_i h 235 s) → r = h_i h 235 s ∧ h_i h' 1 32 = 0 ∧ (∀ k, h_i h' 235 k = if k = s then h_i h 235 s + 1 else h_i h 235 k) ∧ (∀ k, h_i h' 233 k = if k = 20 * s + (h_i h 235 s).toNatClampNeg then x2 else h_i h 233 k) ∧ (∀ k, h_i h' 234 k = if k = 20 * s + (h_i h 235 s).toNatClampNeg then h_i h 1 0 else h_i h 234 k))
theorem c_textf (d s : Nat) (hs : s < 2) {b : Nat → Int32} {n : Nat} (bb : ∀ k, k < n → ¬ b k = -1) {h : Hp_} (I : Iv h) (t : Tp b n h) (x2 : Int32) : Ci (m_X12_text (d + 80 + 60) 0 0) [.ref 1, .int (Int32.ofNat s), .int x2] h (fun r h' => (Iv h' ∧ Fr wzt h h') ∧ Rlm b n s x2 h r h') := by
  have v1 : vp_in (Int32.ofNat s) 2 := on_in hs (by decide)
  have k1 : (Int32.ofNat s).toNatClampNeg = s := on_k (by omega)
  refine t_X12_text (d + 80) h I.1 _ x2 _ ⟨fun nb => ⟨⟨I, Fr.rf _ _⟩, fun _ => ⟨rfl, rfl, fun _ => rfl, fun _ => rfl, fun _ => rfl⟩, fun o => absurd o.1 nb⟩, fun bd => ⟨v1, fun e20 => ⟨⟨I, Fr.rf _ _⟩, fun _ => ⟨rfl, rfl, fun _ => rfl, fun _ => rfl, fun _ => rfl⟩, fun o => absurd (k1 ▸ e20) o.2.1⟩, fun ne => ?_⟩⟩
  rw [on_s (n := s) (by omega)]
  refine Ci.mono (c_faultf d bb I t (s + 1) (by omega)) (fun r h6 k => ?_)
  obtain ⟨⟨I6, F6, g⟩, ev⟩ := k
  have e32 : h_i h6 1 32 = h_i h 1 32 := (F6.2 1 32 (by decide +kernel)).1
  have e10 : h_i h6 1 0 = h_i h 1 0 := (F6.2 1 0 (by decide +kernel)).1
  have r5 : ∀ k, h_i h6 235 k = h_i h 235 k := fun k => fr_i F6 (by decide +kernel) k
  have r3 : ∀ k, h_i h6 233 k = h_i h 233 k := fun k => fr_i F6 (by decide +kernel) k
  have r4 : ∀ k, h_i h6 234 k = h_i h 234 k := fun k => fr_i F6 (by decide +kernel) k
  refine ⟨I6.1, fun er => ⟨v1, ?_⟩, fun nr => ⟨⟨I6, F6.more (by decide +kernel)⟩, fun _ => ⟨rfl, e32, r5, r3, r4⟩, fun o => absurd (ev.trans o.2.2) nr⟩⟩
  rw [k1] at ne ⊢
  have e235 : h_i h6 235 s = h_i h 235 s := r5 s
  have br := dp_rg I6 235 s (show tfa 235 = some (0, 20) by decide +kernel)
  have b0 : 0 ≤ (h_i h6 235 s).toInt := br.1
  have b1 : (h_i h6 235 s).toInt ≤ 20 := br.2
  have nb := n_nat b0
  have t20 : (20 : Int32).toInt = 20 := rfl
  have lt : (h_i h6 235 s).toInt < 20 := by
    rcases Int.lt_or_le (h_i h6 235 s).toInt 20 with u | u
    · exact u
    · exact absurd (Int32.toInt_inj.mp (by rw [← e235, t20]; omega)) ne
  have hm : h_i h6 235 s = Int32.ofNat (h_i h6 235 s).toNatClampNeg := Int32.toInt_inj.mp (by rw [on_j (by omega)]; exact nb.symm)
  have es : (Int32.ofNat s).toInt = (s : Int) := on_j (by omega)
  have m1 : (20 * Int32.ofNat s).toInt = 20 * (s : Int) := by rw [tx_mul (by rw [t20, es]; omega) (by rw [t20, es]; omega), t20, es]
  have e3 : (20 * Int32.ofNat s + h_i h6 235 s).toInt = ((20 * s + (h_i h6 235 s).toNatClampNeg : Nat) : Int) := by rw [tx_add (by omega) (by omega), m1]; omega
  have pc : ∃ f, pcl (s + 1) (h_i h6 226) f 0 (sN h6) := (g er).2 (s + 1) (by omega) rfl
  refine AW.mono (tx_loopf (d + 80) s _ hs (by omega) x2 _ I6 hm e3 pc (sN h6) 0 h6 (by omega) (fun _ _ _ => rfl) rfl rfl (F6.more (by decide +kernel)) (fun j hj => absurd hj (by omega)) (fun _ _ => rfl)) (fun v h' q => ?_)
  obtain ⟨r', er', q1, q2, q3, q4, q5, q6⟩ := q
  refine ⟨r', er', q1, fun no => absurd ⟨bd, ne, ev.symm.trans er⟩ no, fun _ => ⟨?_, q3, fun k => ?_, fun k => ?_, fun k => ?_⟩⟩
  · rw [q2, ← hm, e235]
  · rw [q4 k, ← hm, e235, r5]
  · rw [q5 k, e235, r3]
  · rw [q6 k, e235, r4, e10]
theorem c_actf (d : Nat) {b : Nat → Int32} {n : Nat} (bb : ∀ k, k < n → ¬ b k = -1) {h : Hp_} (I : Iv h) (t : Tp b n h) (x1 : Int32) : Ci (m_X12_act (d + 80 + 61) 0 0) [.ref 1, .int x1] h (fun r h' => (Iv h' ∧ Fr wzt h h') ∧ Rlm b n 0 x1 h r h') := t_X12_act (d + 80) h I.1 x1 _ (Ci.mono (c_textf d 0 (by decide) bb I t x1) (fun _ h' k => ⟨k.1.1.1, k⟩))
theorem c_payf (d : Nat) {b : Nat → Int32} {n : Nat} (bb : ∀ k, k < n → ¬ b k = -1) {h : Hp_} (I : Iv h) (t : Tp b n h) (x1 : Int32) : Ci (m_X12_pay (d + 80 + 61) 0 0) [.ref 1, .int x1] h (fun r h' => (Iv h' ∧ Fr wzt h h') ∧ Rlm b n 1 x1 h r h') := t_X12_pay (d + 80) h I.1 x1 _ (Ci.mono (c_textf d 1 (by decide) bb I t x1) (fun _ h' k => ⟨k.1.1.1, k⟩))
/-! act of the class -/
def wkr_13 : List Nat := [13005, 37999, 38999, 39999, 40999]
theorem c_kpr_13 (d : Nat) {h : Hp_} (I : Iv h) (x1 x2 : Int32) : Ci (m_X10_keep (d + 1) 0 0) [.ref 13, .int x1, .int x2, .ref 11] h (fun r h' => Iv h' ∧ Fr wkr_13 h h' ∧ (h_i h 13 5 = 20 → r = -1 ∧ h' = h) ∧ (¬ h_i h 13 5 = 20 → ¬ r = -1 ∧ r = h_i h 13 5 ∧ h_i h' 13 5 = h_i h 13 5 + 1 ∧ (∀ k, h_i h' 37 k = if k = (h_i h 13 5).toNatClampNeg then x1 else h_i h 37 k) ∧ (∀ k, h_i h' 38 k = if k = (h_i h 13 5).toNatClampNeg then x2 else h_i h 38 k))) := by
  have t20 : (20 : Int32).toInt = 20 := rfl
  have t1 : (1 : Int32).toInt = 1 := rfl
  have t0 : (0 : Int32).toInt = 0 := rfl
  have t164 : (164 : Int32).toInt = 164 := rfl
  have rg := I.2.1 13 5
  rw [show tf 13 5 = (0, 20) by decide +kernel] at rg
  have b0 : 0 ≤ (h_i h 13 5).toInt := rg.1
  have b1 : (h_i h 13 5).toInt ≤ 20 := rg.2
  have r9 := I.2.1 11 9
  rw [show tf 11 9 = (0, 164) by decide +kernel] at r9
  have c0 : 0 ≤ (h_i h 11 9).toInt := r9.1
  have c1 : (h_i h 11 9).toInt ≤ 164 := r9.2
  refine t_X10_keep_13 d h I.1 x1 x2 _ ⟨fun z => ?_, fun z => ⟨I, Fr.rf _ _, fun _ => ⟨rfl, rfl⟩, fun n => ?_⟩⟩
  · have z := q_lt.mp z
    have n20 : ¬ h_i h 13 5 = 20 := fun e => by rw [e] at z; exact absurd z (by decide)
    have v : vp_in (h_i h 13 5) 20 := dp_in (lo := 0) (hi := 19) ⟨b0, by show _ ≤ (19 : Int); omega⟩ (by decide) (by decide)
    have m1 : (h_i h 13 5 * 164).toInt = (h_i h 13 5).toInt * 164 := by rw [tx_mul (by rw [t164]; omega) (by rw [t164]; omega), t164]
    have nn : ∀ x : Int32, 0 ≤ x.toInt → ¬ x < 0 := fun x hx y => by
      have y := q_lt.mp y
      omega
    have n5 := n_nat (x := h_i h 13 5 * 164) (by omega)
    have n9 := n_nat (x := h_i h 11 9) c0
    refine ⟨v, v, v, ⟨by decide, nn _ (by omega), nn _ c0, ?_, by omega⟩, ?_⟩
    · show 0 + (h_i h 11 9).toNatClampNeg ≤ 164
      omega
    · have I3 : Iv (h_im (h_im (h_im h 37 ((h_i h 13 5) : Int32).toNatClampNeg x1) 38 ((h_i h 13 5) : Int32).toNatClampNeg x2) 39 ((h_i h 13 5) : Int32).toNatClampNeg (h_i h 11 9)) := (i2xx 38 (by decide +kernel) (by decide) (by decide) (i2xx 37 (by decide +kernel) (by decide) (by decide) I _ _) _ _).im (a := 39) (by rw [tfa_tf (show tfa 39 = some (0, 164) by decide +kernel)]; exact ⟨c0, c1⟩) (jw_jr (by decide) (by decide) _)
      have F3 : Fr wkr_13 h (h_im (h_im (h_im h 37 ((h_i h 13 5) : Int32).toNatClampNeg x1) 38 ((h_i h 13 5) : Int32).toNatClampNeg x2) 39 ((h_i h 13 5) : Int32).toNatClampNeg (h_i h 11 9)) := (((Fr.rf _ _).im (inw_row (by decide +kernel) _)).im (inw_row (by decide +kernel) _)).im (inw_row (by decide +kernel) _)
      have w37 : ∀ k, h_i (h_im (h_im (h_im h 37 ((h_i h 13 5) : Int32).toNatClampNeg x1) 38 ((h_i h 13 5) : Int32).toNatClampNeg x2) 39 ((h_i h 13 5) : Int32).toNatClampNeg (h_i h 11 9)) 37 k = if k = (h_i h 13 5).toNatClampNeg then x1 else h_i h 37 k := fun k => by
        rw [im_ne (by decide), im_ne (by decide), h_i_im]
        by_cases y : k = (h_i h 13 5).toNatClampNeg
        · rw [if_pos ⟨rfl, y⟩, if_pos y]
        · rw [if_neg (fun u => y u.2), if_neg y]
      have w38 : ∀ k, h_i (h_im (h_im (h_im h 37 ((h_i h 13 5) : Int32).toNatClampNeg x1) 38 ((h_i h 13 5) : Int32).toNatClampNeg x2) 39 ((h_i h 13 5) : Int32).toNatClampNeg (h_i h 11 9)) 38 k = if k = (h_i h 13 5).toNatClampNeg then x2 else h_i h 38 k := fun k => by
        rw [im_ne (by decide), h_i_im]
        by_cases y : k = (h_i h 13 5).toNatClampNeg
        · rw [if_pos ⟨rfl, y⟩, if_pos y]
        · rw [if_neg (fun u => y u.2), if_neg y, im_ne (by decide)]
      have w5 : h_i (h_im (h_im (h_im h 37 ((h_i h 13 5) : Int32).toNatClampNeg x1) 38 ((h_i h 13 5) : Int32).toNatClampNeg x2) 39 ((h_i h 13 5) : Int32).toNatClampNeg (h_i h 11 9)) 13 5 = h_i h 13 5 := by rw [im_ne (by decide), im_ne (by decide), im_ne (by decide)]
      generalize h_im (h_im (h_im h 37 ((h_i h 13 5) : Int32).toNatClampNeg x1) 38 ((h_i h 13 5) : Int32).toNatClampNeg x2) 39 ((h_i h 13 5) : Int32).toNatClampNeg (h_i h 11 9) = h3 at I3 F3 w37 w38 w5 ⊢
      generalize va_cpy (h_i h3 33) (h_i h3 40) (0 : Int32).toNatClampNeg ((h_i h 13 5) * 164).toNatClampNeg (h_i h 11 9).toNatClampNeg = fc
      have I4 : Iv (h_iw h3 40 fc) := I3.iw (fun k => by rw [tfa_tf (show tfa 40 = some rtop by decide +kernel)]; exact rtop_in _) (by decide) (by decide)
      have F4 : Fr wkr_13 h (h_iw h3 40 fc) := F3.iw (by decide +kernel)
      have ne : ∀ a, a ≠ 40 → ∀ k, h_i (h_iw h3 40 fc) a k = h_i h3 a k := fun a na k => by rw [h_i_iw, if_neg na]
      have ex : (h_i h 13 5 + 1).toInt = (h_i h 13 5).toInt + 1 := tx_add (by rw [t1]; omega) (by rw [t1]; omega)
      refine t_X10_keep_13_68 d _ I4.1 _ ⟨?_, F4.im (by decide +kernel), fun y => absurd y n20, fun _ => ⟨?_, ?_, ?_, fun k => ?_, fun k => ?_⟩⟩
      · exact I4.im (a := 13) (k := 5) (by rw [show tf 13 5 = (0, 20) by decide +kernel, ne 13 (by decide), w5, ex]; exact ⟨by show (0 : Int) ≤ _; omega, by show _ ≤ (20 : Int); omega⟩) (by decide)
      · rw [ne 13 (by decide), w5]
        intro y
        have y := congrArg Int32.toInt y
        rw [tx_sub (by rw [t1]; omega) (by rw [t1]; omega), ex, t1, show (-1 : Int32).toInt = -1 from rfl] at y
        omega
      · rw [ne 13 (by decide), w5]
        refine Int32.toInt_inj.mp ?_
        rw [tx_sub (by rw [t1]; omega) (by rw [t1]; omega), ex, t1]
        omega
      · rw [im_at, ne 13 (by decide), w5]
      · rw [im_ne (by decide), ne 37 (by decide)]
        exact w37 k
      · rw [im_ne (by decide), ne 38 (by decide)]
        exact w38 k
  · have n20 : ¬ (h_i h 13 5).toInt < 20 := fun y => z (q_lt.mpr (by rw [t20]; exact y))
    exact absurd (Int32.toInt_inj.mp (by rw [t20]; omega)) n
def wrx_13 : List Nat := [11001, 11002, 11003, 11004, 11006, 11007, 11009, 13005, 33999, 37999, 38999, 39999, 40999]
def Rlx_13 (x1 : Int32) (h : Hp_) (r : Int32) (h' : Hp_) : Prop := (¬ okR (h_i h 31) (xn h) 0 x1 (h_i h 13 5) → r = -1 ∧ h_i h' 11 1 = h_i h 11 1 ∧ h_i h' 13 5 = h_i h 13 5 ∧ (∀ k, h_i h' 37 k = h_i h 37 k) ∧ (∀ k, h_i h' 38 k = h_i h 38 k)) ∧ (okR (h_i h 31) (xn h) 0 x1 (h_i h 13 5) → r = h_i h 13 5 ∧ h_i h' 11 1 = 0 ∧ h_i h' 13 5 = h_i h 13 5 + 1 ∧ (∀ k, h_i h' 37 k = if k = (h_i h 13 5).toNatClampNeg then x1 else h_i h 37 k) ∧ (∀ k, h_i h' 38 k = if k = (h_i h 13 5).toNatClampNeg then h_i h 0 0 else h_i h 38 k))
theorem c_actx (d : Nat) {h : Hp_} (I : Iv h) (x1 : Int32) : Ci (m_X11_act (d + 141) 0 0) [.ref 0, .int x1] h (fun r h' => Iv h' ∧ Fr wrx_13 h h' ∧ Rlx_13 x1 h r h') := by
  have k := c_rr (b := h_i h 31) (n := xn h) (0 + 1) (by decide) d I rfl rfl 1 (by decide)
  rw [show d + 80 + 60 = d + 140 by omega] at k
  refine t_X11_act d h I.1 x1 _ ⟨fun nb => ⟨I, Fr.rf _ _, fun _ => ⟨rfl, rfl, rfl, fun _ => rfl, fun _ => rfl⟩, fun o => absurd o.1 nb⟩, fun bd => Ci.mono k (fun r6 h4 X => ?_)⟩
  obtain ⟨e3, I4, F4, ee⟩ := X
  have W4 : Fr wrx_13 h h4 := F4.more (by decide +kernel)
  have e11 : h_i h4 11 1 = h_i h 11 1 := (F4.2 11 1 (by decide +kernel)).1
  have e5 : h_i h4 13 5 = h_i h 13 5 := (F4.2 13 5 (by decide +kernel)).1
  have e00 : h_i h4 0 0 = h_i h 0 0 := (F4.2 0 0 (by decide +kernel)).1
  have rd : ∀ k, h_i h4 37 k = h_i h 37 k := fun k => fr_i F4 (by decide +kernel) k
  have rt : ∀ k, h_i h4 38 k = h_i h 38 k := fun k => fr_i F4 (by decide +kernel) k
  refine ⟨I4.1, fun er => t_X11_keepRule_13 d h4 I4.1 x1 _ (Ci.mono (c_kpr_13 d I4 x1 (h_i h4 0 0)) (fun r3 h5 Y => ?_)), fun nr => ⟨I4, W4, fun _ => ⟨rfl, e11, e5, rd, rt⟩, fun o => absurd (e3.trans (ee.trans o.2.2)) nr⟩⟩
  have ev : enq (h_i h 31) (xn h) (ruq (h_i h 31) (xn h) (clq (h_i h 31) (xn h) (0 + 1))) = -1 := ee.symm.trans (e3.symm.trans er)
  obtain ⟨I5, F5, Yn, Yy⟩ := Y
  rw [e5] at Yn Yy
  rw [e00] at Yy
  have W5 : Fr wrx_13 h h5 := W4.tr (F5.more (by decide +kernel))
  refine ⟨I5.1, fun e7 => ⟨I5.1, I5, W5, fun _ => ?_, fun o => absurd e7 (Yy o.2.1).1⟩, fun n7 => Ci.mono (c_cut0 d I5) (fun _ h9 e9 => ?_)⟩
  · by_cases z : h_i h 13 5 = 20
    · have q := (Yn z).2
      subst q
      exact ⟨e7, e11, e5, rd, rt⟩
    · exact absurd e7 (Yy z).1
  · have z : ¬ h_i h 13 5 = 20 := fun z => n7 (Yn z).1
    obtain ⟨q0, q1, q2, q3, q4⟩ := Yy z
    subst e9
    refine ⟨(y1 I5).1, (y1 I5).1, y1 I5, W5.im (by decide +kernel), fun no => absurd ⟨bd, z, ev⟩ no, fun _ => ⟨q1, im_at, by rw [im_ne (by decide)]; exact q2, fun k => ?_, fun k => ?_⟩⟩
    · rw [im_ne (by decide), q3 k, rd]
    · rw [im_ne (by decide), q4 k, rt]
/-! pay of the class -/
def wkr_14 : List Nat := [14005, 42999, 43999, 44999, 45999]
theorem c_kpr_14 (d : Nat) {h : Hp_} (I : Iv h) (x1 x2 : Int32) : Ci (m_X10_keep (d + 1) 0 0) [.ref 14, .int x1, .int x2, .ref 11] h (fun r h' => Iv h' ∧ Fr wkr_14 h h' ∧ (h_i h 14 5 = 20 → r = -1 ∧ h' = h) ∧ (¬ h_i h 14 5 = 20 → ¬ r = -1 ∧ r = h_i h 14 5 ∧ h_i h' 14 5 = h_i h 14 5 + 1 ∧ (∀ k, h_i h' 42 k = if k = (h_i h 14 5).toNatClampNeg then x1 else h_i h 42 k) ∧ (∀ k, h_i h' 43 k = if k = (h_i h 14 5).toNatClampNeg then x2 else h_i h 43 k))) := by
  have t20 : (20 : Int32).toInt = 20 := rfl
  have t1 : (1 : Int32).toInt = 1 := rfl
  have t0 : (0 : Int32).toInt = 0 := rfl
  have t164 : (164 : Int32).toInt = 164 := rfl
  have rg := I.2.1 14 5
  rw [show tf 14 5 = (0, 20) by decide +kernel] at rg
  have b0 : 0 ≤ (h_i h 14 5).toInt := rg.1
  have b1 : (h_i h 14 5).toInt ≤ 20 := rg.2
  have r9 := I.2.1 11 9
  rw [show tf 11 9 = (0, 164) by decide +kernel] at r9
  have c0 : 0 ≤ (h_i h 11 9).toInt := r9.1
  have c1 : (h_i h 11 9).toInt ≤ 164 := r9.2
  refine t_X10_keep_14 d h I.1 x1 x2 _ ⟨fun z => ?_, fun z => ⟨I, Fr.rf _ _, fun _ => ⟨rfl, rfl⟩, fun n => ?_⟩⟩
  · have z := q_lt.mp z
    have n20 : ¬ h_i h 14 5 = 20 := fun e => by rw [e] at z; exact absurd z (by decide)
    have v : vp_in (h_i h 14 5) 20 := dp_in (lo := 0) (hi := 19) ⟨b0, by show _ ≤ (19 : Int); omega⟩ (by decide) (by decide)
    have m1 : (h_i h 14 5 * 164).toInt = (h_i h 14 5).toInt * 164 := by rw [tx_mul (by rw [t164]; omega) (by rw [t164]; omega), t164]
    have nn : ∀ x : Int32, 0 ≤ x.toInt → ¬ x < 0 := fun x hx y => by
      have y := q_lt.mp y
      omega
    have n5 := n_nat (x := h_i h 14 5 * 164) (by omega)
    have n9 := n_nat (x := h_i h 11 9) c0
    refine ⟨v, v, v, ⟨by decide, nn _ (by omega), nn _ c0, ?_, by omega⟩, ?_⟩
    · show 0 + (h_i h 11 9).toNatClampNeg ≤ 164
      omega
    · have I3 : Iv (h_im (h_im (h_im h 42 ((h_i h 14 5) : Int32).toNatClampNeg x1) 43 ((h_i h 14 5) : Int32).toNatClampNeg x2) 44 ((h_i h 14 5) : Int32).toNatClampNeg (h_i h 11 9)) := (i2xx 43 (by decide +kernel) (by decide) (by decide) (i2xx 42 (by decide +kernel) (by decide) (by decide) I _ _) _ _).im (a := 44) (by rw [tfa_tf (show tfa 44 = some (0, 164) by decide +kernel)]; exact ⟨c0, c1⟩) (jw_jr (by decide) (by decide) _)
      have F3 : Fr wkr_14 h (h_im (h_im (h_im h 42 ((h_i h 14 5) : Int32).toNatClampNeg x1) 43 ((h_i h 14 5) : Int32).toNatClampNeg x2) 44 ((h_i h 14 5) : Int32).toNatClampNeg (h_i h 11 9)) := (((Fr.rf _ _).im (inw_row (by decide +kernel) _)).im (inw_row (by decide +kernel) _)).im (inw_row (by decide +kernel) _)
      have w37 : ∀ k, h_i (h_im (h_im (h_im h 42 ((h_i h 14 5) : Int32).toNatClampNeg x1) 43 ((h_i h 14 5) : Int32).toNatClampNeg x2) 44 ((h_i h 14 5) : Int32).toNatClampNeg (h_i h 11 9)) 42 k = if k = (h_i h 14 5).toNatClampNeg then x1 else h_i h 42 k := fun k => by
        rw [im_ne (by decide), im_ne (by decide), h_i_im]
        by_cases y : k = (h_i h 14 5).toNatClampNeg
        · rw [if_pos ⟨rfl, y⟩, if_pos y]
        · rw [if_neg (fun u => y u.2), if_neg y]
      have w38 : ∀ k, h_i (h_im (h_im (h_im h 42 ((h_i h 14 5) : Int32).toNatClampNeg x1) 43 ((h_i h 14 5) : Int32).toNatClampNeg x2) 44 ((h_i h 14 5) : Int32).toNatClampNeg (h_i h 11 9)) 43 k = if k = (h_i h 14 5).toNatClampNeg then x2 else h_i h 43 k := fun k => by
        rw [im_ne (by decide), h_i_im]
        by_cases y : k = (h_i h 14 5).toNatClampNeg
        · rw [if_pos ⟨rfl, y⟩, if_pos y]
        · rw [if_neg (fun u => y u.2), if_neg y, im_ne (by decide)]
      have w5 : h_i (h_im (h_im (h_im h 42 ((h_i h 14 5) : Int32).toNatClampNeg x1) 43 ((h_i h 14 5) : Int32).toNatClampNeg x2) 44 ((h_i h 14 5) : Int32).toNatClampNeg (h_i h 11 9)) 14 5 = h_i h 14 5 := by rw [im_ne (by decide), im_ne (by decide), im_ne (by decide)]
      generalize h_im (h_im (h_im h 42 ((h_i h 14 5) : Int32).toNatClampNeg x1) 43 ((h_i h 14 5) : Int32).toNatClampNeg x2) 44 ((h_i h 14 5) : Int32).toNatClampNeg (h_i h 11 9) = h3 at I3 F3 w37 w38 w5 ⊢
      generalize va_cpy (h_i h3 33) (h_i h3 45) (0 : Int32).toNatClampNeg ((h_i h 14 5) * 164).toNatClampNeg (h_i h 11 9).toNatClampNeg = fc
      have I4 : Iv (h_iw h3 45 fc) := I3.iw (fun k => by rw [tfa_tf (show tfa 45 = some rtop by decide +kernel)]; exact rtop_in _) (by decide) (by decide)
      have F4 : Fr wkr_14 h (h_iw h3 45 fc) := F3.iw (by decide +kernel)
      have ne : ∀ a, a ≠ 45 → ∀ k, h_i (h_iw h3 45 fc) a k = h_i h3 a k := fun a na k => by rw [h_i_iw, if_neg na]
      have ex : (h_i h 14 5 + 1).toInt = (h_i h 14 5).toInt + 1 := tx_add (by rw [t1]; omega) (by rw [t1]; omega)
      refine t_X10_keep_14_68 d _ I4.1 _ ⟨?_, F4.im (by decide +kernel), fun y => absurd y n20, fun _ => ⟨?_, ?_, ?_, fun k => ?_, fun k => ?_⟩⟩
      · exact I4.im (a := 14) (k := 5) (by rw [show tf 14 5 = (0, 20) by decide +kernel, ne 14 (by decide), w5, ex]; exact ⟨by show (0 : Int) ≤ _; omega, by show _ ≤ (20 : Int); omega⟩) (by decide)
      · rw [ne 14 (by decide), w5]
        intro y
        have y := congrArg Int32.toInt y
        rw [tx_sub (by rw [t1]; omega) (by rw [t1]; omega), ex, t1, show (-1 : Int32).toInt = -1 from rfl] at y
        omega
      · rw [ne 14 (by decide), w5]
        refine Int32.toInt_inj.mp ?_
        rw [tx_sub (by rw [t1]; omega) (by rw [t1]; omega), ex, t1]
        omega
      · rw [im_at, ne 14 (by decide), w5]
      · rw [im_ne (by decide), ne 42 (by decide)]
        exact w37 k
      · rw [im_ne (by decide), ne 43 (by decide)]
        exact w38 k
  · have n20 : ¬ (h_i h 14 5).toInt < 20 := fun y => z (q_lt.mpr (by rw [t20]; exact y))
    exact absurd (Int32.toInt_inj.mp (by rw [t20]; omega)) n
def wrx_14 : List Nat := [11001, 11002, 11003, 11004, 11006, 11007, 11009, 14005, 33999, 42999, 43999, 44999, 45999]
def Rlx_14 (x1 : Int32) (h : Hp_) (r : Int32) (h' : Hp_) : Prop := (¬ okR (h_i h 31) (xn h) 1 x1 (h_i h 14 5) → r = -1 ∧ h_i h' 11 1 = h_i h 11 1 ∧ h_i h' 14 5 = h_i h 14 5 ∧ (∀ k, h_i h' 42 k = h_i h 42 k) ∧ (∀ k, h_i h' 43 k = h_i h 43 k)) ∧ (okR (h_i h 31) (xn h) 1 x1 (h_i h 14 5) → r = h_i h 14 5 ∧ h_i h' 11 1 = 0 ∧ h_i h' 14 5 = h_i h 14 5 + 1 ∧ (∀ k, h_i h' 42 k = if k = (h_i h 14 5).toNatClampNeg then x1 else h_i h 42 k) ∧ (∀ k, h_i h' 43 k = if k = (h_i h 14 5).toNatClampNeg then h_i h 0 0 else h_i h 43 k))
theorem c_payx (d : Nat) {h : Hp_} (I : Iv h) (x1 : Int32) : Ci (m_X11_pay (d + 141) 0 0) [.ref 0, .int x1] h (fun r h' => Iv h' ∧ Fr wrx_14 h h' ∧ Rlx_14 x1 h r h') := by
  have k := c_rr (b := h_i h 31) (n := xn h) (1 + 1) (by decide) d I rfl rfl 0 (by decide)
  rw [show d + 80 + 60 = d + 140 by omega] at k
  refine t_X11_pay d h I.1 x1 _ ⟨fun nb => ⟨I, Fr.rf _ _, fun _ => ⟨rfl, rfl, rfl, fun _ => rfl, fun _ => rfl⟩, fun o => absurd o.1 nb⟩, fun bd => Ci.mono k (fun r6 h4 X => ?_)⟩
  obtain ⟨e3, I4, F4, ee⟩ := X
  have W4 : Fr wrx_14 h h4 := F4.more (by decide +kernel)
  have e11 : h_i h4 11 1 = h_i h 11 1 := (F4.2 11 1 (by decide +kernel)).1
  have e5 : h_i h4 14 5 = h_i h 14 5 := (F4.2 14 5 (by decide +kernel)).1
  have e00 : h_i h4 0 0 = h_i h 0 0 := (F4.2 0 0 (by decide +kernel)).1
  have rd : ∀ k, h_i h4 42 k = h_i h 42 k := fun k => fr_i F4 (by decide +kernel) k
  have rt : ∀ k, h_i h4 43 k = h_i h 43 k := fun k => fr_i F4 (by decide +kernel) k
  refine ⟨I4.1, fun er => t_X11_keepRule_14 d h4 I4.1 x1 _ (Ci.mono (c_kpr_14 d I4 x1 (h_i h4 0 0)) (fun r3 h5 Y => ?_)), fun nr => ⟨I4, W4, fun _ => ⟨rfl, e11, e5, rd, rt⟩, fun o => absurd (e3.trans (ee.trans o.2.2)) nr⟩⟩
  have ev : enq (h_i h 31) (xn h) (ruq (h_i h 31) (xn h) (clq (h_i h 31) (xn h) (1 + 1))) = -1 := ee.symm.trans (e3.symm.trans er)
  obtain ⟨I5, F5, Yn, Yy⟩ := Y
  rw [e5] at Yn Yy
  rw [e00] at Yy
  have W5 : Fr wrx_14 h h5 := W4.tr (F5.more (by decide +kernel))
  refine ⟨I5.1, fun e7 => ⟨I5.1, I5, W5, fun _ => ?_, fun o => absurd e7 (Yy o.2.1).1⟩, fun n7 => Ci.mono (c_cut0 d I5) (fun _ h9 e9 => ?_)⟩
  · by_cases z : h_i h 14 5 = 20
    · have q := (Yn z).2
      subst q
      exact ⟨e7, e11, e5, rd, rt⟩
    · exact absurd e7 (Yy z).1
  · have z : ¬ h_i h 14 5 = 20 := fun z => n7 (Yn z).1
    obtain ⟨q0, q1, q2, q3, q4⟩ := Yy z
    subst e9
    refine ⟨(y1 I5).1, (y1 I5).1, y1 I5, W5.im (by decide +kernel), fun no => absurd ⟨bd, z, ev⟩ no, fun _ => ⟨q1, im_at, by rw [im_ne (by decide)]; exact q2, fun k => ?_, fun k => ?_⟩⟩
    · rw [im_ne (by decide), q3 k, rd]
    · rw [im_ne (by decide), q4 k, rt]
/-! bytes that come to the tape -/
def shj : Nat → Int32
  | 0 => -8
  | 1 => 0
  | 2 => 8
  | 3 => 16
  | _ => 24
abbrev byt (x : Int32) (j : Nat) : Int32 := (x >>> (shj j &&& 31)) &&& 255
def byq (x : Int32) : Nat → List Int32
  | 0 => []
  | j + 1 => (if byt x (j + 1) = 0 then [] else [byt x (j + 1)]) ++ byq x j
def rbq (f : Nat → Int32) : Nat → Nat → List Int32
  | 0, _ => []
  | k + 1, i => (if f i = 0 then [] else [f i]) ++ rbq f k (i + 1)
theorem byt_in (x : Int32) (j : Nat) : 0 ≤ (byt x j).toInt ∧ (byt x j).toInt ≤ 255 := by
  have t : (255 : Int32).toInt = 255 := rfl
  have k := and_r (x := x >>> (shj j &&& 31)) (y := 255) (by rw [t]; decide)
  rw [t] at k
  exact k
theorem byq_l (x : Int32) : ∀ j, (byq x j).length ≤ j
  | 0 => Nat.le_refl _
  | j + 1 => by
    have k := byq_l x j
    show ((if byt x (j + 1) = 0 then [] else [byt x (j + 1)]) ++ byq x j).length ≤ j + 1
    rw [List.length_append]
    split
    · show 0 + _ ≤ _
      omega
    · show 1 + _ ≤ _
      omega
theorem shj_n {j : Nat} (h : j ≤ 3) : ¬ shj (j + 1) < 0 ∧ shj (j + 1) + (-8) = shj j := by
  match j, h with
  | 0, _ => decide
  | 1, _ => decide
  | 2, _ => decide
  | 3, _ => decide
  | j + 4, h => exact absurd h (by omega)
theorem rb_4 (f : Nat → Int32) (x : Int32) (k i : Nat) (h4 : f i = byt x 4) (h3 : f (i + 1) = byt x 3) (h2 : f (i + 2) = byt x 2) (h1 : f (i + 3) = byt x 1) : rbq f (k + 4) i = byq x 4 ++ rbq f k (i + 4) := by
  show (if f i = 0 then [] else [f i]) ++ ((if f (i + 1) = 0 then [] else [f (i + 1)]) ++ ((if f (i + 2) = 0 then [] else [f (i + 2)]) ++ ((if f (i + 3) = 0 then [] else [f (i + 3)]) ++ rbq f k (i + 4)))) = ((if byt x 4 = 0 then [] else [byt x 4]) ++ ((if byt x 3 = 0 then [] else [byt x 3]) ++ ((if byt x 2 = 0 then [] else [byt x 2]) ++ ((if byt x 1 = 0 then [] else [byt x 1]) ++ [])))) ++ rbq f k (i + 4)
  rw [h4, h3, h2, h1]
  simp only [List.append_assoc, List.nil_append]
theorem by_0 (x1 x2 x3 x4 x5 : Int32) : by_ x1 x2 x3 x4 x5 (Int32.ofNat 0) = byt x1 4 := by
  unfold by_ byt
  rw [if_neg (by decide), show ((24 : Int32) - (8 * (Int32.ofNat 0 - Int32.ofNat 0 / 4 * 4))) = shj 4 by decide]
theorem by_1 (x1 x2 x3 x4 x5 : Int32) : by_ x1 x2 x3 x4 x5 (Int32.ofNat 1) = byt x1 3 := by
  unfold by_ byt
  rw [if_neg (by decide), show ((24 : Int32) - (8 * (Int32.ofNat 1 - Int32.ofNat 1 / 4 * 4))) = shj 3 by decide]
theorem by_2 (x1 x2 x3 x4 x5 : Int32) : by_ x1 x2 x3 x4 x5 (Int32.ofNat 2) = byt x1 2 := by
  unfold by_ byt
  rw [if_neg (by decide), show ((24 : Int32) - (8 * (Int32.ofNat 2 - Int32.ofNat 2 / 4 * 4))) = shj 2 by decide]
theorem by_3 (x1 x2 x3 x4 x5 : Int32) : by_ x1 x2 x3 x4 x5 (Int32.ofNat 3) = byt x1 1 := by
  unfold by_ byt
  rw [if_neg (by decide), show ((24 : Int32) - (8 * (Int32.ofNat 3 - Int32.ofNat 3 / 4 * 4))) = shj 1 by decide]
theorem by_4 (x1 x2 x3 x4 x5 : Int32) : by_ x1 x2 x3 x4 x5 (Int32.ofNat 4) = byt x2 4 := by
  unfold by_ byt
  rw [if_pos (by decide), if_neg (by decide), show ((24 : Int32) - (8 * (Int32.ofNat 4 - Int32.ofNat 4 / 4 * 4))) = shj 4 by decide]
theorem by_5 (x1 x2 x3 x4 x5 : Int32) : by_ x1 x2 x3 x4 x5 (Int32.ofNat 5) = byt x2 3 := by
  unfold by_ byt
  rw [if_pos (by decide), if_neg (by decide), show ((24 : Int32) - (8 * (Int32.ofNat 5 - Int32.ofNat 5 / 4 * 4))) = shj 3 by decide]
theorem by_6 (x1 x2 x3 x4 x5 : Int32) : by_ x1 x2 x3 x4 x5 (Int32.ofNat 6) = byt x2 2 := by
  unfold by_ byt
  rw [if_pos (by decide), if_neg (by decide), show ((24 : Int32) - (8 * (Int32.ofNat 6 - Int32.ofNat 6 / 4 * 4))) = shj 2 by decide]
theorem by_7 (x1 x2 x3 x4 x5 : Int32) : by_ x1 x2 x3 x4 x5 (Int32.ofNat 7) = byt x2 1 := by
  unfold by_ byt
  rw [if_pos (by decide), if_neg (by decide), show ((24 : Int32) - (8 * (Int32.ofNat 7 - Int32.ofNat 7 / 4 * 4))) = shj 1 by decide]
theorem by_8 (x1 x2 x3 x4 x5 : Int32) : by_ x1 x2 x3 x4 x5 (Int32.ofNat 8) = byt x3 4 := by
  unfold by_ byt
  rw [if_pos (by decide), if_pos (by decide), if_neg (by decide), show ((24 : Int32) - (8 * (Int32.ofNat 8 - Int32.ofNat 8 / 4 * 4))) = shj 4 by decide]
theorem by_9 (x1 x2 x3 x4 x5 : Int32) : by_ x1 x2 x3 x4 x5 (Int32.ofNat 9) = byt x3 3 := by
  unfold by_ byt
  rw [if_pos (by decide), if_pos (by decide), if_neg (by decide), show ((24 : Int32) - (8 * (Int32.ofNat 9 - Int32.ofNat 9 / 4 * 4))) = shj 3 by decide]
theorem by_10 (x1 x2 x3 x4 x5 : Int32) : by_ x1 x2 x3 x4 x5 (Int32.ofNat 10) = byt x3 2 := by
  unfold by_ byt
  rw [if_pos (by decide), if_pos (by decide), if_neg (by decide), show ((24 : Int32) - (8 * (Int32.ofNat 10 - Int32.ofNat 10 / 4 * 4))) = shj 2 by decide]
theorem by_11 (x1 x2 x3 x4 x5 : Int32) : by_ x1 x2 x3 x4 x5 (Int32.ofNat 11) = byt x3 1 := by
  unfold by_ byt
  rw [if_pos (by decide), if_pos (by decide), if_neg (by decide), show ((24 : Int32) - (8 * (Int32.ofNat 11 - Int32.ofNat 11 / 4 * 4))) = shj 1 by decide]
theorem by_12 (x1 x2 x3 x4 x5 : Int32) : by_ x1 x2 x3 x4 x5 (Int32.ofNat 12) = byt x4 4 := by
  unfold by_ byt
  rw [if_pos (by decide), if_pos (by decide), if_pos (by decide), if_neg (by decide), show ((24 : Int32) - (8 * (Int32.ofNat 12 - Int32.ofNat 12 / 4 * 4))) = shj 4 by decide]
theorem by_13 (x1 x2 x3 x4 x5 : Int32) : by_ x1 x2 x3 x4 x5 (Int32.ofNat 13) = byt x4 3 := by
  unfold by_ byt
  rw [if_pos (by decide), if_pos (by decide), if_pos (by decide), if_neg (by decide), show ((24 : Int32) - (8 * (Int32.ofNat 13 - Int32.ofNat 13 / 4 * 4))) = shj 3 by decide]
theorem by_14 (x1 x2 x3 x4 x5 : Int32) : by_ x1 x2 x3 x4 x5 (Int32.ofNat 14) = byt x4 2 := by
  unfold by_ byt
  rw [if_pos (by decide), if_pos (by decide), if_pos (by decide), if_neg (by decide), show ((24 : Int32) - (8 * (Int32.ofNat 14 - Int32.ofNat 14 / 4 * 4))) = shj 2 by decide]
theorem by_15 (x1 x2 x3 x4 x5 : Int32) : by_ x1 x2 x3 x4 x5 (Int32.ofNat 15) = byt x4 1 := by
  unfold by_ byt
  rw [if_pos (by decide), if_pos (by decide), if_pos (by decide), if_neg (by decide), show ((24 : Int32) - (8 * (Int32.ofNat 15 - Int32.ofNat 15 / 4 * 4))) = shj 1 by decide]
theorem by_16 (x1 x2 x3 x4 x5 : Int32) : by_ x1 x2 x3 x4 x5 (Int32.ofNat 16) = byt x5 4 := by
  unfold by_ byt
  rw [if_pos (by decide), if_pos (by decide), if_pos (by decide), if_pos (by decide), show ((24 : Int32) - (8 * (Int32.ofNat 16 - Int32.ofNat 16 / 4 * 4))) = shj 4 by decide]
theorem by_17 (x1 x2 x3 x4 x5 : Int32) : by_ x1 x2 x3 x4 x5 (Int32.ofNat 17) = byt x5 3 := by
  unfold by_ byt
  rw [if_pos (by decide), if_pos (by decide), if_pos (by decide), if_pos (by decide), show ((24 : Int32) - (8 * (Int32.ofNat 17 - Int32.ofNat 17 / 4 * 4))) = shj 3 by decide]
theorem by_18 (x1 x2 x3 x4 x5 : Int32) : by_ x1 x2 x3 x4 x5 (Int32.ofNat 18) = byt x5 2 := by
  unfold by_ byt
  rw [if_pos (by decide), if_pos (by decide), if_pos (by decide), if_pos (by decide), show ((24 : Int32) - (8 * (Int32.ofNat 18 - Int32.ofNat 18 / 4 * 4))) = shj 2 by decide]
theorem by_19 (x1 x2 x3 x4 x5 : Int32) : by_ x1 x2 x3 x4 x5 (Int32.ofNat 19) = byt x5 1 := by
  unfold by_ byt
  rw [if_pos (by decide), if_pos (by decide), if_pos (by decide), if_pos (by decide), show ((24 : Int32) - (8 * (Int32.ofNat 19 - Int32.ofNat 19 / 4 * 4))) = shj 1 by decide]
def fdq (x1 x2 x3 x4 x5 : Int32) : List Int32 := byq x1 4 ++ (byq x2 4 ++ (byq x3 4 ++ (byq x4 4 ++ (byq x5 4 ++ []))))
theorem rb_fd (x1 x2 x3 x4 x5 : Int32) : rbq (fun i => by_ x1 x2 x3 x4 x5 (Int32.ofNat i)) 20 0 = fdq x1 x2 x3 x4 x5 := by
  unfold fdq
  generalize hf : (fun i => by_ x1 x2 x3 x4 x5 (Int32.ofNat i)) = f
  have bf : ∀ i, f i = by_ x1 x2 x3 x4 x5 (Int32.ofNat i) := fun i => by rw [← hf]
  have e1 : rbq f 20 0 = byq x1 4 ++ rbq f 16 4 := rb_4 f x1 16 0 ((bf 0).trans (by_0 x1 x2 x3 x4 x5)) ((bf 1).trans (by_1 x1 x2 x3 x4 x5)) ((bf 2).trans (by_2 x1 x2 x3 x4 x5)) ((bf 3).trans (by_3 x1 x2 x3 x4 x5))
  have e2 : rbq f 16 4 = byq x2 4 ++ rbq f 12 8 := rb_4 f x2 12 4 ((bf 4).trans (by_4 x1 x2 x3 x4 x5)) ((bf 5).trans (by_5 x1 x2 x3 x4 x5)) ((bf 6).trans (by_6 x1 x2 x3 x4 x5)) ((bf 7).trans (by_7 x1 x2 x3 x4 x5))
  have e3 : rbq f 12 8 = byq x3 4 ++ rbq f 8 12 := rb_4 f x3 8 8 ((bf 8).trans (by_8 x1 x2 x3 x4 x5)) ((bf 9).trans (by_9 x1 x2 x3 x4 x5)) ((bf 10).trans (by_10 x1 x2 x3 x4 x5)) ((bf 11).trans (by_11 x1 x2 x3 x4 x5))
  have e4 : rbq f 8 12 = byq x4 4 ++ rbq f 4 16 := rb_4 f x4 4 12 ((bf 12).trans (by_12 x1 x2 x3 x4 x5)) ((bf 13).trans (by_13 x1 x2 x3 x4 x5)) ((bf 14).trans (by_14 x1 x2 x3 x4 x5)) ((bf 15).trans (by_15 x1 x2 x3 x4 x5))
  have e5 : rbq f 4 16 = byq x5 4 ++ rbq f 0 20 := rb_4 f x5 0 16 ((bf 16).trans (by_16 x1 x2 x3 x4 x5)) ((bf 17).trans (by_17 x1 x2 x3 x4 x5)) ((bf 18).trans (by_18 x1 x2 x3 x4 x5)) ((bf 19).trans (by_19 x1 x2 x3 x4 x5))
  rw [e1, e2, e3, e4, e5]
  rfl
theorem rbq_l (f : Nat → Int32) : ∀ k i, (rbq f k i).length ≤ k
  | 0, _ => Nat.le_refl _
  | k + 1, i => by
    have q := rbq_l f k (i + 1)
    show ((if f i = 0 then [] else [f i]) ++ rbq f k (i + 1)).length ≤ k + 1
    rw [List.length_append]
    split
    · show 0 + _ ≤ _
      omega
    · show 1 + _ ≤ _
      omega
/-! the class -/
theorem c_sgn (d : Nat) (h : Hp_) (x : Int32) : Ci (m_X8_signs (d + 0) 0 0) [.int x] h (fun r h' => h' = h ∧ r = Int32.ofNat (byq x 4).length) := by
  have lp : ∀ (j m : Nat), j ≤ 4 → m + j ≤ 4 → AW (m_X8_signs (d + 0) 0 0) 0 0 5 [(0, .int x), (1, .int (Int32.ofNat m)), (2, .int (shj j))] [] h (kI (fun r h' => h' = h ∧ r = Int32.ofNat (m + (byq x j).length))) := by
    intro j
    induction j with
    | zero =>
      intro m _ _
      exact t_X8_signs_5 d h x (Int32.ofNat m) (shj 0) _ ⟨fun _ => ⟨rfl, rfl⟩, fun z => absurd (by decide) z⟩
    | succ j ih =>
      intro m hj hm
      have s := shj_n (j := j) (by omega)
      refine t_X8_signs_5 d h x (Int32.ofNat m) (shj (j + 1)) _ ⟨fun z => absurd z s.1, fun _ => ⟨fun e => ?_, fun ne => ?_⟩⟩
      · rw [s.2]
        have k := ih m (by omega) (by omega)
        have e' : byq x (j + 1) = byq x j := by
          show (if byt x (j + 1) = 0 then [] else [byt x (j + 1)]) ++ byq x j = _
          rw [if_pos e, List.nil_append]
        rw [e']
        exact k
      · rw [s.2, on_s (by omega)]
        have k := ih (m + 1) (by omega) (by omega)
        have e' : (byq x (j + 1)).length = 1 + (byq x j).length := by
          show ((if byt x (j + 1) = 0 then [] else [byt x (j + 1)]) ++ byq x j).length = _
          rw [if_neg ne, List.length_append]
          rfl
        rw [e', ← Nat.add_assoc]
        exact k
  refine t_X8_signs d h x _ ?_
  have k := lp 4 0 (by omega) (by omega)
  rw [Nat.zero_add] at k
  exact k
/-- a list laid behind what stands in a row -/
def Apd (a : Nat) (n : Nat) (L : List Int32) (h h' : Hp_) : Prop := (∀ k, k < n → h_i h' a k = h_i h a k) ∧ ∀ k y, L[k]? = some y → h_i h' a (n + k) = y
theorem Apd.nil (a n : Nat) (h : Hp_) : Apd a n [] h h := ⟨fun _ _ => rfl, fun k y e => by simp at e⟩
theorem Apd.tr {a n : Nat} {L M : List Int32} {h h1 h2 : Hp_} (A : Apd a n L h h1) (B : Apd a (n + L.length) M h1 h2) : Apd a n (L ++ M) h h2 := by
  refine ⟨fun k hk => (B.1 k (by omega)).trans (A.1 k hk), fun k y e => ?_⟩
  rcases Nat.lt_or_ge k L.length with u | u
  · rw [List.getElem?_append_left u] at e
    rw [B.1 (n + k) (by omega)]
    exact A.2 k y e
  · rw [List.getElem?_append_right u] at e
    have q := B.2 _ y e
    rw [show n + L.length + (k - L.length) = n + k by omega] at q
    exact q
theorem c_apd (d : Nat) (x : Int32) : ∀ (h : Hp_), Iv h → xn h + (byq x 4).length ≤ 160 → Cv (m_X8_append (d + 0) 0 0) [.ref 11, .int x] h (fun h' => Iv h' ∧ Fr [11001, 31999] h h' ∧ xn h' = xn h + (byq x 4).length ∧ Apd 31 (xn h) (byq x 4) h h') := by
  have t1 : (1 : Int32).toInt = 1 := rfl
  have t160 : (160 : Int32).toInt = 160 := rfl
  have lp : ∀ (j : Nat) (h : Hp_), j ≤ 4 → Iv h → xn h + (byq x j).length ≤ 160 → AW (m_X8_append (d + 0) 0 0) 0 0 3 [(0, .ref 11), (1, .int x), (2, .int (shj j))] [] h (kV (fun h' => Iv h' ∧ Fr [11001, 31999] h h' ∧ xn h' = xn h + (byq x j).length ∧ Apd 31 (xn h) (byq x j) h h')) := by
    intro j
    induction j with
    | zero =>
      intro h _ I _
      exact t_X8_append_3 d h I.1 x (shj 0) _ ⟨fun _ => ⟨I, Fr.rf _ _, rfl, Apd.nil _ _ _⟩, fun z => absurd (by decide) z⟩
    | succ j ih =>
      intro h hj I hl
      have s := shj_n (j := j) (by omega)
      have ni := xn_i I
      have b1 := x1_in I
      refine t_X8_append_3 d h I.1 x (shj (j + 1)) _ ⟨fun z => absurd z s.1, fun _ => ⟨fun e => ?_, fun ne => ?_⟩⟩
      · rw [s.2]
        have e' : byq x (j + 1) = byq x j := by
          show (if byt x (j + 1) = 0 then [] else [byt x (j + 1)]) ++ byq x j = _
          rw [if_pos e, List.nil_append]
        rw [e'] at hl ⊢
        exact ih h (by omega) I hl
      · have e' : byq x (j + 1) = [byt x (j + 1)] ++ byq x j := by
          show (if byt x (j + 1) = 0 then [] else [byt x (j + 1)]) ++ byq x j = _
          rw [if_neg ne]
        rw [e'] at hl ⊢
        rw [List.length_append, List.length_singleton] at hl
        refine ⟨fun z => ?_, fun _ => ⟨dp_in (lo := 0) (hi := 159) ⟨b1.1, by show _ ≤ (159 : Int); omega⟩ (by decide) (by decide), ?_⟩⟩
        · have z := q_le.mp z
          omega
        · rw [s.2]
          have ex : (h_i h 11 1 + 1).toInt = (h_i h 11 1).toInt + 1 := tx_add (by rw [t1]; omega) (by rw [t1]; omega)
          have bi := byt_in x (j + 1)
          have I2 : Iv (h_im (h_im h 31 ((h_i h 11 1) : Int32).toNatClampNeg (byt x (j + 1))) 11 1 ((h_i h 11 1) + 1)) := (I.im (a := 31) (by rw [tfa_tf (show tfa 31 = some (0, 255) by decide +kernel)]; exact ⟨bi.1, bi.2⟩) (jw_jr (by decide) (by decide) _)).im (a := 11) (k := 1) (by rw [show tf 11 1 = (0, 160) by decide +kernel, ex]; exact ⟨by show (0 : Int) ≤ _; omega, by show _ ≤ (160 : Int); omega⟩) (by decide)
          have F2 : Fr [11001, 31999] h (h_im (h_im h 31 ((h_i h 11 1) : Int32).toNatClampNeg (byt x (j + 1))) 11 1 ((h_i h 11 1) + 1)) := ((Fr.rf _ _).im (inw_row (by decide +kernel) _)).im (by decide +kernel)
          have A2 : Apd 31 (xn h) [byt x (j + 1)] h (h_im (h_im h 31 ((h_i h 11 1) : Int32).toNatClampNeg (byt x (j + 1))) 11 1 ((h_i h 11 1) + 1)) := by
            refine ⟨fun k hk => ?_, fun k y e => ?_⟩
            · rw [im_ne (by decide), h_i_im, if_neg (fun u => by have u := u.2; have hk : k < (h_i h 11 1).toNatClampNeg := hk; omega)]
            · have k0 : k = 0 := by
                rcases Nat.lt_or_ge k 1 with u | u
                · omega
                · rw [List.getElem?_eq_none (by show 1 ≤ k; omega)] at e
                  cases e
              subst k0
              have e : byt x (j + 1) = y := by simpa using e
              rw [im_ne (by decide), h_i_im, if_pos ⟨rfl, rfl⟩, e]
          have n2 : xn (h_im (h_im h 31 ((h_i h 11 1) : Int32).toNatClampNeg (byt x (j + 1))) 11 1 ((h_i h 11 1) + 1)) = xn h + 1 := by
            have q := xn_i I2
            rw [im_at] at q
            omega
          generalize h_im (h_im h 31 ((h_i h 11 1) : Int32).toNatClampNeg (byt x (j + 1))) 11 1 ((h_i h 11 1) + 1) = h2 at I2 F2 A2 n2 ⊢
          refine AW.mono (ih h2 (by omega) I2 (by omega)) (fun v h' k => ?_)
          obtain ⟨ev, k1, k2, k3, k4⟩ := k
          refine ⟨ev, k1, F2.tr k2, by rw [k3, n2, List.length_append, List.length_singleton]; omega, A2.tr ?_⟩
          rw [n2] at k4
          exact k4
  intro h I hl
  exact t_X8_append d h x _ (lp 4 h (by omega) I hl)
def Fdx (L : List Int32) (h : Hp_) (r : Int32) (h' : Hp_) : Prop := (xn h + L.length ≤ 160 → r = Int32.ofNat (xn h + L.length) ∧ xn h' = xn h + L.length ∧ Apd 31 (xn h) L h h') ∧ (¬ xn h + L.length ≤ 160 → r = -1 ∧ h' = h)
theorem c_fdx (d : Nat) {h : Hp_} (I : Iv h) (x1 x2 x3 x4 x5 : Int32) : Ci (m_X11_feed (d + 2) 0 0) [.ref 0, .int x1, .int x2, .int x3, .int x4, .int x5] h (fun r h' => Iv h' ∧ Fr [11001, 31999] h h' ∧ Fdx (fdq x1 x2 x3 x4 x5) h r h') := by
  have ni := xn_i I
  have b1 := x1_in I
  have t160 : (160 : Int32).toInt = 160 := rfl
  have q1 := byq_l x1 4
  have q2 := byq_l x2 4
  have q3 := byq_l x3 4
  have q4 := byq_l x4 4
  have q5 := byq_l x5 4
  have fl : (fdq x1 x2 x3 x4 x5).length = (byq x1 4).length + (byq x2 4).length + (byq x3 4).length + (byq x4 4).length + (byq x5 4).length := by
    unfold fdq
    rw [List.length_append, List.length_append, List.length_append, List.length_append, List.length_append]
    show _ + (_ + (_ + (_ + (_ + 0)))) = _
    omega
  refine t_X11_feed d h I.1 x1 x2 x3 x4 x5 _ (t_X8_takeIn d h x1 x2 x3 x4 x5 _ ?_)
  refine Ci.mono (c_sgn d h x1) (fun r1 g1 k => ?_)
  obtain ⟨e, r1e⟩ := k
  subst e
  refine ⟨I.1, Ci.mono (c_sgn d g1 x2) (fun r2 g2 k => ?_)⟩
  obtain ⟨e, r2e⟩ := k
  subst e
  refine ⟨I.1, Ci.mono (c_sgn d g2 x3) (fun r3 g3 k => ?_)⟩
  obtain ⟨e, r3e⟩ := k
  subst e
  refine ⟨I.1, Ci.mono (c_sgn d g3 x4) (fun r4 g4 k => ?_)⟩
  obtain ⟨e, r4e⟩ := k
  subst e
  refine ⟨I.1, Ci.mono (c_sgn d g4 x5) (fun r5 g5 k => ?_)⟩
  obtain ⟨e, r5e⟩ := k
  subst e
  have p1 : r1.toInt = ((byq x1 4).length : Int) := by rw [r1e, on_j (by omega)]
  have p2 : r2.toInt = ((byq x2 4).length : Int) := by rw [r2e, on_j (by omega)]
  have p3 : r3.toInt = ((byq x3 4).length : Int) := by rw [r3e, on_j (by omega)]
  have p4 : r4.toInt = ((byq x4 4).length : Int) := by rw [r4e, on_j (by omega)]
  have p5 : r5.toInt = ((byq x5 4).length : Int) := by rw [r5e, on_j (by omega)]
  have s2 : (r1 + r2).toInt = r1.toInt + r2.toInt := tx_add (by omega) (by omega)
  have s3 : (r1 + r2 + r3).toInt = r1.toInt + r2.toInt + r3.toInt := by rw [tx_add (by omega) (by omega), s2]
  have s4 : (r1 + r2 + r3 + r4).toInt = r1.toInt + r2.toInt + r3.toInt + r4.toInt := by rw [tx_add (by omega) (by omega), s3]
  have s5 : (r1 + r2 + r3 + r4 + r5).toInt = r1.toInt + r2.toInt + r3.toInt + r4.toInt + r5.toInt := by rw [tx_add (by omega) (by omega), s4]
  have s6 : (h_i g5 11 1 + (r1 + r2 + r3 + r4 + r5)).toInt = (h_i g5 11 1).toInt + (r1.toInt + r2.toInt + r3.toInt + r4.toInt + r5.toInt) := by rw [tx_add (by omega) (by omega), s5]
  refine ⟨I.1, fun z => ?_, fun z => ⟨I.1, I, Fr.rf _ _, fun l => ?_, fun _ => ⟨rfl, rfl⟩⟩⟩
  · have z := q_le.mp z
    refine Cv.mono (c_apd d x1 g5 I (by omega)) (fun a1 k1 => ⟨k1.1.1, Cv.mono (c_apd d x2 a1 k1.1 (by rw [k1.2.2.1]; omega)) (fun a2 k2 => ⟨k2.1.1, Cv.mono (c_apd d x3 a2 k2.1 (by rw [k2.2.2.1, k1.2.2.1]; omega)) (fun a3 k3 => ⟨k3.1.1, Cv.mono (c_apd d x4 a3 k3.1 (by rw [k3.2.2.1, k2.2.2.1, k1.2.2.1]; omega)) (fun a4 k4 => ⟨k4.1.1, Cv.mono (c_apd d x5 a4 k4.1 (by rw [k4.2.2.1, k3.2.2.1, k2.2.2.1, k1.2.2.1]; omega)) (fun a5 k5 => ?_)⟩)⟩)⟩)⟩)
    have n5 : xn a5 = xn g5 + (fdq x1 x2 x3 x4 x5).length := by rw [k5.2.2.1, k4.2.2.1, k3.2.2.1, k2.2.2.1, k1.2.2.1, fl]; omega
    have A4 := k4.2.2.2
    have A3 := k3.2.2.2
    have A2 := k2.2.2.2
    have A5 := k5.2.2.2
    rw [k4.2.2.1] at A5
    have B4 := A4.tr A5
    rw [k3.2.2.1] at B4
    have B3 := A3.tr B4
    rw [k2.2.2.1] at B3
    have B2 := A2.tr B3
    rw [k1.2.2.1] at B2
    have B1 := k1.2.2.2.tr B2
    refine ⟨k5.1.1, k5.1.1, k5.1, (((k1.2.1.tr k2.2.1).tr k3.2.1).tr k4.2.1).tr k5.2.1, fun _ => ⟨?_, n5, ?_⟩, fun l => absurd (by omega) l⟩
    · rw [← n5]
      exact (of_nat32 (x1_in k5.1).1).symm
    · unfold fdq
      rw [List.append_nil]
      exact B1
  · refine absurd (q_le.mpr ?_) z
    omega
theorem c_endx (d : Nat) {h : Hp_} (I : Iv h) (x1 : Int32) : Ci (m_X11_end (d + 2) 0 0) [.ref 0, .int x1] h (fun r h' => Iv h' ∧ Fr [11001] h h' ∧ (((0 ≤ x1 ∧ x1 ≤ h_i h 11 1) ∧ r = 1 ∧ h' = h_im h 11 1 x1) ∨ (¬ (0 ≤ x1 ∧ x1 ≤ h_i h 11 1) ∧ r = 0 ∧ h' = h))) := by
  refine t_X11_end d h I.1 x1 _ (t_X8_cut d h I.1 x1 _ ⟨fun b => ?_, fun b => ⟨I.1, Or.inl rfl, I, Fr.rf _ _, Or.inr ⟨b, rfl, rfl⟩⟩⟩)
  have b0 := q_le.mp b.1
  have b2 := q_le.mp b.2
  have b3 := (x1_in I).2
  have t0 : (0 : Int32).toInt = 0 := rfl
  have I2 : Iv (h_im h 11 1 x1) := I.im (by rw [show tf 11 1 = (0, 160) by decide +kernel]; exact ⟨by show (0 : Int) ≤ _; omega, by show _ ≤ (160 : Int); omega⟩) (by decide)
  exact ⟨I2.1, Or.inr rfl, I2, (Fr.rf _ _).im (by decide +kernel), Or.inl ⟨b, rfl, rfl⟩⟩
/-! the reference -/
theorem c_fdm (d : Nat) {h : Hp_} (I : Iv h) (x1 x2 x3 x4 x5 : Int32) : Ci (m_X12_feed (d + 1) 0 0) [.ref 1, .int x1, .int x2, .int x3, .int x4, .int x5] h (fun r h' => Iv h' ∧ Fr [1032, 225999] h h' ∧ (tn h + (fdq x1 x2 x3 x4 x5).length ≤ 160 → r = Int32.ofNat (tn h + (fdq x1 x2 x3 x4 x5).length) ∧ tn h' = tn h + (fdq x1 x2 x3 x4 x5).length ∧ Apd 225 (tn h) (fdq x1 x2 x3 x4 x5) h h') ∧ (¬ tn h + (fdq x1 x2 x3 x4 x5).length ≤ 160 → r = -1 ∧ h' = h)) := by
  have t1 : (1 : Int32).toInt = 1 := rfl
  have t20 : (20 : Int32).toInt = 20 := rfl
  have t160 : (160 : Int32).toInt = 160 := rfl
  have ni : (tn h : Int) = (h_i h 1 32).toInt := tn_i I
  have z0 : 0 ≤ (h_i h 1 32).toInt := (pz_in I).1
  have z1 : (h_i h 1 32).toInt ≤ 160 := (pz_in I).2
  rw [← rb_fd]
  generalize hf : (fun i => by_ x1 x2 x3 x4 x5 (Int32.ofNat i)) = f
  have bf : ∀ i, by_ x1 x2 x3 x4 x5 (Int32.ofNat i) = f i := fun i => by rw [← hf]
  have rl := rbq_l f 20 0
  have wr : tn h + (rbq f 20 0).length ≤ 160 → ∀ (k i : Nat) (h2 : Hp_), i + k = 20 → Iv h2 → Fr [1032, 225999] h h2 → tn h2 + (rbq f k i).length ≤ 160 → AW (m_X12_feed (d + 1) 0 0) 0 0 62 [(0, .ref 1), (1, .int x1), (2, .int x2), (3, .int x3), (4, .int x4), (5, .int x5), (7, .int (Int32.ofNat i))] [] h2 (kI (fun r h' => Iv h' ∧ Fr [1032, 225999] h2 h' ∧ r = Int32.ofNat (tn h2 + (rbq f k i).length) ∧ tn h' = tn h2 + (rbq f k i).length ∧ Apd 225 (tn h2) (rbq f k i) h2 h')) := by
    intro _ k
    induction k with
    | zero =>
      intro i h2 e I2 F2 l
      have oi := on_j (n := i) (by omega)
      refine t_X12_feed_62 d h2 I2.1 x1 x2 x3 x4 x5 _ _ ⟨fun _ => ⟨I2, Fr.rf _ _, ?_, rfl, Apd.nil _ _ _⟩, fun z => absurd (q_le.mpr (by rw [oi, t20]; omega)) z⟩
      exact (of_nat32 (pz_in I2).1).symm
    | succ k ih =>
      intro i h2 e I2 F2 l
      have oi := on_j (n := i) (by omega)
      have n2 : (tn h2 : Int) = (h_i h2 1 32).toInt := tn_i I2
      have y0 : 0 ≤ (h_i h2 1 32).toInt := (pz_in I2).1
      refine t_X12_feed_62 d h2 I2.1 x1 x2 x3 x4 x5 _ _ ⟨fun z => ?_, fun _ => Ci.mono (sf_X12_byteOf d h2 x1 x2 x3 x4 x5 _) (fun r h3 q => ?_)⟩
      · have z := q_le.mp z
        rw [oi, t20] at z
        omega
      · obtain ⟨er, eh⟩ := q
        subst eh
        rw [bf] at er
        subst er
        refine ⟨I2.1, fun e0 => ?_, fun n0 => ?_⟩
        · rw [on_s (by omega)]
          have e' : rbq f (k + 1) i = rbq f k (i + 1) := by
            show (if f i = 0 then [] else [f i]) ++ rbq f k (i + 1) = _
            rw [if_pos e0, List.nil_append]
          rw [e'] at l ⊢
          exact ih (i + 1) h3 (by omega) I2 F2 l
        · have e' : rbq f (k + 1) i = [f i] ++ rbq f k (i + 1) := by
            show (if f i = 0 then [] else [f i]) ++ rbq f k (i + 1) = _
            rw [if_neg n0]
          rw [e'] at l ⊢
          rw [List.length_append, List.length_singleton] at l
          rw [on_s (by omega)]
          refine ⟨dp_in (lo := 0) (hi := 159) ⟨y0, by show _ ≤ (159 : Int); omega⟩ (by decide) (by decide), ?_⟩
          have ex : (h_i h3 1 32 + 1).toInt = (h_i h3 1 32).toInt + 1 := tx_add (by rw [t1]; omega) (by rw [t1]; omega)
          have I4 : Iv (h_im (h_im h3 225 ((h_i h3 1 32) : Int32).toNatClampNeg (f i)) 1 32 ((h_i h3 1 32) + 1)) := i32 (i2xx 225 (by decide +kernel) (by decide) (by decide) I2 _ _) ⟨by rw [ex]; show (0 : Int) ≤ _; omega, by rw [ex]; show _ ≤ (160 : Int); omega⟩
          have F4 : Fr [1032, 225999] h3 (h_im (h_im h3 225 ((h_i h3 1 32) : Int32).toNatClampNeg (f i)) 1 32 ((h_i h3 1 32) + 1)) := ((Fr.rf _ _).im (inw_row (by decide +kernel) _)).im (by decide +kernel)
          have A4 : Apd 225 (tn h3) [f i] h3 (h_im (h_im h3 225 ((h_i h3 1 32) : Int32).toNatClampNeg (f i)) 1 32 ((h_i h3 1 32) + 1)) := by
            refine ⟨fun q hq => ?_, fun q y e => ?_⟩
            · rw [im_ne (by decide), h_i_im, if_neg (fun u => by have u := u.2; have hq : q < (h_i h3 1 32).toNatClampNeg := hq; omega)]
            · have k0 : q = 0 := by
                rcases Nat.lt_or_ge q 1 with u | u
                · omega
                · rw [List.getElem?_eq_none (by show 1 ≤ q; omega)] at e
                  cases e
              subst k0
              have e : f i = y := by simpa using e
              rw [im_ne (by decide), h_i_im, if_pos ⟨rfl, rfl⟩, e]
          have n4 : tn (h_im (h_im h3 225 ((h_i h3 1 32) : Int32).toNatClampNeg (f i)) 1 32 ((h_i h3 1 32) + 1)) = tn h3 + 1 := by
            have q : (tn (h_im (h_im h3 225 ((h_i h3 1 32) : Int32).toNatClampNeg (f i)) 1 32 ((h_i h3 1 32) + 1)) : Int) = (h_i (h_im (h_im h3 225 ((h_i h3 1 32) : Int32).toNatClampNeg (f i)) 1 32 ((h_i h3 1 32) + 1)) 1 32).toInt := tn_i I4
            rw [im_at] at q
            omega
          generalize h_im (h_im h3 225 ((h_i h3 1 32) : Int32).toNatClampNeg (f i)) 1 32 ((h_i h3 1 32) + 1) = h4 at I4 F4 A4 n4 ⊢
          refine AW.mono (ih (i + 1) h4 (by omega) I4 (F2.tr F4) (by omega)) (fun v h' q => ?_)
          obtain ⟨r, er, k1, k2, k3, k4, k5⟩ := q
          refine ⟨r, er, k1, F4.tr k2, ?_, ?_, A4.tr ?_⟩
          · rw [k3, n4, List.length_append, List.length_singleton, Nat.add_assoc]
          · rw [k4, n4, List.length_append, List.length_singleton, Nat.add_assoc]
          · rw [n4] at k5
            exact k5
  have ct : ∀ (k i m : Nat), i + k = 20 → m + (rbq f k i).length = (rbq f 20 0).length → AW (m_X12_feed (d + 1) 0 0) 0 0 6 [(0, .ref 1), (1, .int x1), (2, .int x2), (3, .int x3), (4, .int x4), (5, .int x5), (6, .int (Int32.ofNat m)), (7, .int (Int32.ofNat i))] [] h (kI (fun r h' => Iv h' ∧ Fr [1032, 225999] h h' ∧ (tn h + (rbq f 20 0).length ≤ 160 → r = Int32.ofNat (tn h + (rbq f 20 0).length) ∧ tn h' = tn h + (rbq f 20 0).length ∧ Apd 225 (tn h) (rbq f 20 0) h h') ∧ (¬ tn h + (rbq f 20 0).length ≤ 160 → r = -1 ∧ h' = h))) := by
    intro k
    induction k with
    | zero =>
      intro i m e em
      have oi := on_j (n := i) (by omega)
      have em : m + 0 = (rbq f 20 0).length := em
      have om := on_j (n := m) (by omega)
      have ex : (h_i h 1 32 + Int32.ofNat m).toInt = (h_i h 1 32).toInt + (m : Int) := by rw [tx_add (by omega) (by omega), om]
      refine t_X12_feed_6 d h I.1 x1 x2 x3 x4 x5 _ _ _ ⟨fun _ => ⟨fun z => ?_, fun z => ⟨I, Fr.rf _ _, fun l => ?_, fun _ => ⟨rfl, rfl⟩⟩⟩, fun z => absurd (q_le.mpr (by rw [oi, t20]; omega)) z⟩
      · have z := q_le.mp z
        have l : tn h + (rbq f 20 0).length ≤ 160 := by omega
        refine AW.mono (wr l 20 0 h (by omega) I (Fr.rf _ _) l) (fun v h' q => ?_)
        obtain ⟨r, er, k1, k2, k3⟩ := q
        exact ⟨r, er, k1, k2, fun _ => k3, fun y => absurd l y⟩
      · exact absurd (q_le.mpr (by omega)) z
    | succ k ih =>
      intro i m e em
      have oi := on_j (n := i) (by omega)
      refine t_X12_feed_6 d h I.1 x1 x2 x3 x4 x5 _ _ _ ⟨fun z => ?_, fun _ => Ci.mono (sf_X12_byteOf d h x1 x2 x3 x4 x5 _) (fun r h3 q => ?_)⟩
      · have z := q_le.mp z
        rw [oi, t20] at z
        omega
      · obtain ⟨er, eh⟩ := q
        subst eh
        rw [bf] at er
        subst er
        refine ⟨I.1, fun e0 => ?_, fun n0 => ?_⟩
        · have e' : rbq f (k + 1) i = rbq f k (i + 1) := by
            show (if f i = 0 then [] else [f i]) ++ rbq f k (i + 1) = _
            rw [if_pos e0, List.nil_append]
          rw [e'] at em
          rw [on_s (by omega), Int32.add_zero]
          exact ih (i + 1) m (by omega) em
        · have e' : rbq f (k + 1) i = [f i] ++ rbq f k (i + 1) := by
            show (if f i = 0 then [] else [f i]) ++ rbq f k (i + 1) = _
            rw [if_neg n0]
          rw [e', List.length_append, List.length_singleton] at em
          rw [on_s (n := i) (by omega), on_s (n := m) (by omega)]
          exact ih (i + 1) (m + 1) (by omega) (by omega)
  exact t_X12_feed d h x1 x2 x3 x4 x5 _ (ct 20 0 0 (by omega) (by omega))
/-! a beat kept: its steps, and how many of them are points -/
def mts : List Sp3 → Nat
  | [] => 0
  | x :: L => (if x.1 = 2 then 1 else 0) + mts L
theorem mts_a (x : Sp3) : ∀ L : List Sp3, mts (L ++ [x]) = mts L + (if x.1 = 2 then 1 else 0)
  | [] => by
    show (if x.1 = 2 then 1 else 0) + 0 = 0 + (if x.1 = 2 then 1 else 0)
    omega
  | y :: L => by
    show (if y.1 = 2 then 1 else 0) + mts (L ++ [x]) = (if y.1 = 2 then 1 else 0) + mts L + (if x.1 = 2 then 1 else 0)
    rw [mts_a x L]
    omega
theorem mts_l : ∀ L : List Sp3, mts L ≤ L.length
  | [] => Nat.le_refl _
  | y :: L => by
    have k := mts_l L
    show (if y.1 = 2 then 1 else 0) + mts L ≤ L.length + 1
    split <;> omega
def knd (L : List Sp3) : Prop := ∀ x ∈ L, x.1 = 0 ∨ x.1 = 1 ∨ x.1 = 2 ∨ x.1 = 3
theorem knd_a {L M : List Sp3} (a : knd L) (b : knd M) : knd (L ++ M) := fun x hx => (List.mem_append.mp hx).elim (a x) (b x)
theorem knd_r {L : List Sp3} (a : knd L) : ∀ k, knd (rpl k L)
  | 0 => fun x hx => by cases hx
  | k + 1 => knd_a a (knd_r a k)
theorem knd_1 {x : Sp3} (h : x.1 = 0 ∨ x.1 = 1 ∨ x.1 = 2 ∨ x.1 = 3) : knd [x] := fun y hy => by
  rw [List.mem_singleton.mp hy]
  exact h
theorem sto_k {b : Nat → Int32} {n : Nat} {f : Rcg} {o : Nat → List Sp3} (ho : ∀ a, knd (o a)) (a : Nat) : knd (sto b n f o a) := by
  unfold sto
  split
  · exact knd_1 (Or.inl rfl)
  · split
    · exact knd_1 (Or.inr (Or.inl rfl))
    · split
      · exact knd_1 (Or.inr (Or.inr (Or.inl rfl)))
      · split
        · exact knd_1 (Or.inr (Or.inr (Or.inr rfl)))
        · exact knd_r (ho _) _
theorem lpo_k {b : Nat → Int32} {n : Nat} {f : Rcg} {o : Nat → List Sp3} (ho : ∀ a, knd (o a)) : ∀ (k a : Nat), knd (lpo b n f o k a)
  | 0, _ => fun x hx => by cases hx
  | k + 1, a => by
    unfold lpo
    split
    · exact knd_a (ho _) (lpo_k ho k _)
    · exact fun x hx => by cases hx
theorem spo_k {b : Nat → Int32} {n : Nat} {f : Rcg} {o : Nat → List Sp3} (ho : ∀ a, knd (o a)) (a : Nat) : knd (spo b n f o a) := knd_a (ho a) (lpo_k ho 160 _)
theorem ston_k {b : Nat → Int32} {n : Nat} : ∀ (r a : Nat), knd (ston b n r a)
  | 0, a => sto_k (fun _ x hx => by cases hx) a
  | r + 1, a => sto_k (fun a => spo_k (fun a => ston_k r a) a) a
theorem beo_k {b : Nat → Int32} {n : Nat} : knd (beo b n) := spo_k (fun a => ston_k 4 a) 0
theorem nv_3 (x : Int32) : nv (x &&& 3) = nv x % 4 := by
  rw [nv_and, show nv 3 = 2 ^ 2 - 1 from rfl, Nat.and_two_pow_sub_one_eq_mod]
theorem nv_i {x y : Int32} (h : nv x = nv y) : x = y := Int32.toInt_inj.mp (by rw [nv_ti, nv_ti, h])
theorem pk_3 (k a b : Int32) : ((k ||| (a <<< ((2 : Int32) &&& 31))) ||| (b <<< ((6 : Int32) &&& 31))) &&& 3 = k &&& 3 := by
  refine nv_i ?_
  rw [nv_3, nv_3, nv_or, nv_or, nv_shl (by decide) (by decide), nv_shl (by decide) (by decide), show nv 2 = 2 from rfl, show nv 6 = 6 from rfl]
  rw [show (4 : Nat) = 2 ^ 2 from rfl, Nat.or_mod_two_pow, Nat.or_mod_two_pow]
  have e1 : nv a * 2 ^ 2 % 4294967296 % 2 ^ 2 = 0 := by omega
  have e2 : nv b * 2 ^ 6 % 4294967296 % 2 ^ 2 = 0 := by omega
  rw [e1, e2, Nat.or_zero, Nat.or_zero]
theorem pkS_3 {x : Sp3} (h : x.1 = 0 ∨ x.1 = 1 ∨ x.1 = 2 ∨ x.1 = 3) : pkS x &&& 3 = x.1 := by
  unfold pkS
  split
  · rename_i e
    rw [pk_3, e]
    decide
  · rw [pk_3]
    rcases h with e | e | e | e <;> rw [e] <;> decide
def KpO (L : List Sp3) (B : Nat) (h h' : Hp_) : Prop := (∀ k, h_i h' 35 k = if k = B then Int32.ofNat L.length else h_i h 35 k) ∧ (∀ k, h_i h' 36 k = if k = B then Int32.ofNat (mts L) else h_i h 36 k) ∧ (∀ k x, L[k]? = some x → h_i h' 34 (150 * B + k) = pkS x) ∧ (∀ k, k < 150 * B → h_i h' 34 k = h_i h 34 k)
theorem c_kp2 (d : Nat) {h : Hp_} (I : Iv h) (L : List Sp3) (O : Ou L h) (K : knd L) : Ci (m_X0_keep (d + 1) 0 0) [.ref 12, .ref 11] h (fun r h' => Iv h' ∧ Fr wkp h h' ∧ ((h_i h 12 3 = 12 ∨ 150 < L.length) → r = -1 ∧ h' = h) ∧ (¬ h_i h 12 3 = 12 → L.length ≤ 150 → r = h_i h 12 3 ∧ h_i h' 12 3 = h_i h 12 3 + 1 ∧ KpO L (h_i h 12 3).toNatClampNeg h h')) := by
  have t12 : (12 : Int32).toInt = 12 := rfl
  have t1 : (1 : Int32).toInt = 1 := rfl
  have t150 : (150 : Int32).toInt = 150 := rfl
  have b3 := x12_in I
  have b6 := x6_in I
  refine t_X0_keep d h I.1 _ ⟨fun z => ⟨I, Fr.rf _ _, fun _ => ⟨rfl, rfl⟩, fun n => ?_⟩, fun z => ⟨fun z7 => ?_, fun n7 => ⟨I, Fr.rf _ _, fun _ => ⟨rfl, rfl⟩, fun _ l => ?_⟩⟩⟩
  · have z := q_le.mp z
    exact absurd (Int32.toInt_inj.mp (by rw [t12]; omega)) n
  · have z := q_nle z
    have n12 : ¬ h_i h 12 3 = 12 := fun e => by rw [e] at z; exact absurd z (by decide)
    have OL : L.length ≤ 150 ∧ h_i h 11 6 = Int32.ofNat L.length ∧ ∀ k x, L[k]? = some x → h_i h 32 k = pkS x := by
      rcases O with q | q
      · exact q.2
      · rw [z7] at q
        exact absurd q.1 (by decide)
    have l6 : (h_i h 11 6).toInt = (L.length : Int) := by rw [OL.2.1, on_j (by have := OL.1; omega)]
    have nB := n_nat b3.1
    have ml := mts_l L
    have lp : ∀ (n i : Nat) (h2 : Hp_), i + n = L.length → Iv h2 → Fr [34999] h h2 → (∀ k x, k < i → L[k]? = some x → h_i h2 34 (150 * (h_i h 12 3).toNatClampNeg + k) = pkS x) → (∀ k, k < 150 * (h_i h 12 3).toNatClampNeg → h_i h2 34 k = h_i h 34 k) → AW (m_X0_keep (d + 1) 0 0) 0 0 22 [(0, .ref 12), (1, .ref 11), (2, .int (Int32.ofNat (mts (L.take i)))), (3, .int (Int32.ofNat i))] [] h2 (kI (fun r h' => Iv h' ∧ Fr wkp h h' ∧ ((h_i h 12 3 = 12 ∨ 150 < L.length) → r = -1 ∧ h' = h) ∧ (¬ h_i h 12 3 = 12 → L.length ≤ 150 → r = h_i h 12 3 ∧ h_i h' 12 3 = h_i h 12 3 + 1 ∧ KpO L (h_i h 12 3).toNatClampNeg h h'))) := by
      have ex : (h_i h 12 3 + 1).toInt = (h_i h 12 3).toInt + 1 := tx_add (by rw [t1]; omega) (by rw [t1]; omega)
      have em : h_i h 12 3 + 1 - 1 = h_i h 12 3 := by
        refine Int32.toInt_inj.mp ?_
        rw [tx_sub (by rw [t1]; omega) (by rw [t1]; omega), ex, t1]
        omega
      intro n
      induction n with
      | zero =>
        intro i h2 e I2 F2 c1 c2
        have e6 : h_i h2 11 6 = h_i h 11 6 := (F2.2 11 6 (by decide +kernel)).1
        have e3 : h_i h2 12 3 = h_i h 12 3 := (F2.2 12 3 (by decide +kernel)).1
        have oi := on_j (n := i) (by have := OL.1; omega)
        have et : L.take i = L := tkl (by omega)
        rw [et]
        refine t_X0_keep_22 d h2 I2.1 _ _ _ ⟨fun _ => ?_, fun z => ?_⟩
        · rw [e3, e6]
          have v : vp_in (h_i h 12 3) 12 := dp_in (lo := 0) (hi := 11) ⟨b3.1, by show _ ≤ (11 : Int); omega⟩ (by decide) (by decide)
          refine ⟨v, v, ?_, ?_, ?_, ?_⟩
          · exact (i2xx 36 (by decide +kernel) (by decide) (by decide) (I2.im (a := 35) (by rw [tfa_tf (show tfa 35 = some (0, 150) by decide +kernel)]; exact ⟨b6.1, b6.2⟩) (jw_jr (by decide) (by decide) _)) _ _).im (a := 12) (k := 3) (by rw [show tf 12 3 = (0, 12) by decide +kernel, ex]; exact ⟨by show (0 : Int) ≤ _; omega, by show _ ≤ (12 : Int); omega⟩) (by decide)
          · exact (((F2.more (by decide +kernel)).im (inw_row (by decide +kernel) _)).im (inw_row (by decide +kernel) _)).im (by decide +kernel)
          · intro y
            rcases y with y | y
            · exact absurd y n12
            · exact absurd OL.1 (by omega)
          · intro _ _
            refine ⟨em, im_at, fun k => ?_, fun k => ?_, fun k x ek => ?_, fun k hk => ?_⟩
            · rw [im_ne (by decide), im_ne (by decide), h_i_im]
              by_cases y : k = (h_i h 12 3).toNatClampNeg
              · rw [if_pos ⟨rfl, y⟩, if_pos y]
                exact OL.2.1
              · rw [if_neg (fun u => y u.2), if_neg y]
                exact fr_i F2 (by decide +kernel) k
            · rw [im_ne (by decide), h_i_im]
              by_cases y : k = (h_i h 12 3).toNatClampNeg
              · rw [if_pos ⟨rfl, y⟩, if_pos y]
              · rw [if_neg (fun u => y u.2), if_neg y, im_ne (by decide)]
                exact fr_i F2 (by decide +kernel) k
            · rw [im_ne (by decide), im_ne (by decide), im_ne (by decide)]
              have lk : k < L.length := by
                rcases Nat.lt_or_ge k L.length with u | u
                · exact u
                · rw [List.getElem?_eq_none u] at ek
                  cases ek
              exact c1 k x (by omega) ek
            · rw [im_ne (by decide), im_ne (by decide), im_ne (by decide)]
              exact c2 k hk
        · rw [e6] at z
          have z := q_nle z
          omega
      | succ n ih =>
        intro i h2 e I2 F2 c1 c2
        have e6 : h_i h2 11 6 = h_i h 11 6 := (F2.2 11 6 (by decide +kernel)).1
        have e3 : h_i h2 12 3 = h_i h 12 3 := (F2.2 12 3 (by decide +kernel)).1
        have l150 := OL.1
        have oi := on_j (n := i) (by omega)
        have ki := on_k (n := i) (by omega)
        have li : i < L.length := by omega
        have gi : L[i]? = some (L[i]'li) := List.getElem?_eq_getElem li
        have mi := mts_l (L.take i)
        have ll : (L.take i).length ≤ i := by rw [List.length_take]; exact Nat.min_le_left _ _
        refine t_X0_keep_22 d h2 I2.1 _ _ _ ⟨fun z => ?_, fun z => ?_⟩
        · rw [e6] at z
          have z := q_le.mp z
          omega
        · have v3 : vp_in (Int32.ofNat i) 150 := on_in (by omega) (by decide)
          have m1 : (h_i h 12 3 * 150).toInt = (h_i h 12 3).toInt * 150 := by rw [tx_mul (by rw [t150]; omega) (by rw [t150]; omega), t150]
          have m2 : (h_i h 12 3 * 150 + Int32.ofNat i).toInt = (h_i h 12 3).toInt * 150 + (i : Int) := by rw [tx_add (by omega) (by omega), m1, oi]
          have nm := n_nat (x := h_i h 12 3 * 150 + Int32.ofNat i) (by omega)
          have km : (h_i h 12 3 * 150 + Int32.ofNat i).toNatClampNeg = 150 * (h_i h 12 3).toNatClampNeg + i := by omega
          have e32 : h_i h2 32 i = pkS (L[i]'li) := (fr_i F2 (by decide +kernel) i).trans (OL.2.2 i _ gi)
          have kd := K _ (List.getElem_mem li)
          rw [ki, e3, km, e32, on_s (n := i) (by omega)]
          refine ⟨v3, ?_, v3, t_X0_kindOf d _ _ _ ?_⟩
          · exact dp_in (lo := 0) (hi := 1799) ⟨by show (0 : Int) ≤ _; omega, by show _ ≤ (1799 : Int); omega⟩ (by decide) (by decide)
          · have I4 := i2xx 34 (by decide +kernel) (by decide) (by decide) I2 (150 * (h_i h 12 3).toNatClampNeg + i) (pkS (L[i]'li))
            have F4 : Fr [34999] h (h_im h2 34 (150 * (h_i h 12 3).toNatClampNeg + i) (pkS (L[i]'li))) := F2.im (inw_row (by decide +kernel) _)
            have d1 : ∀ k x, k < i + 1 → L[k]? = some x → h_i (h_im h2 34 (150 * (h_i h 12 3).toNatClampNeg + i) (pkS (L[i]'li))) 34 (150 * (h_i h 12 3).toNatClampNeg + k) = pkS x := fun k x hk ek => by
              rw [h_i_im]
              by_cases y : k = i
              · rw [if_pos ⟨rfl, by omega⟩]
                rw [y, gi] at ek
                rw [Option.some.inj ek]
              · rw [if_neg (fun u => by have := u.2; omega)]
                exact c1 k x (by omega) ek
            have d2 : ∀ k, k < 150 * (h_i h 12 3).toNatClampNeg → h_i (h_im h2 34 (150 * (h_i h 12 3).toNatClampNeg + i) (pkS (L[i]'li))) 34 k = h_i h 34 k := fun k hk => by
              rw [h_i_im, if_neg (fun u => by have := u.2; omega)]
              exact c2 k hk
            have mt : mts (L.take (i + 1)) = mts (L.take i) + (if (L[i]'li).1 = 2 then 1 else 0) := by rw [tk1 _ _ _ gi, mts_a]
            rw [pkS_3 kd]
            refine ⟨I4.1, fun n2 => ?_, fun y2 => ?_⟩
            · have k := ih (i + 1) _ (by omega) I4 F4 d1 d2
              rw [mt, if_neg n2, Nat.add_zero] at k
              exact k
            · have k := ih (i + 1) _ (by omega) I4 F4 d1 d2
              rw [mt, if_pos y2] at k
              rw [on_s (n := mts (L.take i)) (by omega)]
              exact k
    have k := lp L.length 0 h (by omega) I (Fr.rf _ _) (fun k x hk => absurd hk (by omega)) (fun _ _ => rfl)
    exact k
  · rcases O with q | q
    · exact absurd q.1 n7
    · exact absurd l (by omega)
def Btx (h : Hp_) (r : Int32) (h' : Hp_) : Prop := (¬ okB (h_i h 31) (xn h) (h_i h 12 3) → r = -1 ∧ h_i h' 12 3 = h_i h 12 3 ∧ h_i h' 11 1 = h_i h 11 1 ∧ (∀ k, h_i h' 35 k = h_i h 35 k) ∧ (∀ k, h_i h' 36 k = h_i h 36 k) ∧ (∀ k, h_i h' 34 k = h_i h 34 k)) ∧ (okB (h_i h 31) (xn h) (h_i h 12 3) → r = h_i h 12 3 ∧ h_i h' 12 3 = h_i h 12 3 + 1 ∧ h_i h' 11 1 = 0 ∧ KpO (beo (h_i h 31) (xn h)) (h_i h 12 3).toNatClampNeg h h')
theorem c_btx2 (d : Nat) {h : Hp_} (I : Iv h) : Ci (m_X11_beat (d + 105) 0 0) [.ref 0] h (fun r h' => Iv h' ∧ Fr wbx h h' ∧ Btx h r h') := by
  have k := c_rb (b := h_i h 31) (n := xn h) d I rfl rfl
  rw [show d + 50 + 54 = d + 104 by omega] at k
  refine t_X11_beat d h I.1 _ (Ci.mono k (fun r3 h1 X => ?_))
  obtain ⟨e3, I1, F1, ee, O⟩ := X
  have e12 : h_i h1 12 3 = h_i h 12 3 := (F1.2 12 3 (by decide +kernel)).1
  have e11 : h_i h1 11 1 = h_i h 11 1 := (F1.2 11 1 (by decide +kernel)).1
  have r35 : ∀ k, h_i h1 35 k = h_i h 35 k := fun k => fr_i F1 (by decide +kernel) k
  have r36 : ∀ k, h_i h1 36 k = h_i h 36 k := fun k => fr_i F1 (by decide +kernel) k
  have r34 : ∀ k, h_i h1 34 k = h_i h 34 k := fun k => fr_i F1 (by decide +kernel) k
  have W1 : Fr wbx h h1 := F1.more (by decide +kernel)
  refine ⟨I1.1, fun er => Ci.mono (c_kp2 d I1 _ (O er) beo_k) (fun r7 h5 Y => ?_), fun nr => ⟨I1, W1, fun _ => ⟨rfl, e12, e11, r35, r36, r34⟩, fun o => absurd (e3.trans (ee.trans o.2.1)) nr⟩⟩
  obtain ⟨I5, F5, Yn, Yy⟩ := Y
  rw [e12] at Yn Yy
  have ev : enq (h_i h 31) (xn h) (beq (h_i h 31) (xn h)) = -1 := ee.symm.trans (e3.symm.trans er)
  have W5 : Fr wbx h h5 := W1.tr (F5.more (by decide +kernel))
  have b3 := x12_in I
  refine ⟨I5.1, fun e7 => ⟨I5, W5, fun no => ?_, fun o => ?_⟩, fun n7 => Ci.mono (c_cut0 d I5) (fun _ h9 e9 => ?_)⟩
  · have q : h5 = h1 := by
      by_cases z : h_i h 12 3 = 12
      · exact (Yn (Or.inl z)).2
      · rcases Nat.lt_or_ge 150 (beo (h_i h 31) (xn h)).length with u | u
        · exact (Yn (Or.inr u)).2
        · exact absurd ⟨z, ev, u⟩ no
    rw [q]
    exact ⟨e7, e12, e11, r35, r36, r34⟩
  · have q := (Yy o.1 o.2.2).1
    rw [e7] at q
    rw [← q] at b3
    exact absurd b3.1 (by decide)
  · have ok : okB (h_i h 31) (xn h) (h_i h 12 3) := by
      refine ⟨fun z => n7 (Yn (Or.inl z)).1, ev, ?_⟩
      rcases Nat.lt_or_ge 150 (beo (h_i h 31) (xn h)).length with u | u
      · exact absurd (Yn (Or.inr u)).1 n7
      · exact u
    obtain ⟨q1, q2, q3, q4, q5, q6⟩ := Yy ok.1 ok.2.2
    subst e9
    refine ⟨(y1 I5).1, y1 I5, W5.im (by decide +kernel), fun no => absurd ok no, fun _ => ⟨q1, by rw [im_ne (by decide)]; exact q2, im_at, fun k => ?_, fun k => ?_, fun k x e => ?_, fun k hk => ?_⟩⟩
    · rw [im_ne (by decide), q3 k, r35]
    · rw [im_ne (by decide), q4 k, r36]
    · rw [im_ne (by decide)]
      exact q5 k x e
    · rw [im_ne (by decide), q6 k hk]
      exact r34 k
theorem mP_mts {wh : Nat → Int32} {B : Nat} : ∀ (L : List Sp3) (s : Nat), (∀ k x, L[k]? = some x → wh (150 * B + (s + k)) = x.1) → mP wh B L.length s = mts L
  | [], _, _ => rfl
  | y :: L, s, h => by
    have h0 : wh (150 * B + s) = y.1 := h 0 y rfl
    have ih := mP_mts L (s + 1) (fun k x e => by
      have q := h (k + 1) x (by simpa using e)
      rw [show s + 1 + k = s + (k + 1) by omega]
      exact q)
    show (if wh (150 * B + s) = 2 then 1 else 0) + mP wh B L.length (s + 1) = (if y.1 = 2 then 1 else 0) + mts L
    rw [h0, ih]
