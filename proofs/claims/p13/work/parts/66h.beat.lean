/-! beat of the reference -/
theorem mP_same {wh wh' : Nat → Int32} {b : Nat} : ∀ {f s : Nat}, (∀ x, 150 * b + s ≤ x → x < 150 * b + s + f → wh' x = wh x) → mP wh' b f s = mP wh b f s
  | 0, _, _ => rfl
  | f + 1, s, e => by
    show (if wh' (150 * b + s) = 2 then 1 else 0) + mP wh' b f (s + 1) = (if wh (150 * b + s) = 2 then 1 else 0) + mP wh b f (s + 1)
    rw [e (150 * b + s) (by omega) (by omega), mP_same (fun x u v => e x (by omega) (by omega))]
theorem J2_beat {h h' : Hp_} (I : Iv h) (er : ∀ a, mrow a = true → ∀ k, h_i h' a k = h_i h a k) (e7 : ∀ k, k < (h_i h 1 42).toNatClampNeg → h_i h' 227 k = h_i h 227 k) (e8 : ∀ k, k < 150 * (h_i h 1 42).toNatClampNeg → h_i h' 228 k = h_i h 228 k) (le : (h_i h 1 42).toInt ≤ (h_i h' 1 42).toInt) (em : h_i h' 1 7 = h_i h 1 7) (J : J2 h) : J2 h' := by
  intro c hc hm
  obtain ⟨j1, j2⟩ := J c hc (by rw [← em]; exact hm)
  have r8 := er 208 (by decide) c
  have r10 := er 210 (by decide) c
  have r12 := er 212 (by decide) c
  have r13 := er 213 (by decide) c
  have r16 := er 216 (by decide) c
  refine ⟨fun z => ?_, fun z => ?_⟩
  · rw [r8] at z
    rw [r10]; exact j1 z
  · rw [r8] at z
    obtain ⟨k1, k2, k3, k4, k5⟩ := j2 z
    have n42 := n_nat (x := h_i h 1 42) (by have := I.2.1 1 42; rw [show tf 1 42 = (0, 12) by decide +kernel] at this; exact this.1)
    have g12 := dp_rg I 212 c (show tfa 212 = some (0, 11) by decide +kernel)
    have n12 := n_nat (x := h_i h 212 c) g12.1
    have lb : nB h c < (h_i h 1 42).toNatClampNeg := by
      show (h_i h 212 c).toNatClampNeg < _
      omega
    have eB : nB h' c = nB h c := by show (h_i h' 212 c).toNatClampNeg = _; rw [r12]
    have eS : nS h' c = nS h c := by show (h_i h' 213 c).toNatClampNeg = _; rw [r13]
    have eZ : nZ h' c = nZ h c := by
      show (h_i h' 227 (nB h' c)).toNatClampNeg = _
      rw [eB, e7 _ lb]
    have gz := dp_rg I 227 (nB h c) (show tfa 227 = some (0, 150) by decide +kernel)
    have nz := n_nat (x := h_i h 227 (nB h c)) gz.1
    have z1 : (h_i h 227 (nB h c)).toInt ≤ 150 := gz.2
    have lz : nZ h c ≤ 150 := by show (h_i h 227 (nB h c)).toNatClampNeg ≤ 150; omega
    have m1 : mP (h_i h' 228) (nB h c) (nZ h c - (nS h c + 1)) (nS h c + 1) = mP (h_i h 228) (nB h c) (nZ h c - (nS h c + 1)) (nS h c + 1) := mP_same (fun x u v => e8 x (by omega))
    have m2 : mP (h_i h' 228) (nB h c) (nZ h c - nS h c) (nS h c) = mP (h_i h 228) (nB h c) (nZ h c - nS h c) (nS h c) := mP_same (fun x u v => e8 x (by omega))
    rw [eB, eS, eZ, r13, r12, r16, r10, m1, m2]
    exact ⟨k1, k2, by omega, k4, k5⟩
theorem c_beat (d : Nat) {h : Hp_} (I : Iv h) (J : J2 h) : Ci (m_X12_beat (d + 80 + 60) 0 0) [.ref 1] h (fun _ h' => Iv h' ∧ J2 h' ∧ Sr h h') := by
  have t12 : (12 : Int32).toInt = 12 := rfl
  have t1 : (1 : Int32).toInt = 1 := rfl
  refine t_X12_beat (d + 80) h I.1 _ ⟨fun _ => ⟨I, J, Sr.rf _⟩, fun ne => ?_⟩
  refine Ci.mono (c_fault d I 0) (fun r h2 k => ?_)
  obtain ⟨I2, F2, g⟩ := k
  have J2' : J2 h2 := J2_s (Js.fr F2 (by decide +kernel)) J
  refine ⟨I2.1, fun er => ?_, fun _ => ⟨I2, J2', Sr.fr F2 (by decide +kernel)⟩⟩
  obtain ⟨f, q⟩ := (g er).1 rfl
  have r42 := I2.2.1 1 42
  rw [show tf 1 42 = (0, 12) by decide +kernel] at r42
  have b0 : 0 ≤ (h_i h2 1 42).toInt := r42.1
  have b1' : (h_i h2 1 42).toInt ≤ 12 := r42.2
  have e42 : h_i h2 1 42 = h_i h 1 42 := (F2.2 1 42 (by decide +kernel)).1
  have b1 : (h_i h2 1 42).toInt ≤ 11 := by
    rcases Int.lt_or_le (h_i h2 1 42).toInt 12 with u | u
    · omega
    · exact absurd (Int32.toInt_inj.mp (by rw [← e42, t12]; omega)) ne
  have n2 := sN_i I2
  have p2 : ps h2 ≤ 559 := (ps_in I2).2
  have hN : h_i h2 1 36 = Int32.ofNat (sN h2) := Int32.toInt_inj.mp (by rw [on_j (by omega)]; exact n2.symm)
  have I3 : Iv (h_im h2 1 43 0) := I2.im (by rw [show tf 1 43 = (0, 150) by decide +kernel]; exact ⟨by decide, by decide⟩) (by decide)
  have J3 : J2 (h_im h2 1 43 0) := J2_s (Js.im (by decide) (fun y => absurd y.2 (by decide))) J2'
  have t := c_unfold (h_im h2 1 43 0) (sN h2) (by rw [f_ne (by decide)]; exact hN) (by omega) (by rw [f_ne (by decide)]; exact b1) 4 (d + 75) f 0 (sN h2) (h_im h2 1 43 0) (by rw [show h_i (h_im h2 1 43 0) 226 = h_i h2 226 from funext (fun k => im_ne (by decide))]; exact q) (Nat.le_refl _) (Or.inl rfl) ⟨I3, Fr.rf _ _, fun _ _ => rfl⟩
  rw [show d + 75 + 4 + 1 = d + 80 + 0 by omega] at t
  refine Ci.mono t (fun r6 h6 k => ?_)
  obtain ⟨⟨I6, F6, C6⟩, _⟩ := k
  have e6 : h_i h6 1 42 = h_i h2 1 42 := by rw [(F6.2 1 42 (by decide +kernel)).1, f_ne (by decide)]
  have er6 : ∀ a, mrow a = true → ∀ k, h_i h6 a k = h_i (h_im h2 1 43 0) a k := by
    intro a ha k
    unfold mrow at ha
    simp only [Bool.or_eq_true] at ha
    rcases ha with (((z | z) | z) | z) | z <;> have z := Nat.eq_of_beq_eq_true z <;> subst z <;> exact fr_i F6 (by decide +kernel) k
  have e67 : ∀ k, h_i h6 227 k = h_i (h_im h2 1 43 0) 227 k := fun k => fr_i F6 (by decide +kernel) k
  have J6 : J2 h6 := J2_beat I3 er6 (fun k _ => e67 k) C6 (by rw [(F6.2 1 42 (by decide +kernel)).1]; exact Int.le_refl _) (F6.2 1 7 (by decide +kernel)).1 J3
  have S6 : Sr h h6 := (Sr.fr F2 (by decide +kernel)).tr (((Sr.rf h2).im (by decide +kernel)).tr (Sr.fr F6 (by decide +kernel)))
  refine ⟨I6.1, fun _ => ?_, fun _ => ⟨I6, J6, S6⟩⟩
  have n6 := n_nat (x := h_i h6 1 42) (by rw [e6]; exact b0)
  rw [e6] at n6
  have ex : (h_i h6 1 42 + 1).toInt = (h_i h2 1 42).toInt + 1 := by rw [e6, tx_add (by rw [t1]; omega) (by rw [t1]; omega), t1]
  have r43 := I6.2.1 1 43
  rw [show tf 1 43 = (0, 150) by decide +kernel] at r43
  refine ⟨dp_in (lo := 0) (hi := 11) (by rw [e6]; exact ⟨b0, b1⟩) (by decide) (by decide), ?_, ?_, ((S6.im (inw_row (by decide +kernel) _)).im (by decide +kernel)).im (by decide +kernel)⟩
  · exact i32 ((I6.im (a := 227) (by rw [tfa_tf (show tfa 227 = some (0, 150) by decide +kernel)]; exact r43) (jw_jr (by decide) (by decide) _)).im (a := 1) (k := 42) (by rw [show tf 1 42 = (0, 12) by decide +kernel, ex]; exact ⟨by show (0 : Int) ≤ _; omega, by show _ ≤ (12 : Int); omega⟩) (by decide)) ⟨by decide, by decide⟩
  · refine J2_beat I6 (fun a ha k => ?_) (fun k hk => ?_) (fun k _ => ?_) ?_ (by rw [f_ne (by decide), f_ne (by decide), im_ne (by decide)]) J6
    · have n1 : a ≠ 1 := fun z => by rw [z] at ha; exact absurd ha (by decide)
      have n7 : a ≠ 227 := fun z => by rw [z] at ha; exact absurd ha (by decide)
      rw [im_ne n1, im_ne n1, im_ne n7]
    · rw [im_ne (by decide), im_ne (by decide), h_i_im, if_neg (fun u => by have := u.2; omega)]
    · rw [im_ne (by decide), im_ne (by decide), im_ne (by decide)]
    · rw [f_ne (by decide), im_at, ex, e6]; omega
