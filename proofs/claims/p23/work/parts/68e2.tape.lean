/-! the reference: brackets, letters, atoms, conditions, by what stands on the tape -/
theorem c_isLetterf (d : Nat) (h : Hp_) (x : Int32) {s : Nat} (hs : s = 1 ∨ s = 2) : Ci (m_X12_isLetter (d + 0) 0 0) [.int x, .int (Int32.ofNat s)] h (fun r h' => h' = h ∧ ((r = 0 ∧ ltb s x = false) ∨ (¬ r = 0 ∧ ltb s x = true ∧ ¬ x = -1 ∧ okl s x = true))) := by
  rcases hs with u | u <;> subst u
  · exact t_X12_isLetter d h x (Int32.ofNat 1) _ ⟨fun e => ⟨fun _ => ⟨rfl, Or.inl ⟨rfl, by rw [e]; decide⟩⟩, fun f => absurd f (by decide)⟩,
      fun e => ⟨rfl, Or.inr ⟨by decide, by rw [e]; decide, by rw [e]; decide, by rw [e]; decide⟩⟩,
      fun e => ⟨fun n => absurd (by decide) n, fun _ => ⟨rfl, Or.inr ⟨by decide, by rw [e]; decide, by rw [e]; decide, by rw [e]; decide⟩⟩⟩,
      fun e => ⟨fun n => absurd (by decide) n, fun _ => ⟨rfl, Or.inr ⟨by decide, by rw [e]; decide, by rw [e]; decide, by rw [e]; decide⟩⟩⟩,
      fun e => ⟨fun n => absurd (by decide) n, fun _ => ⟨rfl, Or.inr ⟨by decide, by rw [e]; decide, by rw [e]; decide, by rw [e]; decide⟩⟩⟩,
      fun e => ⟨fun n => absurd (by decide) n, fun _ => ⟨rfl, Or.inr ⟨by decide, by rw [e]; decide, by rw [e]; decide, by rw [e]; decide⟩⟩⟩,
      fun e => ⟨fun _ => ⟨rfl, Or.inl ⟨rfl, by rw [e]; decide⟩⟩, fun f => absurd f (by decide)⟩,
      fun e => ⟨fun n => absurd (by decide) n, fun _ => ⟨rfl, Or.inr ⟨by decide, by rw [e]; decide, by rw [e]; decide, by rw [e]; decide⟩⟩⟩,
      fun e => ⟨fun n => absurd (by decide) n, fun _ => ⟨rfl, Or.inr ⟨by decide, by rw [e]; decide, by rw [e]; decide, by rw [e]; decide⟩⟩⟩,
      fun e => ⟨rfl, Or.inr ⟨by decide, by rw [e]; decide, by rw [e]; decide, by rw [e]; decide⟩⟩,
      fun e => ⟨fun n => absurd (by decide) n, fun _ => ⟨rfl, Or.inr ⟨by decide, by rw [e]; decide, by rw [e]; decide, by rw [e]; decide⟩⟩⟩,
      fun e => ⟨fun _ => ⟨rfl, Or.inl ⟨rfl, by rw [e]; decide⟩⟩, fun f => absurd f (by decide)⟩,
      fun e => ⟨fun _ => ⟨rfl, Or.inl ⟨rfl, by rw [e]; decide⟩⟩, fun f => absurd f (by decide)⟩,
      fun ⟨n97, n99, n100, n101, n104, n107, n109, n110, n112, n116, n119, n120, n121⟩ => ⟨rfl, Or.inl ⟨rfl, decide_eq_false (fun z => z.elim n107 (fun z => z.elim n119 (fun z => z.elim n112 (fun z => z.elim n104 (fun z => z.elim n100 (fun z => z.elim n99 (fun z => z.elim n110 (fun z => z.elim n101 n116))))))))⟩⟩⟩
  · exact t_X12_isLetter d h x (Int32.ofNat 2) _ ⟨fun e => ⟨fun n => absurd (by decide) n, fun _ => ⟨rfl, Or.inr ⟨by decide, by rw [e]; decide, by rw [e]; decide, by rw [e]; decide⟩⟩⟩,
      fun e => ⟨rfl, Or.inr ⟨by decide, by rw [e]; decide, by rw [e]; decide, by rw [e]; decide⟩⟩,
      fun e => ⟨fun _ => ⟨rfl, Or.inl ⟨rfl, by rw [e]; decide⟩⟩, fun f => absurd f (by decide)⟩,
      fun e => ⟨fun _ => ⟨rfl, Or.inl ⟨rfl, by rw [e]; decide⟩⟩, fun f => absurd f (by decide)⟩,
      fun e => ⟨fun _ => ⟨rfl, Or.inl ⟨rfl, by rw [e]; decide⟩⟩, fun f => absurd f (by decide)⟩,
      fun e => ⟨fun _ => ⟨rfl, Or.inl ⟨rfl, by rw [e]; decide⟩⟩, fun f => absurd f (by decide)⟩,
      fun e => ⟨fun n => absurd (by decide) n, fun _ => ⟨rfl, Or.inr ⟨by decide, by rw [e]; decide, by rw [e]; decide, by rw [e]; decide⟩⟩⟩,
      fun e => ⟨fun _ => ⟨rfl, Or.inl ⟨rfl, by rw [e]; decide⟩⟩, fun f => absurd f (by decide)⟩,
      fun e => ⟨fun _ => ⟨rfl, Or.inl ⟨rfl, by rw [e]; decide⟩⟩, fun f => absurd f (by decide)⟩,
      fun e => ⟨rfl, Or.inr ⟨by decide, by rw [e]; decide, by rw [e]; decide, by rw [e]; decide⟩⟩,
      fun e => ⟨fun _ => ⟨rfl, Or.inl ⟨rfl, by rw [e]; decide⟩⟩, fun f => absurd f (by decide)⟩,
      fun e => ⟨fun n => absurd (by decide) n, fun _ => ⟨rfl, Or.inr ⟨by decide, by rw [e]; decide, by rw [e]; decide, by rw [e]; decide⟩⟩⟩,
      fun e => ⟨fun n => absurd (by decide) n, fun _ => ⟨rfl, Or.inr ⟨by decide, by rw [e]; decide, by rw [e]; decide, by rw [e]; decide⟩⟩⟩,
      fun ⟨n97, n99, n100, n101, n104, n107, n109, n110, n112, n116, n119, n120, n121⟩ => ⟨rfl, Or.inl ⟨rfl, decide_eq_false (fun z => z.elim n99 (fun z => z.elim n121 (fun z => z.elim n109 (fun z => z.elim n120 (fun z => z.elim n116 n97)))))⟩⟩⟩
theorem c_opensf (d : Nat) {b : Nat → Int32} {n : Nat} {h : Hp_} (I : Iv h) (w : h_i h 1 34 = -1) (l : pa h < pz h) (dl : (h_i h 1 35).toInt ≤ 6) : Ci (m_X12_opens (d + 1) 0 0) [.ref 1] h (fun r h' => Iv h' ∧ Fr [1033, 1034, 1035] h h' ∧ ((r = 1 ∧ h_i h' 1 34 = h_i h 1 34 ∧ pa h' = pa h + 1 ∧ (h_i h' 1 35).toInt = (h_i h 1 35).toInt + 1 ∧ (h_i h 1 35).toInt ≤ 5) ∨ (r = 0 ∧ ¬ h_i h' 1 34 = -1 ∧ h_i h' 1 33 = h_i h 1 33 ∧ h_i h' 1 35 = h_i h 1 35 ∧ h_i h' 1 34 = Int32.ofNat (ta h) ∧ (h_i h 1 35).toInt = 6))) := by
  have t1 : (1 : Int32).toInt = 1 := rfl
  have t6 : (6 : Int32).toInt = 6 := rfl
  have p0 : 0 ≤ (h_i h 1 33).toInt := (pa_in I).1
  have z1 : (h_i h 1 32).toInt ≤ 160 := (pz_in I).2
  have l' : (h_i h 1 33).toInt < (h_i h 1 32).toInt := l
  have d0 : 0 ≤ (h_i h 1 35).toInt := (dp_in7 I).1
  have e33 : (h_i h 1 33 + 1).toInt = (h_i h 1 33).toInt + 1 := tx_add (by rw [t1]; omega) (by rw [t1]; omega)
  have e35 : (h_i h 1 35 + 1).toInt = (h_i h 1 35).toInt + 1 := tx_add (by rw [t1]; omega) (by rw [t1]; omega)
  refine t_X12_opens d h I.1 _ ⟨fun n6 => ?_, fun e6 => ?_⟩
  · have d5 : (h_i h 1 35).toInt ≤ 5 := by
      rcases Int.lt_or_le (h_i h 1 35).toInt 6 with u | u
      · omega
      · exact absurd (Int32.toInt_inj.mp (by rw [t6]; omega)) n6
    refine ⟨i33 (i35 I ⟨by show (0 : Int) ≤ _; omega, by show _ ≤ (7 : Int); omega⟩) ⟨by show (0 : Int) ≤ _; omega, by show _ ≤ (180 : Int); omega⟩, ((Fr.rf _ _).im (by decide +kernel)).im (by decide +kernel), Or.inl ⟨rfl, ?_, ?_, ?_, d5⟩⟩
    · rw [f_ne (by decide), f_ne (by decide)]
    · show (h_i (h_im _ 1 33 _) 1 33).toInt = _
      rw [im_at]; exact e33
    · rw [f_ne (by decide), im_at]; exact e35
  · exact Cv.mono (c_badf d I w) (fun h2 k => ⟨k.1.1, k.1, k.2.1.more (by decide +kernel), Or.inr ⟨rfl, k.2.2.1, (k.2.1.2 1 33 (by decide +kernel)).1, (k.2.1.2 1 35 (by decide +kernel)).1, k.2.2.2, by rw [e6, t6]⟩⟩)
theorem c_closesf (d : Nat) {b : Nat → Int32} {n : Nat} {h : Hp_} (I : Iv h) (t : Tp b n h) (x : Int32) (l : (h_i h 1 34 = -1 → pa h ≤ pz h) ∧ pa h ≤ 179) (hx : ¬ x = -1) (dl : 1 ≤ (h_i h 1 35).toInt) {T : Bool × Nat} (F : Sf b n T (exr b n x) h) : Cv (m_X12_closes (d + 1) 0 0) [.ref 1, .int x] h (fun h' => (Iv h' ∧ Fr [1033, 1034, 1035] h h' ∧ (h_i h' 1 35).toInt = (h_i h 1 35).toInt - 1 ∧ pa h + 1 ≤ pa h' ∧ (¬ h_i h 1 34 = -1 → h_i h' 1 34 = h_i h 1 34 ∧ pa h' = pa h + 1) ∧ (h_i h 1 34 = -1 → pa h' ≤ pz h + 1 ∧ (h_i h' 1 34 = -1 → pa h' ≤ pz h))) ∧ Ft b n T h') := by
  have t1 : (1 : Int32).toInt = 1 := rfl
  have p0 : 0 ≤ (h_i h 1 33).toInt := (pa_in I).1
  have z1 : (h_i h 1 32).toInt ≤ 160 := (pz_in I).2
  have d7 : (h_i h 1 35).toInt ≤ 7 := (dp_in7 I).2
  have st : ∀ h2, Iv h2 → Fr [1033, 1034, 1035] h h2 → h_i h2 1 35 = h_i h 1 35 → 0 ≤ pa h2 → pa h2 ≤ 179 → Iv (h_im (h_im h2 1 33 ((h_i h2 1 33) + 1)) 1 35 ((h_i h2 1 35) - 1)) ∧ Fr [1033, 1034, 1035] h (h_im (h_im h2 1 33 ((h_i h2 1 33) + 1)) 1 35 ((h_i h2 1 35) - 1)) ∧ (h_i (h_im (h_im h2 1 33 ((h_i h2 1 33) + 1)) 1 35 ((h_i h2 1 35) - 1)) 1 35).toInt = (h_i h 1 35).toInt - 1 ∧ pa (h_im (h_im h2 1 33 ((h_i h2 1 33) + 1)) 1 35 ((h_i h2 1 35) - 1)) = pa h2 + 1 ∧ h_i (h_im (h_im h2 1 33 ((h_i h2 1 33) + 1)) 1 35 ((h_i h2 1 35) - 1)) 1 34 = h_i h2 1 34 := by
    intro h2 I2 F2 e5 a0 a1
    have a0' : 0 ≤ (h_i h2 1 33).toInt := a0
    have a1' : (h_i h2 1 33).toInt ≤ 179 := a1
    have e33 : (h_i h2 1 33 + 1).toInt = (h_i h2 1 33).toInt + 1 := tx_add (by rw [t1]; omega) (by rw [t1]; omega)
    have e35 : (h_i h2 1 35 - 1).toInt = (h_i h 1 35).toInt - 1 := by rw [e5, tx_sub (by rw [t1]; omega) (by rw [t1]; omega), t1]
    refine ⟨i35 (i33 I2 ⟨by show (0 : Int) ≤ _; omega, by show _ ≤ (180 : Int); omega⟩) ⟨by show (0 : Int) ≤ _; omega, by show _ ≤ (7 : Int); omega⟩, (F2.im (by decide +kernel)).im (by decide +kernel), by rw [im_at]; exact e35, ?_, by rw [f_ne (by decide), f_ne (by decide)]⟩
    show (h_i (h_im (h_im h2 1 33 _) 1 35 _) 1 33).toInt = _
    rw [f_ne (by decide), im_at]; exact e33
  refine t_X12_closes d h I.1 x _ ⟨fun nw => ?_, fun w => ?_⟩
  · obtain ⟨s1, s2, s3, s4, s5⟩ := st h I (Fr.rf _ _) rfl p0 l.2
    exact ⟨⟨s1, s2, s3, by omega, fun _ => ⟨s5, s4⟩, fun y => absurd y nw⟩, Or.inr ⟨by rw [s5]; exact nw, ((F.2 nw).no nw).1, by rw [s5]; exact ((F.2 nw).no nw).2⟩⟩
  · have lw : (h_i h 1 33).toInt ≤ (h_i h 1 32).toInt := l.1 w
    refine Ci.mono (c_lookf d I t) (fun r h2 LL => ?_)
    have L := LL.1
    obtain ⟨I2, F2, l1, l2, lr⟩ := L
    have F2' : Fr [1033, 1034, 1035] h h2 := F2.more (by decide +kernel)
    have e5 : h_i h2 1 35 = h_i h 1 35 := (F2.2 1 35 (by decide +kernel)).1
    have e4 : h_i h2 1 34 = h_i h 1 34 := (F2.2 1 34 (by decide +kernel)).1
    have l1' : (h_i h 1 33).toInt ≤ (h_i h2 1 33).toInt := l1
    have l2' : (h_i h2 1 33).toInt ≤ (h_i h 1 32).toInt := by
      rcases l2 with u | u
      · have u' : (h_i h2 1 33).toInt ≤ (h_i h 1 33).toInt := u
        omega
      · exact u
    refine ⟨I2.1, fun er => ?_, fun nr => ?_⟩
    · have at2 : (h_i h2 1 33).toInt < (h_i h 1 32).toInt := by
        rcases lr with u | u
        · exact absurd (er.symm.trans u.1) hx
        · exact u.1
      obtain ⟨s1, s2, s3, s4, s5⟩ := st h2 I2 F2' e5 (by show 0 ≤ (h_i h2 1 33).toInt; omega) (by show (h_i h2 1 33).toInt ≤ 179; omega)
      refine ⟨⟨s1, s2, s3, ?_, fun y => absurd w y, fun _ => ⟨?_, fun _ => ?_⟩⟩, Or.inl ⟨by rw [s5, e4]; exact w, ?_, ?_⟩⟩
      · rw [s4]; show (h_i h 1 33).toInt + 1 ≤ (h_i h2 1 33).toInt + 1; omega
      · rw [s4]; show (h_i h2 1 33).toInt + 1 ≤ (h_i h 1 32).toInt + 1; omega
      · rw [s4]; show (h_i h2 1 33).toInt + 1 ≤ (h_i h 1 32).toInt; omega
      · rw [F.1 w]
        unfold exr
        rw [if_pos (by rw [← LL.2.2]; exact er)]
      · rw [F.1 w]
        unfold exr
        rw [if_pos (by rw [← LL.2.2]; exact er), nxa LL s1 s4]
    · have w2 : h_i h2 1 34 = -1 := by rw [e4]; exact w
      refine Cv.mono (c_badf d I2 w2) (fun h3 k => ?_)
      have f3 : h_i h3 1 33 = h_i h2 1 33 := (k.2.1.2 1 33 (by decide +kernel)).1
      have f5 : h_i h3 1 35 = h_i h 1 35 := (k.2.1.2 1 35 (by decide +kernel)).1.trans e5
      obtain ⟨s1, s2, s3, s4, s5⟩ := st h3 k.1 (F2'.tr (k.2.1.more (by decide +kernel))) f5 (by show 0 ≤ (h_i h3 1 33).toInt; rw [f3]; omega) (by show (h_i h3 1 33).toInt ≤ 179; rw [f3]; omega)
      refine ⟨k.1.1, ⟨s1, s2, s3, ?_, fun y => absurd w y, fun _ => ⟨?_, fun y => absurd (s5.symm.trans y) k.2.2.1⟩⟩, Or.inr ⟨by rw [s5]; exact k.2.2.1, ?_, ?_⟩⟩
      · rw [s4]; show (h_i h 1 33).toInt + 1 ≤ (h_i h3 1 33).toInt + 1; rw [f3]; omega
      · rw [s4]; show (h_i h3 1 33).toInt + 1 ≤ (h_i h 1 32).toInt + 1; rw [f3]; omega
      · rw [F.1 w]
        unfold exr
        rw [if_neg (by rw [← LL.2.2]; exact nr)]
      · rw [F.1 w, s5, k.2.2.2, LL.2.1]
        unfold exr
        rw [if_neg (by rw [← LL.2.2]; exact nr)]
theorem lt_dg {s : Nat} (hs : s = 1 ∨ s = 2) {x : Int32} (h : ltb s x = true) : ¬ dgb x = true ∧ ¬ x = 91 := by
  have key : ∀ y : Int32, (y = 107 ∨ y = 119 ∨ y = 112 ∨ y = 104 ∨ y = 100 ∨ y = 99 ∨ y = 110 ∨ y = 101 ∨ y = 116 ∨ y = 121 ∨ y = 109 ∨ y = 120 ∨ y = 97) → ¬ dgb y = true ∧ ¬ y = 91 := by
    rintro y (u | u | u | u | u | u | u | u | u | u | u | u | u) <;> rw [u] <;> decide
  rcases hs with u | u <;> subst u
  · have h' := of_decide_eq_true (show decide (x = 107 ∨ x = 119 ∨ x = 112 ∨ x = 104 ∨ x = 100 ∨ x = 99 ∨ x = 110 ∨ x = 101 ∨ x = 116) = true from h)
    rcases h' with u | u | u | u | u | u | u | u | u <;> exact key x (by rw [u]; decide)
  · have h' := of_decide_eq_true (show decide (x = 99 ∨ x = 121 ∨ x = 109 ∨ x = 120 ∨ x = 116 ∨ x = 97) = true from h)
    rcases h' with u | u | u | u | u | u <;> exact key x (by rw [u]; decide)
theorem c_atomf {b : Nat → Int32} {n : Nat} (s e : Nat) (D : Int) (hs : s = 1 ∨ s = 2) (z : Bool) (f : Rcg) (hz : z = true ↔ ¬ D ≤ 5) (B : D ≤ 5 → Rdf b n s (D + 1) f (fun d h K => Cv (m_X12_sum (d + e + 53) 0 0) [.ref 1] h K)) : Rdf b n s D (atm b n (ltb s) z f) (fun d h K => Cv (m_X12_atom (d + e + 61) 0 0) [.ref 1] h K) := by
  intro d h I q eD es t
  have z1 : pz h ≤ 160 := (pz_in I).2
  have q1 := q.1
  have q2 := q.2.1
  have q3 := q.2.2.1
  have q5 := q.said I
  refine t_X12_atom (d + e) h I.1 _ (Ci.mono (c_lookf (d + e) I t) (fun r h1 LL => ⟨LL.1.1.1, fun n91 => ?_, fun er => ?_⟩))
  · have L := LL.1
    have s1 : h_i h1 1 37 = Int32.ofNat s := by rw [(L.2.1.2 1 37 (by decide +kernel)).1]; exact es
    rw [s1]
    refine Ci.mono (c_isLetterf (d + e) h1 r hs) (fun r2 h2 k => ?_)
    obtain ⟨e2, k⟩ := k
    subst e2
    have w1 : h_i h2 1 34 = -1 := by rw [(L.2.1.2 1 34 (by decide +kernel)).1]; exact q1
    have z2 := zf L.2.1 (by decide +kernel)
    have a1 : pa h2 ≤ pz h := by
      rcases L.2.2.2.1 with u | u
      · omega
      · exact u
    have l3 := L.2.2.1
    have p1 : ps h2 = ps h := by show (h_i h2 1 36).toInt = _; rw [(L.2.1.2 1 36 (by decide +kernel)).1]
    refine ⟨L.1.1, fun r0 => ?_, fun r0 => ?_⟩
    · have nl : ltb s r = false := by
        rcases k with k | k
        · exact k.2
        · exact absurd r0 k.1
      have ea : atm b n (ltb s) z f (ta h) = nm0 b n (ta h) := by
        unfold atm
        by_cases c : dgb (skv b n (ta h)) = true
        · rw [if_pos c]
        · rw [if_neg c, if_neg (by rw [← LL.2.2]; exact n91)]
          unfold onr nm0
          rw [if_neg (by rw [← LL.2.2, nl]; decide), if_neg c]
      refine Ci.mono (c_numberf (d + e) L.1 (LL.t t) w1 (by omega)) (fun v h3 NN => ⟨NN.1.1.1, ?_⟩)
      obtain ⟨N, NF, _⟩ := NN
      obtain ⟨n1, n2, n3, n4, n5⟩ := N
      rw [LL.2.1, nm0_c] at NF
      have p3 : ps h3 = ps h2 := by show (h_i h3 1 36).toInt = _; rw [(n2.2 1 36 (by decide +kernel)).1]
      refine Cv.mono (c_say (d + e) n1 0 (by show ps h3 ≤ 558; omega)) (fun h4 S => ⟨S.1.1, Cv.mono (c_say (d + e) S.1 v ?_) (fun h5 S' => ⟨S'.1.1, ?_, ?_⟩)⟩)
      · have := S.2.2.1
        show ps h4 ≤ 558
        have e4 : ps h4 = ps h3 + 1 := this
        omega
      · exact Pe.two I q ((L.2.1.more (by decide +kernel)).tr n2) (by omega) (by omega) (fun w => by have := n5 w; omega) S S' (Or.inl rfl)
      · rw [ea]
        exact (NF.fr S.2.1 (by decide +kernel)).fr S'.2.1 (by decide +kernel)
    · have k : ltb s r = true ∧ ¬ r = -1 ∧ okl s r = true := by
        rcases k with k | k
        · exact absurd k.1 r0
        · exact k.2
      have l5 : pa h2 < pz h := by
        rcases L.fwd rfl with u | u
        · exact absurd u k.2.1
        · exact u
      have nd := lt_dg hs k.1
      have ea : atm b n (ltb s) z f (ta h) = (true, ska b n (ska b n (ta h) + 1)) := by
        unfold atm
        rw [if_neg (by rw [← LL.2.2]; exact nd.1), if_neg (by rw [← LL.2.2]; exact nd.2)]
        unfold onr
        rw [if_pos (by rw [← LL.2.2]; exact k.1)]
      have a0 : 0 ≤ pa h2 := (pa_in L.1).1
      have o1 : (1 : Int32).toInt = 1 := rfl
      have e33 : (h_i h2 1 33 + 1).toInt = pa h2 + 1 := by
        show (h_i h2 1 33 + 1).toInt = (h_i h2 1 33).toInt + 1
        have a0' : 0 ≤ (h_i h2 1 33).toInt := a0
        have l' : (h_i h2 1 33).toInt < pz h := l5
        rw [tx_add (by rw [o1]; omega) (by rw [o1]; omega), o1]
      have I3 : Iv (h_im h2 1 33 ((h_i h2 1 33) + 1)) := i33 L.1 ⟨by rw [e33]; show (0 : Int) ≤ _; omega, by rw [e33]; show _ ≤ (180 : Int); omega⟩
      have F3 : Fr [1033] h2 (h_im h2 1 33 ((h_i h2 1 33) + 1)) := (Fr.rf _ _).im (by decide +kernel)
      have ea3 : pa (h_im h2 1 33 ((h_i h2 1 33) + 1)) = pa h2 + 1 := by
        show (h_i (h_im h2 1 33 _) 1 33).toInt = _
        rw [im_at]; exact e33
      have es' : ps (h_im h2 1 33 ((h_i h2 1 33) + 1)) = ps h2 := by
        show (h_i (h_im h2 1 33 _) 1 36).toInt = _
        rw [f_ne (by decide)]
      have F0 : Ft b n (atm b n (ltb s) z f (ta h)) (h_im h2 1 33 ((h_i h2 1 33) + 1)) := by
        rw [ea]
        exact Or.inl ⟨by rw [f_ne (by decide)]; exact w1, rfl, by rw [nxa LL I3 ea3]⟩
      refine Cv.mono (c_say (d + e) I3 1 (by show ps (h_im h2 1 33 _) ≤ 558; omega)) (fun h4 S => ⟨S.1.1, Cv.mono (c_say (d + e) S.1 r ?_) (fun h5 S' => ⟨S'.1.1, ?_, (F0.fr S.2.1 (by decide +kernel)).fr S'.2.1 (by decide +kernel)⟩)⟩)
      · have e4 : ps h4 = ps (h_im h2 1 33 ((h_i h2 1 33) + 1)) + 1 := S.2.2.1
        show ps h4 ≤ 558
        omega
      · exact Pe.two I q ((L.2.1.tr F3).more (by decide +kernel)) (by omega) (by omega) (fun w => by omega) S S' (Or.inr ⟨rfl, k.2.2⟩)
  · have L := LL.1
    have l5 : pa h1 < pz h := by
      rcases L.fwd rfl with u | u
      · rw [er] at u; exact absurd u (by decide)
      · exact u
    have z2 := zf L.2.1 (by decide +kernel)
    have e35 : pd h1 = pd h := by show (h_i h1 1 35).toInt = _; rw [(L.2.1.2 1 35 (by decide +kernel)).1]
    have w1 : h_i h1 1 34 = -1 := by rw [(L.2.1.2 1 34 (by decide +kernel)).1]; exact q1
    have e91 : skv b n (ta h) = 91 := by rw [← LL.2.2]; exact er
    have ea : atm b n (ltb s) z f (ta h) = if z = true then (false, ska b n (ta h)) else sqr f (exr b n 93) (ska b n (ta h) + 1) := by
      unfold atm
      rw [if_neg (by rw [e91]; decide), if_pos e91]
    refine Ci.mono (c_opensf (b := b) (n := n) (d + e) L.1 w1 (by omega) (by show pd h1 ≤ 6; omega)) (fun r2 h2 k => ?_)
    obtain ⟨I2, F2, k⟩ := k
    refine ⟨I2.1, fun r0 => ?_, fun r0 => ?_⟩
    · rcases k with k | k
      · rw [k.1] at r0; exact absurd r0 (by decide)
      · refine ⟨Pe.no I q L I2 F2 k.2.1 k.2.2.1 k.2.2.2.1, ?_⟩
        have d6 : pd h1 = 6 := k.2.2.2.2.2
        rw [ea, if_pos (hz.mpr (by omega))]
        exact Or.inr ⟨k.2.1, rfl, by rw [k.2.2.2.2.1, LL.2.1]⟩
    · rcases k with k | k
      · obtain ⟨k1, k2, k3, k4, k5⟩ := k
        obtain ⟨Q2, G2, b2, d2, d5, s2⟩ := op_q I q L l5 I2 F2 k2 k3 k4 k5
        rw [ea, if_neg (fun y => absurd (by omega) (hz.mp y))]
        refine Cv.mono (B (by omega) d h2 I2 Q2 (by omega) (by rw [s2]; exact es) (t.fr G2 (by decide +kernel))) (fun h3 PP => ?_)
        obtain ⟨P, PF⟩ := PP
        rw [nxa LL I2 k3] at PF
        refine ⟨P.1.1, Cv.mono (c_closesf (d + e) P.1 (P.tp (t.fr G2 (by decide +kernel))) 93 ?_ (by decide) ?_ (sqf (f := f) exr_c PF)) (fun h4 C => ⟨C.1.1.1, Pe.br I q G2 b2 d2 d5 P C.1, C.2⟩)⟩
        · have z3 := zf P.2.1 (by decide +kernel)
          have z4 := zf G2 (by decide +kernel)
          refine ⟨fun w => ?_, ?_⟩
          · have := (P.2.2.2.2.2.2.1 w).1
            omega
          · have d0 : 0 ≤ pd h2 := (dp_in7 I2).1
            by_cases w : h_i h3 1 34 = -1
            · have := (P.2.2.2.2.2.2.1 w).1
              omega
            · have := (P.2.2.2.2.2.2.2 w).1
              omega
        · have p3 := P.2.2.1
          have d0 : 0 ≤ pd h := (dp_in7 I).1
          show 1 ≤ pd h3
          omega
      · exact absurd k.1 r0
theorem part_lpf {b : Nat → Int32} {n : Nat} (s e : Nat) (D : Int) (u : Rcg) (A : Rdf b n s D u (fun d h K => Cv (m_X12_unit (d + e + 55) 0 0) [.ref 1] h K)) (d : Nat) {h : Hp_} (I : Iv h) (q : Pq h) (eD : pd h = D) (es : h_i h 1 37 = Int32.ofNat s) (t : Tp b n h) (T : Bool × Nat) :
    ∀ (k : Nat) (h2 : Hp_), Pe s h h2 → Sf b n T (lpr b n (isq 38) u k) h2 → pz h - pa h2 ≤ k → AW (m_X12_part (d + e + 56) 0 0) 0 0 15 [(0, .ref 1)] [] h2 (kV (fun h' => Pe s h h' ∧ Ft b n T h')) := by
  intro k
  induction k with
  | zero =>
    intro h2 P F m
    refine t_X12_part_15 (d + e) h2 P.1.1 _ ⟨fun w => ⟨P, F.2 w⟩, fun w => Ci.mono (c_lookf (d + e) P.1 (P.tp t)) (fun r h5 L => ⟨L.1.1.1, fun _ => ⟨P.lk I L.1, lp0 F w L⟩, fun er => ?_⟩)⟩
    have l3 := L.1.2.2.1
    rcases L.1.fwd (zf P.2.1 (by decide +kernel)) with v | v
    · rw [er] at v; exact absurd v (by decide)
    · omega
  | succ k ih =>
    intro h2 P F m
    refine t_X12_part_15 (d + e) h2 P.1.1 _ ⟨fun w => ⟨P, F.2 w⟩, fun w => Ci.mono (c_lookf (d + e) P.1 (P.tp t)) (fun r h5 L => ⟨L.1.1.1, fun nr => ⟨P.lk I L.1, lpx F w L (decide_eq_false nr)⟩, fun er => ?_⟩)⟩
    have P5 := P.lk I L.1
    have w5 : h_i h5 1 34 = -1 := by rw [(L.1.2.1.2 1 34 (by decide +kernel)).1]; exact w
    have l3 := L.1.2.2.1
    have l5 : pa h5 < pz h := by
      rcases L.1.fwd (zf P.2.1 (by decide +kernel)) with v | v
      · rw [er] at v; exact absurd v (by decide)
      · exact v
    obtain ⟨I6, F6, a6, q6, d6, s6⟩ := P5.nx I q w5 l5
    refine Cv.mono (A d _ I6 q6 (by omega) (by rw [s6]; exact es) ((P5.tp t).fr F6 (by decide +kernel))) (fun h9 Q => ⟨Q.1.1.1, Cv.mono (c_say (d + e) Q.1.1 38 (Q.1.room I6 q6)) (fun h12 S => ?_)⟩)
    have P12 := P5.op w5 I I6 F6 (by omega) Q.1 S (by decide)
    have e33 : pa h12 = pa h9 := by show (h_i h12 1 33).toInt = _; rw [(S.2.1.2 1 33 (by decide +kernel)).1]
    have q4 := Q.1.2.2.2.1
    have G := Q.2
    rw [nxa L I6 a6] at G
    exact ⟨S.1.1, ih h12 P12 ((lps F w L.2.2 (decide_eq_true er) G).fr S.2.1 (by decide +kernel)) (by omega)⟩
theorem condition_lpf {b : Nat → Int32} {n : Nat} (s e : Nat) (D : Int) (u : Rcg) (A : Rdf b n s D u (fun d h K => Cv (m_X12_part (d + e + 56) 0 0) [.ref 1, .int 0] h K)) (d : Nat) {h : Hp_} (I : Iv h) (q : Pq h) (eD : pd h = D) (es : h_i h 1 37 = Int32.ofNat s) (t : Tp b n h) (T : Bool × Nat) :
    ∀ (k : Nat) (h2 : Hp_), Pe s h h2 → Sf b n T (lpr b n (isq 124) u k) h2 → pz h - pa h2 ≤ k → AW (m_X12_condition (d + e + 57) 0 0) 0 0 5 [(0, .ref 1)] [] h2 (kV (fun h' => Pe s h h' ∧ Ft b n T h')) := by
  intro k
  induction k with
  | zero =>
    intro h2 P F m
    refine t_X12_condition_5 (d + e) h2 P.1.1 _ ⟨fun w => ⟨P, F.2 w⟩, fun w => Ci.mono (c_lookf (d + e) P.1 (P.tp t)) (fun r h5 L => ⟨L.1.1.1, fun _ => ⟨P.lk I L.1, lp0 F w L⟩, fun er => ?_⟩)⟩
    have l3 := L.1.2.2.1
    rcases L.1.fwd (zf P.2.1 (by decide +kernel)) with v | v
    · rw [er] at v; exact absurd v (by decide)
    · omega
  | succ k ih =>
    intro h2 P F m
    refine t_X12_condition_5 (d + e) h2 P.1.1 _ ⟨fun w => ⟨P, F.2 w⟩, fun w => Ci.mono (c_lookf (d + e) P.1 (P.tp t)) (fun r h5 L => ⟨L.1.1.1, fun nr => ⟨P.lk I L.1, lpx F w L (decide_eq_false nr)⟩, fun er => ?_⟩)⟩
    have P5 := P.lk I L.1
    have w5 : h_i h5 1 34 = -1 := by rw [(L.1.2.1.2 1 34 (by decide +kernel)).1]; exact w
    have l3 := L.1.2.2.1
    have l5 : pa h5 < pz h := by
      rcases L.1.fwd (zf P.2.1 (by decide +kernel)) with v | v
      · rw [er] at v; exact absurd v (by decide)
      · exact v
    obtain ⟨I6, F6, a6, q6, d6, s6⟩ := P5.nx I q w5 l5
    refine Cv.mono (A d _ I6 q6 (by omega) (by rw [s6]; exact es) ((P5.tp t).fr F6 (by decide +kernel))) (fun h9 Q => ⟨Q.1.1.1, Cv.mono (c_say (d + e) Q.1.1 124 (Q.1.room I6 q6)) (fun h12 S => ?_)⟩)
    have P12 := P5.op w5 I I6 F6 (by omega) Q.1 S (by decide)
    have e33 : pa h12 = pa h9 := by show (h_i h12 1 33).toInt = _; rw [(S.2.1.2 1 33 (by decide +kernel)).1]
    have q4 := Q.1.2.2.2.1
    have G := Q.2
    rw [nxa L I6 a6] at G
    exact ⟨S.1.1, ih h12 P12 ((lps F w L.2.2 (decide_eq_true er) G).fr S.2.1 (by decide +kernel)) (by omega)⟩
theorem c_part0f {b : Nat → Int32} {n : Nat} (s e : Nat) (D : Int) (u : Rcg) (A : Rdf b n s D u (fun d h K => Cv (m_X12_unit (d + e + 55) 0 0) [.ref 1] h K)) : Rdf b n s D (prt b n u) (fun d h K => Cv (m_X12_part (d + e + 56) 0 0) [.ref 1, .int 0] h K) := by
  intro d h I q eD es t
  exact t_X12_part (d + e) h I.1 0 _ ⟨fun _ => Cv.mono (A d h I q eD es t) (fun h2 P => ⟨P.1.1.1, part_lpf s e D u A d I q eD es t _ 160 h2 P.1 (sqf (f := u) (lpr_c 160) P.2) (P.1.m I)⟩), fun n => absurd rfl n⟩
theorem c_cond0f {b : Nat → Int32} {n : Nat} (s e : Nat) (D : Int) (u : Rcg) (A : Rdf b n s D u (fun d h K => Cv (m_X12_unit (d + e + 55) 0 0) [.ref 1] h K)) : Rdf b n s D (cnd b n u) (fun d h K => Cv (m_X12_condition (d + e + 57) 0 0) [.ref 1, .int 0] h K) := by
  intro d h I q eD es t
  rw [prt_a]
  exact t_X12_condition (d + e) h I.1 0 _ (Cv.mono (c_part0f s e D u A d h I q eD es t) (fun h2 P => ⟨P.1.1.1, condition_lpf s e D _ (c_part0f s e D u A) d I q eD es t _ 160 h2 P.1 (sqf (f := prt b n u) (lpr_c 160) P.2) (P.1.m I)⟩))
/-- a condition whose first sum stands -/
theorem c_cond1f {b : Nat → Int32} {n : Nat} (s e : Nat) (D : Int) (u f : Rcg) (A : Rdf b n s D u (fun d h K => Cv (m_X12_unit (d + e + 55) 0 0) [.ref 1] h K)) (B : Rdf b n s D f (fun d h K => Cv (m_X12_sum (d + e + 53) 0 0) [.ref 1] h K)) (d : Nat) {h h2 : Hp_} (I : Iv h) (q : Pq h) (eD : pd h = D) (es : h_i h 1 37 = Int32.ofNat s) (t : Tp b n h) (P : Pe s h h2) (w : h_i h2 1 34 = -1) :
    Cv (m_X12_condition (d + e + 57) 0 0) [.ref 1, .int 1] h2 (fun h' => Pe s h h' ∧ Ft b n (sqr (cmq b n f) (mpt b n u) (ta h2)) h') := by
  have e1 : sqr (cmq b n f) (mpt b n u) = sqr (sqr (cmq b n f) (mun b n u)) (lpr b n (isq 124) (prt b n u) 160) := by
    unfold mpt
    rw [sqr_a]
  rw [e1]
  refine t_X12_condition (d + e) h2 P.1.1 1 _ (Cv.mono (K := fun h3 => Pe s h h3 ∧ Ft b n (sqr (cmq b n f) (mun b n u) (ta h2)) h3) ?_ (fun h3 P3 => ⟨P3.1.1.1, condition_lpf s e D _ (c_part0f s e D u A) d I q eD es t _ 160 h3 P3.1 (sqf (f := sqr (cmq b n f) (mun b n u)) (lpr_c 160) P3.2) (P3.1.m I)⟩))
  exact t_X12_part (d + e) h2 P.1.1 1 _ ⟨fun n => absurd n (by decide), fun _ => Cv.mono (c_comparef s e D f B d I q eD es t P (T := cmq b n f (ta h2)) ⟨fun _ => rfl, fun y => absurd w y⟩) (fun h3 P3 => ⟨P3.1.1.1, part_lpf s e D u A d I q eD es t _ 160 h3 P3.1 (sqf (f := cmq b n f) (lpr_c 160) P3.2) (P3.1.m I)⟩)⟩
theorem c_unitf {b : Nat → Int32} {n : Nat} (s e r0 : Nat) (D : Int) (hD : D = 6 - (r0 : Int)) (lt : Int32 → Bool) (B : Rdf b n s D (sms b n lt r0) (fun d h K => Cv (m_X12_sum (d + e + 53) 0 0) [.ref 1] h K)) (U : ∀ r, r0 = r + 1 → Rdf b n s (D + 1) (unt b n lt r) (fun d h K => Cv (m_X12_unit (d + e + 55) 0 0) [.ref 1] h K)) : Rdf b n s D (unt b n lt r0) (fun d h K => Cv (m_X12_unit (d + e + 65) 0 0) [.ref 1] h K) := by
  intro d h I q eD es t
  have z1 : pz h ≤ 160 := (pz_in I).2
  have q1 := q.1
  have q2 := q.2.1
  have q3 := q.2.2.1
  have q5 := q.said I
  have d0 : 0 ≤ pd h := (dp_in7 I).1
  refine t_X12_unit (d + e) h I.1 _ (Ci.mono (c_lookf (d + e) I t) (fun r h1 LL => ?_))
  have L := LL.1
  have z2 := zf L.2.1 (by decide +kernel)
  have e35 : pd h1 = pd h := by show (h_i h1 1 35).toInt = _; rw [(L.2.1.2 1 35 (by decide +kernel)).1]
  have e36 : h_i h1 1 36 = h_i h 1 36 := (L.2.1.2 1 36 (by decide +kernel)).1
  have f226 : h_i h1 226 = h_i h 226 := funext (fun k => fr_i L.2.1 (by decide +kernel) k)
  have ps1 : ps h1 = ps h := by show (h_i h1 1 36).toInt = _; rw [e36]
  have sn1 : sN h1 = sN h := by show (h_i h1 1 36).toNatClampNeg = _; rw [e36]
  have l3 := L.2.2.1
  have w1 : h_i h1 1 34 = -1 := by rw [(L.2.1.2 1 34 (by decide +kernel)).1]; exact q1
  have a1 : pa h1 ≤ pz h := by
    rcases L.2.2.2.1 with u | u
    · omega
    · exact u
  have op : pa h1 < pz h → Ci (m_X12_opens (d + e + 1) 0 0) [.ref 1] h1 (fun r2 h2 => Iv h2 ∧ (r2 = 0 → Pe s h h2 ∧ r0 = 0 ∧ ¬ h_i h2 1 34 = -1 ∧ h_i h2 1 34 = Int32.ofNat (ska b n (ta h))) ∧ (¬ r2 = 0 → Pq h2 ∧ Fr [1033, 1034, 1035] h h2 ∧ pa h + 1 ≤ pa h2 ∧ pd h2 = pd h + 1 ∧ pd h ≤ 5 ∧ h_i h2 1 37 = h_i h 1 37 ∧ ta h2 = ska b n (ta h) + 1)) := by
    intro l5
    refine Ci.mono (c_opensf (b := b) (n := n) (d + e) L.1 w1 (by omega) (by show pd h1 ≤ 6; omega)) (fun r2 h2 k => ?_)
    obtain ⟨I2, F2, k⟩ := k
    refine ⟨I2, fun r0 => ?_, fun r0 => ?_⟩
    · rcases k with k | k
      · rw [k.1] at r0; exact absurd r0 (by decide)
      · have d6 : pd h1 = 6 := k.2.2.2.2.2
        exact ⟨Pe.no I q L I2 F2 k.2.1 k.2.2.1 k.2.2.2.1, by omega, k.2.1, by rw [k.2.2.2.2.1, LL.2.1]⟩
    · rcases k with k | k
      · obtain ⟨k1, k2, k3, k4, k5⟩ := k
        obtain ⟨v1, v2, v3, v4, v5, v6⟩ := op_q I q L l5 I2 F2 k2 k3 k4 k5
        exact ⟨v1, v2, v3, v4, v5, v6, nxa LL I2 k3⟩
      · exact absurd k.1 r0
  refine ⟨L.1.1, fun n1 => ⟨fun n2 => ?_, fun er => ?_⟩, fun er => ?_⟩
  · have qh1 : Pq h1 := ⟨w1, by omega, by omega, by have := q.2.2.2; omega⟩
    have Pl : ∀ h6, Pe s h1 h6 → Pe s h h6 := fun h6 P => by
      obtain ⟨p1, p2, p3, p4, p5, p6, p7, p8⟩ := P
      refine ⟨p1, (L.2.1.more (by decide +kernel)).tr p2, by omega, by omega, fun k hk => by rw [p5 k (by omega), f226], by omega, fun w => ?_, fun w => ?_⟩
      · obtain ⟨t1, t2, t3, K, t4, t5⟩ := p7 w
        exact ⟨by omega, by omega, by omega, K, by omega, by rw [← sn1]; exact t5⟩
      · obtain ⟨t1, t2⟩ := p8 w
        exact ⟨by omega, by omega⟩
    have eu : unt b n lt r0 (ta h) = sqr (sms b n lt r0) (cmq b n (sms b n lt r0)) (ta h1) := by
      rw [LL.2.1, sqr_c (sms_c r0) (ta h)]
      have x1 : ¬ skv b n (ta h) = 33 := by rw [← LL.2.2]; exact n1
      have x2 : ¬ skv b n (ta h) = 40 := by rw [← LL.2.2]; exact n2
      cases r0 with
      | zero =>
        unfold unt
        exact if_neg (fun y => y.elim x1 x2)
      | succ r0 =>
        unfold unt
        rw [if_neg x1, if_neg x2]
    rw [eu]
    refine Cv.mono (B d h1 L.1 qh1 (by omega) (by rw [(L.2.1.2 1 37 (by decide +kernel)).1]; exact es) (LL.t t)) (fun h6 P => ⟨P.1.1.1, Cv.mono (c_comparef s e D _ B d I q eD es t (Pl h6 P.1) (sqf (f := sms b n lt r0) cmq_c P.2)) (fun h9 P9 => ⟨P9.1.1.1, P9⟩)⟩)
  · have l5 : pa h1 < pz h := by
      rcases L.fwd rfl with u | u
      · rw [er] at u; exact absurd u (by decide)
      · exact u
    have e40 : skv b n (ta h) = 40 := by rw [← LL.2.2]; exact er
    refine Ci.mono (op l5) (fun r2 h2 k => ⟨k.1.1, fun y => ?_, fun r0n => ?_⟩)
    · obtain ⟨k1, k2, k3, k4⟩ := k.2.1 y
      refine ⟨k1, ?_⟩
      rw [k2]
      have eu : unt b n lt 0 (ta h) = (false, ska b n (ta h)) := by
        unfold unt
        exact if_pos (Or.inr e40)
      rw [eu]
      exact Or.inr ⟨k3, rfl, k4⟩
    · obtain ⟨Q2, G2, b2, d2, d5, s2, a2⟩ := k.2.2 r0n
      have t2 : Tp b n h2 := t.fr G2 (by decide +kernel)
      cases r0 with
      | zero => exact absurd d5 (by omega)
      | succ r0 =>
        have eu : unt b n lt (r0 + 1) (ta h) = sqr (cnd b n (unt b n lt r0)) (exr b n 41) (ta h2) := by
          show (if skv b n (ta h) = 33 then unt b n lt r0 (ska b n (ta h) + 1) else if skv b n (ta h) = 40 then sqr (cnd b n (unt b n lt r0)) (exr b n 41) (ska b n (ta h) + 1) else sqr (sms b n lt (r0 + 1)) (cmq b n (sms b n lt (r0 + 1))) (ta h)) = _
          rw [if_neg (by rw [e40]; decide), if_pos e40, a2]
        rw [eu]
        refine Cv.mono (c_cond0f s e (D + 1) _ (U r0 rfl) d h2 k.1 Q2 (by omega) (by rw [s2]; exact es) t2) (fun h3 PP => ?_)
        obtain ⟨P, PF⟩ := PP
        refine ⟨P.1.1, Cv.mono (c_closesf (d + e) P.1 (P.tp t2) 41 ?_ (by decide) ?_ (sqf (f := cnd b n (unt b n lt r0)) exr_c PF)) (fun h4 C => ⟨C.1.1.1, Pe.br I q G2 b2 d2 d5 P C.1, C.2⟩)⟩
        · have z3 := zf P.2.1 (by decide +kernel)
          have z4 := zf G2 (by decide +kernel)
          refine ⟨fun w => ?_, ?_⟩
          · have := (P.2.2.2.2.2.2.1 w).1
            omega
          · by_cases w : h_i h3 1 34 = -1
            · have := (P.2.2.2.2.2.2.1 w).1
              omega
            · have := (P.2.2.2.2.2.2.2 w).1
              omega
        · have p3 := P.2.2.1
          show 1 ≤ pd h3
          omega
  · have l5 : pa h1 < pz h := by
      rcases L.fwd rfl with u | u
      · rw [er] at u; exact absurd u (by decide)
      · exact u
    have e33 : skv b n (ta h) = 33 := by rw [← LL.2.2]; exact er
    refine Ci.mono (op l5) (fun r2 h2 k => ⟨k.1.1, fun y => ?_, fun r0n => ?_⟩)
    · obtain ⟨k1, k2, k3, k4⟩ := k.2.1 y
      refine ⟨k1, ?_⟩
      rw [k2]
      have eu : unt b n lt 0 (ta h) = (false, ska b n (ta h)) := by
        unfold unt
        exact if_pos (Or.inl e33)
      rw [eu]
      exact Or.inr ⟨k3, rfl, k4⟩
    · obtain ⟨Q2, G2, b2, d2, d5, s2, a2⟩ := k.2.2 r0n
      have t2 : Tp b n h2 := t.fr G2 (by decide +kernel)
      cases r0 with
      | zero => exact absurd d5 (by omega)
      | succ r0 =>
        have eu : unt b n lt (r0 + 1) (ta h) = unt b n lt r0 (ta h2) := by
          rw [a2]
          show (if skv b n (ta h) = 33 then unt b n lt r0 (ska b n (ta h) + 1) else _) = _
          rw [if_pos e33]
        rw [eu]
        refine Cv.mono (U r0 rfl d h2 k.1 Q2 (by omega) (by rw [s2]; exact es) t2) (fun h3 PP => ?_)
        obtain ⟨P, PF⟩ := PP
        refine ⟨P.1.1, ?_⟩
        have p3 := P.2.2.1
        have o1 : (1 : Int32).toInt = 1 := rfl
        have d1 : 1 ≤ (h_i h3 1 35).toInt := by show 1 ≤ pd h3; omega
        have d7 : (h_i h3 1 35).toInt ≤ 7 := (dp_in7 P.1).2
        have e3 : (h_i h3 1 35 - 1).toInt = (h_i h3 1 35).toInt - 1 := by rw [tx_sub (by rw [o1]; omega) (by rw [o1]; omega), o1]
        refine Cv.mono (c_say (d + e) (i35 P.1 ⟨by rw [e3]; show (0 : Int) ≤ _; omega, by rw [e3]; show _ ≤ (7 : Int); omega⟩) 33 ?_) (fun h5 S => ⟨S.1.1, Pe.nt I q G2 b2 d2 d5 P S, (PF.mv (f_ne (by decide)) (f_ne (by decide))).fr S.2.1 (by decide +kernel)⟩)
        rw [f_ne (by decide)]
        exact P.room k.1 Q2
theorem c_sumsf {b : Nat → Int32} {n : Nat} (s : Nat) (hs : s = 1 ∨ s = 2) : ∀ (g : Nat), g ≤ 6 → Rdf b n s (6 - (g : Int)) (sms b n (ltb s) g) (fun d h K => Cv (m_X12_sum (d + (10 * g + 10) + 53) 0 0) [.ref 1] h K) := by
  intro g
  induction g with
  | zero =>
    intro _
    refine c_sumf s _ _ _ (c_termf s _ _ _ ?_)
    exact c_atomf s 0 _ hs true _ ⟨fun _ => by decide, fun _ => rfl⟩ (fun n => absurd n (by decide))
  | succ g ih =>
    intro hg
    refine c_sumf s _ _ _ (c_termf s _ _ _ ?_)
    have := c_atomf (b := b) (n := n) s (10 * g + 10) (6 - ((g + 1 : Nat) : Int)) hs false (sms b n (ltb s) g) ⟨fun y => absurd y (by decide), fun y => absurd (by omega) y⟩ (fun _ => by rw [show (6 - ((g + 1 : Nat) : Int)) + 1 = 6 - (g : Int) by omega]; exact ih (by omega))
    intro d h I q a b' t
    have k := this d h I q a b' t
    dsimp only at k
    rw [show d + (10 * g + 10) + 61 = d + (10 * (g + 1) + 10) + 51 by omega] at k
    exact k
theorem c_unitsf {b : Nat → Int32} {n : Nat} (s : Nat) (hs : s = 1 ∨ s = 2) : ∀ (g : Nat), g ≤ 6 → Rdf b n s (6 - (g : Int)) (unt b n (ltb s) g) (fun d h K => Cv (m_X12_unit (d + (10 * g + 10) + 65) 0 0) [.ref 1] h K) := by
  intro g
  induction g with
  | zero =>
    intro _
    exact c_unitf s _ 0 _ rfl _ (c_sumsf s hs 0 (by decide)) (fun r y => absurd y (by omega))
  | succ g ih =>
    intro hg
    refine c_unitf s _ (g + 1) _ rfl _ (c_sumsf s hs (g + 1) hg) (fun r y => ?_)
    have er : r = g := by omega
    subst er
    rw [show (6 - ((r + 1 : Nat) : Int)) + 1 = 6 - (r : Int) by omega]
    intro d h I q a b' t
    have k := ih (by omega) d h I q a b' t
    dsimp only at k
    rw [show d + (10 * r + 10) + 65 = d + (10 * (r + 1) + 10) + 55 by omega] at k
    exact k
theorem r_sumf {b : Nat → Int32} {n : Nat} (s : Nat) (hs : s = 1 ∨ s = 2) : Rdf b n s 0 (sms b n (ltb s) 6) (fun d h K => Cv (m_X12_sum (d + 80 + 53) 0 0) [.ref 1] h K) := by
  intro d h I q a b' t
  have k := c_sumsf (b := b) (n := n) s hs 6 (by decide) (d + 10) h I q (by omega) b' t
  dsimp only at k
  rw [show d + 10 + (10 * 6 + 10) + 53 = d + 80 + 53 by omega] at k
  exact k
theorem r_unitf {b : Nat → Int32} {n : Nat} (s : Nat) (hs : s = 1 ∨ s = 2) : Rdf b n s 0 (unt b n (ltb s) 6) (fun d h K => Cv (m_X12_unit (d + 80 + 55) 0 0) [.ref 1] h K) := by
  intro d h I q a b' t
  exact c_unitsf (b := b) (n := n) s hs 6 (by decide) d h I q (by omega) b' t
/-! the reference: clauses and whole texts, by what stands on the tape -/
theorem Ft.wr {b : Nat → Int32} {n : Nat} {R : Bool × Nat} {h h' : Hp_} (F : Ft b n R h) (w : ¬ h_i h 1 34 = -1) (e : h_i h' 1 34 = h_i h 1 34) : Ft b n R h' := Or.inr ⟨by rw [e]; exact w, (F.no w).1, by rw [e]; exact (F.no w).2⟩
theorem c_askf (s d : Nat) {b : Nat → Int32} {n : Nat} {h h7 : Hp_} (I : Iv h) (q : Pq h) (t : Tp b n h) (P : Pe s h h7) {T : Bool × Nat} {g : Rcg} (hg : Cnr b n g) (F : Sf b n T (sqr (exr b n 63) g) h7) : Cv (m_X12_ask (d + 1) 0 0) [.ref 1] h7 (fun h' => Ak s h h' ∧ Sf b n T g h') := by
  have ro := P.room I q
  have z1 : pz h ≤ 160 := (pz_in I).2
  have d0 : 0 ≤ pd h := (dp_in7 I).1
  have a0 : 0 ≤ pa h := (pa_in I).1
  have n0 := sN_i I
  have PP := P
  obtain ⟨p1, p2, p3, p4, p5, p6, p7, p8⟩ := PP
  obtain ⟨q1, q2, q3, q4⟩ := q
  have z7 := zf p2 (by decide +kernel)
  have no : ∀ h5 : Hp_, Iv h5 → Fr [1033, 1034] h7 h5 → pa h5 ≤ 179 → ¬ h_i h5 1 34 = -1 → Ft b n T h5 → Cv (m_X12_say (d + 0) 0 0) [.ref 1, .int 2] (h_im h5 1 33 ((h_i h5 1 33) + 1)) (fun h9 => Wf h9 ∧ Ak s h h9 ∧ Sf b n T g h9) := by
    intro h5 i5 f5 a5 w5 F5
    obtain ⟨k1, k2, k3⟩ := at1 i5 a5
    generalize h_im h5 1 33 ((h_i h5 1 33) + 1) = h6 at k1 k2 k3 ⊢
    have g5 := f36 f5 (by decide +kernel)
    have g6 := f36 k2 (by decide +kernel)
    have e5 := f35 f5 (by decide +kernel)
    have e6 := f35 k2 (by decide +kernel)
    refine Cv.mono (c_say d k1 2 (by show ps h6 ≤ 558; omega)) (fun h9 S => ⟨S.1.1, ?_⟩)
    obtain ⟨s1, s2, s3, s4, s5⟩ := Sa.q (h := h6) (x := 2) (h' := h9) S
    have n6 := sN_i k1
    have e9 : h_i h9 1 34 = h_i h5 1 34 := s2.trans (f34 k2 (by decide +kernel))
    refine ⟨⟨S.1, (p2.tr (f5.more (by decide +kernel))).tr ((k2.more (by decide +kernel)).tr (S.2.1.more (by decide +kernel))), by omega, fun k hk => ?_, by omega, fun w => ?_⟩, fun w => absurd (e9.symm.trans w) w5, fun _ => F5.wr w5 e9⟩
    · rw [S.2.2.2.2 k (by show k ≠ sN h6; omega), fr_i k2 (a := 226) (by decide +kernel), fr_i f5 (a := 226) (by decide +kernel)]
      exact p5 k hk
    · rw [s2, f34 k2 (by decide +kernel)] at w
      exact absurd w w5
  refine t_X12_ask d h7 p1.1 _ ⟨fun w => ?_, fun w => ?_⟩
  · have t' := (p8 w).1
    exact no h7 p1 (Fr.rf _ _) (by omega) w (F.2 w)
  · obtain ⟨t1, t2, t3, _⟩ := p7 w
    refine Ci.mono (c_lookf d p1 (P.tp t)) (fun r h5 LL => ⟨LL.1.1.1, fun er => ?_, fun nr => ?_⟩)
    · have L := LL.1
      have l5 : pa h5 < pz h := by
        rcases L.fwd z7 with u | u
        · rw [er] at u; exact absurd u (by decide)
        · exact u
      have P5 := P.lk I L
      have w5 : h_i h5 1 34 = -1 := by rw [f34 L.2.1 (by decide +kernel)]; exact w
      obtain ⟨c1, c2, c3, c4, c5, c6, c7, _⟩ := P5
      obtain ⟨b1, b2, b3, K, b4, b5⟩ := c7 w5
      obtain ⟨k1, k2, k3⟩ := at1 c1 (by omega)
      have a6 := nxa LL k1 k3
      generalize h_im h5 1 33 ((h_i h5 1 33) + 1) = h6 at k1 k2 k3 a6 ⊢
      have g6 := f36 k2 (by decide +kernel)
      have e6 := f35 k2 (by decide +kernel)
      refine Cv.mono (c_say d k1 2 (by show ps h6 ≤ 558; omega)) (fun h9 S => ⟨S.1.1, ?_⟩)
      obtain ⟨s1, s2, s3, s4, s5⟩ := Sa.q (h := h6) (x := 2) (h' := h9) S
      have n5 := sN_i c1
      have n6 := sN_i k1
      have n9 := sN_i S.1
      have m6 : sN h6 = sN h5 := by omega
      have cc : ∀ k, k < sN h5 → h_i h9 226 k = h_i h5 226 k := fun k hk => by rw [S.2.2.2.2 k (by show k ≠ sN h6; omega), fr_i k2 (a := 226) (by decide +kernel)]
      have w9 : h_i h9 1 34 = -1 := by rw [s2, f34 k2 (by decide +kernel)]; exact w5
      have a9 : ta h9 = ska b n (ta h7) + 1 := by
        show (h_i h9 1 33).toNatClampNeg = _
        rw [(S.2.1.2 1 33 (by decide +kernel)).1]
        exact a6
      have ee : exr b n 63 (ta h7) = (true, ska b n (ska b n (ta h7) + 1)) := by
        unfold exr
        exact if_pos (by rw [← LL.2.2]; exact er)
      have G : Ft b n (exr b n 63 (ta h7)) h9 := by
        rw [ee]
        exact Or.inl ⟨w9, rfl, by rw [a9]⟩
      refine ⟨⟨S.1, (c2.tr (k2.more (by decide +kernel))).tr (S.2.1.more (by decide +kernel)), by omega, fun k hk => ?_, by omega, fun _ => ⟨by omega, by omega, by omega, sN h5, K, by omega, PR.same (fun k _ b => cc k b) b5, ?_, by omega⟩⟩, F.sq w hg G⟩
      · rw [cc k (by omega)]; exact c5 k hk
      · rw [← m6]; exact S.2.2.2.1
    · have L := LL.1
      have w5 : h_i h5 1 34 = -1 := by rw [f34 L.2.1 (by decide +kernel)]; exact w
      refine Cv.mono (c_badf d L.1 w5) (fun h6 k => ⟨k.1.1, ?_⟩)
      obtain ⟨k1, k2, k3, k4⟩ := k
      have e6 := f33 k2 (by decide +kernel)
      have l4 := L.2.2.2.1
      have ee : exr b n 63 (ta h7) = (false, ska b n (ta h7)) := by
        unfold exr
        exact if_neg (by rw [← LL.2.2]; exact nr)
      have G : Ft b n (exr b n 63 (ta h7)) h6 := by
        rw [ee]
        exact Or.inr ⟨k3, rfl, by rw [k4, LL.2.1]⟩
      exact no h6 k1 ((L.2.1.more (by decide +kernel)).tr (k2.more (by decide +kernel))) (by omega) k3 ((F.sq w hg G).2 k3)
theorem cl_restf (s : Nat) (hs : s = 1 ∨ s = 2) (d : Nat) {b : Nat → Int32} {n : Nat} {h h7 : Hp_} (I : Iv h) (q : Pq h) (q0 : ps h ≤ 3 * pa h) (e0 : pd h = 0) (es : h_i h 1 37 = Int32.ofNat s) (t : Tp b n h) (P : Pe s h h7) {T : Bool × Nat} (F : Sf b n T (sqr (exr b n 63) (sms b n (ltb s) 6)) h7) {K : Hp_ → Prop} (up : ∀ h', Pc s h h' → Ft b n T h' → K h') :
    Cv (m_X12_ask (d + 80 + 1) 0 0) [.ref 1] h7 (fun h10 => Wf h10 ∧ ((¬ (h_i h10 1 34) = (-1) → K h10) ∧ ((h_i h10 1 34) = (-1) → Cv (m_X12_sum (d + 80 + 53) 0 0) [.ref 1] h10 (fun h14 => Wf h14 ∧ (Cv (m_X12_say (d + 80 + 0) 0 0) [.ref 1, .int 3] h14 (fun h17 => Wf h17 ∧ (K h17))))))) := by
  have z1 : pz h ≤ 160 := (pz_in I).2
  have n0 := sN_i I
  have a0 : 0 ≤ pa h := (pa_in I).1
  refine Cv.mono (c_askf s (d + 80) I q t P (sms_c 6) F) (fun h10 AA => ?_)
  obtain ⟨A, F10⟩ := AA
  obtain ⟨a1, a2, a3, a4, a6, a5⟩ := A
  refine ⟨a1.1, fun w => up _ ⟨a1, a2, a3, a4, fun y => absurd y w⟩ (F10.2 w), fun w => ?_⟩
  obtain ⟨b1, b2, b3, m, K1, b4, b5, b6, b7⟩ := a5 w
  have z10 := zf a2 (by decide +kernel)
  have s10 : h_i h10 1 37 = Int32.ofNat s := by rw [(a2.2 1 37 (by decide +kernel)).1]; exact es
  have q10 : Pq h10 := ⟨w, by omega, by omega, by omega⟩
  refine Cv.mono (r_sumf s hs d h10 a1 q10 (by omega) s10 (t.fr a2 (by decide +kernel))) (fun h14 QQ => ⟨QQ.1.1.1, ?_⟩)
  obtain ⟨Q, QF⟩ := QQ
  refine Cv.mono (c_say (d + 80) Q.1 3 (Q.room a1 q10)) (fun h17 S => ⟨S.1.1, up _ ?_ ((F10.ft w QF).fr S.2.1 (by decide +kernel))⟩)
  obtain ⟨u1, u2, u3, u4, u5⟩ := Sa.q (h := h14) (x := 3) (h' := h17) S
  obtain ⟨c1, c2, c3, c4, c5, c6, c7, c8⟩ := Q
  have n10 := sN_i a1
  have n14 := sN_i c1
  have n17 := sN_i S.1
  have m17 : sN h17 = sN h14 + 1 := by omega
  have cc : ∀ k, k < sN h14 → h_i h17 226 k = h_i h14 226 k := fun k hk => S.2.2.2.2 k (by show k ≠ sN h14; omega)
  refine ⟨S.1, (a2.tr c2).tr (S.2.1.more (by decide +kernel)), by omega, fun k hk => ?_, fun w17 => ?_⟩
  · rw [cc k (by omega), c5 k (by omega)]; exact a4 k hk
  · rw [u2] at w17
    obtain ⟨t1, t2, t3, K2, t4, t5⟩ := c7 w17
    refine ⟨by omega, by omega, by omega, by omega, m, sN h14, ?_, ?_, ?_, ?_, m17⟩
    · exact PR.ex (PR.same (fun k _ b => by rw [cc k (by omega), c5 k (by omega)]) b5) (by omega)
    · rw [cc m (by omega), c5 m (by omega)]; exact b6
    · rw [← b7]; exact PR.ex (PR.same (fun k _ b => cc k b) t5) (by omega)
    · exact S.2.2.2.1
theorem cl_ansf (s d : Nat) {b : Nat → Int32} {n : Nat} {h h3 h7 : Hp_} {r : Int32} (I : Iv h) (q0 : ps h ≤ 3 * pa h) (A : Ak s h h3) (w : h_i h3 1 34 = -1) (LL : Lkf b n h3 r h7) (l : pa h7 < pz h) {T : Bool × Nat} (F : Sf b n T (onr b n vdb) h3) (vr : vdb r = true) {K : Hp_ → Prop} (up : ∀ h', Pc s h h' → Ft b n T h' → K h') :
    Cv (m_X12_say (d + 0) 0 0) [.ref 1, .int 0] (h_im h7 1 33 ((h_i h7 1 33) + 1)) (fun h71 => Wf h71 ∧ ∀ c : Int32, Cv (m_X12_say (d + 0) 0 0) [.ref 1, .int c] h71 (fun h77 => Wf h77 ∧ (Cv (m_X12_say (d + 0) 0 0) [.ref 1, .int 3] h77 (fun h80 => Wf h80 ∧ (K h80))))) := by
  have z1 : pz h ≤ 160 := (pz_in I).2
  have n0 := sN_i I
  have a0 : 0 ≤ pa h := (pa_in I).1
  have L := LL.1
  obtain ⟨a1, a2, a3, a4, a6, a5⟩ := A
  obtain ⟨b1, b2, b3, m, K1, b4, b5, b6, b7⟩ := a5 w
  have z3 := zf a2 (by decide +kernel)
  obtain ⟨k1, k2, k3⟩ := nx1 a1 L (by omega)
  have l3 := L.2.2.1
  have aa := nxa LL k1 k3
  have w7 : h_i (h_im h7 1 33 ((h_i h7 1 33) + 1)) 1 34 = -1 := by rw [f_ne (by decide), f34 L.2.1 (by decide +kernel)]; exact w
  have ee : onr b n vdb (ta h3) = (true, ska b n (ska b n (ta h3) + 1)) := by
    unfold onr
    exact if_pos (by rw [← LL.2.2]; exact vr)
  have G : Ft b n T (h_im h7 1 33 ((h_i h7 1 33) + 1)) := by
    rw [F.1 w, ee]
    exact Or.inl ⟨w7, rfl, by rw [aa]⟩
  generalize h_im h7 1 33 ((h_i h7 1 33) + 1) = h2 at k1 k2 k3 aa w7 G ⊢
  have g2 := f36 k2 (by decide +kernel)
  have e2 := f35 k2 (by decide +kernel)
  have Y0 : Sy h3 [] h2 := (Sy.rf a1).mv k1 (k2.more (by decide +kernel))
  refine Cv.mono (c_say d k1 0 (by show ps h2 ≤ 558; omega)) (fun h71 S => ⟨S.1.1, fun c => ?_⟩)
  obtain ⟨s1, s2, s3, s4, s5⟩ := Sa.q (h := h2) (x := 0) (h' := h71) S
  refine Cv.mono (c_say d S.1 c (by show ps h71 ≤ 558; omega)) (fun h77 T => ⟨T.1.1, ?_⟩)
  obtain ⟨t1, t2, t3, t4, t5⟩ := Sa.q (h := h71) (x := c) (h' := h77) T
  refine Cv.mono (c_say d T.1 3 (by show ps h77 ≤ 558; omega)) (fun h80 U => ⟨U.1.1, up _ ?_ (((G.fr S.2.1 (by decide +kernel)).fr T.2.1 (by decide +kernel)).fr U.2.1 (by decide +kernel))⟩)
  obtain ⟨u1, u2, u3, u4, u5⟩ := Sa.q (h := h77) (x := 3) (h' := h80) U
  have Y : Sy h3 [0, c, 3] h80 := ((Y0.say a1 S).say a1 T).say a1 U
  obtain ⟨y1, y2, y3, y4, y5⟩ := Y
  have y4' : ps h80 = ps h3 + 3 := y4
  have n3 := sN_i a1
  have n80 := sN_i y1
  have x0 := y5 0 0 rfl
  have x2 := y5 2 3 rfl
  refine ⟨y1, a2.tr y2, by omega, fun k hk => ?_, fun _ => ⟨by omega, by omega, by omega, by omega, m, sN h3 + 2, ?_, ?_, ?_, x2, by omega⟩⟩
  · rw [y3 k (by omega)]; exact a4 k hk
  · exact PR.ex (PR.same (fun k _ b => y3 k (by omega)) b5) (by omega)
  · rw [y3 m (by omega)]; exact b6
  · rw [← b7]; exact PR.ex (PR.num x0) (by decide)
/-- a plain sum: put behind 0 1 2, place and fault as they were -/
theorem cl_shiftf (s d : Nat) {b : Nat → Int32} {nn : Nat} {h h0 : Hp_} (I : Iv h) (q0 : ps h ≤ 3 * pa h) (P : Pe s h h0) (w : h_i h0 1 34 = -1) (x3 : Int32) (e3 : x3 = h_i h 1 36) {T : Bool × Nat} (FT : Ft b nn T h0) {K : Hp_ → Prop} (up : ∀ h', Pc s h h' → Ft b nn T h' → K h') :
    ∀ (n : Nat) (h2 : Hp_) (x4 : Int32), x4.toInt = (sN h : Int) + n - 1 → Iv h2 → Fr [226999] h0 h2 → sN h + n ≤ sN h0 → (∀ j, j < sN h + n → h_i h2 226 j = h_i h0 226 j) → (∀ j, sN h + n ≤ j → j < sN h0 → h_i h2 226 (j + 3) = h_i h0 226 j) →
    AW (m_X12_clause (d + 58) 0 0) 0 0 179 [(0, .ref 1), (3, .int x3), (4, .int x4)] [] h2 (kV K) := by
  have z1 : pz h ≤ 160 := (pz_in I).2
  have n0 := sN_i I
  have a0 : 0 ≤ pa h := (pa_in I).1
  obtain ⟨p1, p2, p3, p4, p5, p6, p7, p8⟩ := P
  obtain ⟨t1, t2, t3, K1, t4, t5⟩ := p7 w
  have nh0 := sN_i p1
  have i3 : x3.toInt = (sN h : Int) := by rw [e3]; exact n0.symm
  have j3 : x3.toNatClampNeg = sN h := by rw [e3]
  have o1 : (1 : Int32).toInt = 1 := rfl
  have o2 : (2 : Int32).toInt = 2 := rfl
  have o3 : (3 : Int32).toInt = 3 := rfl
  have om : (-1 : Int32).toInt = -1 := rfl
  intro n
  induction n with
  | zero =>
    intro h2 x4 e4 I2 F2 l2 c1 c2
    have e1' : (x3 + 1).toInt = x3.toInt + 1 := by rw [tx_add (by rw [o1]; omega) (by rw [o1]; omega), o1]
    have e2' : (x3 + 2).toInt = x3.toInt + 2 := by rw [tx_add (by rw [o2]; omega) (by rw [o2]; omega), o2]
    have k1 : (x3 + 1).toNatClampNeg = sN h + 1 := by have := n_nat (x := x3 + 1) (by omega); omega
    have k2 : (x3 + 2).toNatClampNeg = sN h + 2 := by have := n_nat (x := x3 + 2) (by omega); omega
    refine t_X12_clause_179 d h2 I2.1 x3 x4 _ ⟨fun _ => ⟨dp_in (lo := 0) (hi := 559) ⟨by show (0 : Int) ≤ _; omega, by show _ ≤ (559 : Int); omega⟩ (by decide) (by decide), dp_in (lo := 0) (hi := 559) ⟨by show (0 : Int) ≤ _; omega, by show _ ≤ (559 : Int); omega⟩ (by decide) (by decide), dp_in (lo := 0) (hi := 559) ⟨by show (0 : Int) ≤ _; omega, by show _ ≤ (559 : Int); omega⟩ (by decide) (by decide), ?_⟩, fun z => absurd (q_lt.mpr (by omega)) z⟩
    rw [j3, k1, k2]
    have g2 : ps h2 = ps h0 := f36 F2 (by decide +kernel)
    have es : (h_i h2 1 36 + 3).toInt = ps h2 + 3 := by
      have g : (h_i h2 1 36).toInt = ps h0 := g2
      show _ = (h_i h2 1 36).toInt + 3
      rw [tx_add (by rw [o3]; omega) (by rw [o3]; omega), o3]
    have I3 : Iv (h_im (h_im (h_im (h_im h2 226 (sN h) 0) 226 (sN h + 1) 1) 226 (sN h + 2) 2) 1 36 ((h_i h2 1 36) + 3)) := i36 (i226 (i226 (i226 I2 _ _) _ _) _ _) ⟨by rw [es]; show (0 : Int) ≤ _; omega, by rw [es]; show _ ≤ (559 : Int); omega⟩
    have F3 : Fr wzp h0 (h_im (h_im (h_im (h_im h2 226 (sN h) 0) 226 (sN h + 1) 1) 226 (sN h + 2) 2) 1 36 ((h_i h2 1 36) + 3)) := ((((F2.more (by decide +kernel)).im (inw_row (by decide +kernel) _)).im (inw_row (by decide +kernel) _)).im (inw_row (by decide +kernel) _)).im (by decide +kernel)
    have s3 : ps (h_im (h_im (h_im (h_im h2 226 (sN h) 0) 226 (sN h + 1) 1) 226 (sN h + 2) 2) 1 36 ((h_i h2 1 36) + 3)) = ps h2 + 3 := by
      show (h_i (h_im _ 1 36 _) 1 36).toInt = _
      rw [im_at]; exact es
    have c3 : ∀ k, h_i (h_im (h_im (h_im (h_im h2 226 (sN h) 0) 226 (sN h + 1) 1) 226 (sN h + 2) 2) 1 36 ((h_i h2 1 36) + 3)) 226 k = if k = sN h + 2 then 2 else if k = sN h + 1 then 1 else if k = sN h then 0 else h_i h2 226 k := by
      intro k
      rw [im_ne (by decide), h_i_im, h_i_im, h_i_im]
      by_cases y2 : k = sN h + 2
      · rw [if_pos ⟨rfl, y2⟩, if_pos y2]
      · rw [if_neg (fun z => y2 z.2), if_neg y2]
        by_cases y1 : k = sN h + 1
        · rw [if_pos ⟨rfl, y1⟩, if_pos y1]
        · rw [if_neg (fun z => y1 z.2), if_neg y1]
          by_cases y0 : k = sN h
          · rw [if_pos ⟨rfl, y0⟩, if_pos y0]
          · rw [if_neg (fun z => y0 z.2), if_neg y0]
    have a3 : pa (h_im (h_im (h_im (h_im h2 226 (sN h) 0) 226 (sN h + 1) 1) 226 (sN h + 2) 2) 1 36 ((h_i h2 1 36) + 3)) = pa h0 := by
      show (h_i (h_im _ 1 36 _) 1 33).toInt = _
      rw [f_ne (by decide), im_ne (by decide), im_ne (by decide), im_ne (by decide)]
      exact f33 F2 (by decide +kernel)
    have d3 : pd (h_im (h_im (h_im (h_im h2 226 (sN h) 0) 226 (sN h + 1) 1) 226 (sN h + 2) 2) 1 36 ((h_i h2 1 36) + 3)) = pd h0 := by
      show (h_i (h_im _ 1 36 _) 1 35).toInt = _
      rw [f_ne (by decide), im_ne (by decide), im_ne (by decide), im_ne (by decide)]
      exact f35 F2 (by decide +kernel)
    have G3 : Ft b nn T (h_im (h_im (h_im (h_im h2 226 (sN h) 0) 226 (sN h + 1) 1) 226 (sN h + 2) 2) 1 36 ((h_i h2 1 36) + 3)) := (FT.fr F2 (by decide +kernel)).mv (by rw [f_ne (by decide), im_ne (by decide), im_ne (by decide), im_ne (by decide)]) (by rw [f_ne (by decide), im_ne (by decide), im_ne (by decide), im_ne (by decide)])
    generalize h_im (h_im (h_im (h_im h2 226 (sN h) 0) 226 (sN h + 1) 1) 226 (sN h + 2) 2) 1 36 ((h_i h2 1 36) + 3) = h3 at I3 F3 s3 c3 a3 d3 G3 ⊢
    refine Cv.mono (c_say d I3 3 (by show ps h3 ≤ 558; omega)) (fun h9 S => ⟨S.1.1, up _ ?_ (G3.fr S.2.1 (by decide +kernel))⟩)
    obtain ⟨u1, u2, u3, u4, u5⟩ := Sa.q (h := h3) (x := 3) (h' := h9) S
    have nh3 := sN_i I3
    have nh9 := sN_i S.1
    have m3 : sN h3 = sN h0 + 3 := by omega
    have cc : ∀ k, k < sN h0 + 3 → h_i h9 226 k = if k = sN h + 2 then 2 else if k = sN h + 1 then 1 else if k = sN h then 0 else h_i h2 226 k := fun k hk => by rw [S.2.2.2.2 k (by show k ≠ sN h3; omega)]; exact c3 k
    refine ⟨S.1, (p2.tr F3).tr (S.2.1.more (by decide +kernel)), by omega, fun k hk => ?_, fun _ => ⟨by omega, by omega, by omega, by omega, sN h + 2, sN h0 + 3, ?_, ?_, ?_, ?_, by omega⟩⟩
    · rw [cc k (by omega), if_neg (by omega), if_neg (by omega), if_neg (by omega), c1 k (by omega)]
      exact p5 k hk
    · exact PR.ex (PR.num (by rw [cc _ (by omega), if_neg (by omega), if_neg (by omega), if_pos rfl])) (by decide)
    · rw [cc _ (by omega), if_pos rfl]
    · refine PR.ex (k := K1) ?_ (by omega)
      rw [show sN h + 2 + 1 = sN h + 3 by omega]
      refine PR.sh (t := 3) (fun x a b => ?_) t5
      rw [cc _ (by omega), if_neg (by omega), if_neg (by omega), if_neg (by omega)]
      exact c2 x (by omega) b
    · rw [← m3]; exact S.2.2.2.1
  | succ n ih =>
    intro h2 x4 e4 I2 F2 l2 c1 c2
    have j4 : x4.toNatClampNeg = sN h + n := by have := n_nat (x := x4) (by omega); omega
    have e3' : (x4 + 3).toInt = x4.toInt + 3 := by rw [tx_add (by rw [o3]; omega) (by rw [o3]; omega), o3]
    have k3 : (x4 + 3).toNatClampNeg = sN h + n + 3 := by have := n_nat (x := x4 + 3) (by omega); omega
    refine t_X12_clause_179 d h2 I2.1 x3 x4 _ ⟨fun z => absurd (q_lt.mp z) (by omega), fun _ => ⟨dp_in (lo := 0) (hi := 559) ⟨by show (0 : Int) ≤ _; omega, by show _ ≤ (559 : Int); omega⟩ (by decide) (by decide), dp_in (lo := 0) (hi := 559) ⟨by show (0 : Int) ≤ _; omega, by show _ ≤ (559 : Int); omega⟩ (by decide) (by decide), ?_⟩⟩
    rw [j4, k3]
    have em : (x4 + (-1)).toInt = x4.toInt - 1 := by rw [tx_add (by rw [om]; omega) (by rw [om]; omega), om]; omega
    generalize x4 + (-1) = y at em ⊢
    refine ih _ y (by omega) (i226 I2 _ _) (F2.im (inw_row (by decide +kernel) _)) (by omega) (fun j hj => ?_) (fun j a b => ?_)
    · rw [h_i_im, if_neg (fun u => by have := u.2; omega)]; exact c1 j (by omega)
    · rw [h_i_im]
      by_cases y0 : j = sN h + n
      · rw [if_pos ⟨rfl, by omega⟩, y0]; exact c1 _ (by omega)
      · rw [if_neg (fun u => by have := u.2; omega)]; exact c2 j (by omega) b
def clq (b : Nat → Int32) (n s : Nat) : Rcg := if s = 1 then acl b n else pcl_ b n
theorem clq_c {b : Nat → Int32} {n : Nat} (s : Nat) : Cnr b n (clq b n s) := by
  unfold clq
  split
  · exact acl_c
  · exact pcl_c
theorem clq_f {b : Nat → Int32} {n : Nat} (s : Nat) : Fwd b n (clq b n s) := by
  unfold clq
  split
  · exact acl_f
  · exact pcl_f
theorem c_clausef (s : Nat) (hs : s = 1 ∨ s = 2) (d : Nat) {b : Nat → Int32} {n : Nat} {h : Hp_} (I : Iv h) (q : Pq h) (q0 : ps h ≤ 3 * pa h) (e0 : pd h = 0) (es : h_i h 1 37 = Int32.ofNat s) (t : Tp b n h) : Cv (m_X12_clause (d + 80 + 58) 0 0) [.ref 1] h (fun h' => Pc s h h' ∧ Ft b n (clq b n s (ta h)) h') := by
  have z1 : pz h ≤ 160 := (pz_in I).2
  refine t_X12_clause (d + 80) h I.1 _ (Ci.mono (c_lookf (d + 80) I t) (fun r h1 LL => ?_))
  have L := LL.1
  have l3 := L.2.2.1
  have l4 := L.2.2.2.1
  have zz := zf L.2.1 (by decide +kernel)
  have g1 := f36 L.2.1 (by decide +kernel)
  have d1 := f35 L.2.1 (by decide +kernel)
  have n0 := sN_i I
  have n1 := sN_i L.1
  have m1 : sN h1 = sN h := by omega
  have s1 : h_i h1 1 37 = Int32.ofNat s := by rw [(L.2.1.2 1 37 (by decide +kernel)).1]; exact es
  have q1 : Pq h1 := ⟨by rw [f34 L.2.1 (by decide +kernel)]; exact q.1, by have := q.2.1; omega, by omega, by omega⟩
  have q01 : ps h1 ≤ 3 * pa h1 := by omega
  have t1 : Tp b n h1 := LL.t t
  have ta1 : clq b n s (ta h) = clq b n s (ta h1) := by rw [LL.2.1, clq_c s]
  have er1 : r = skv b n (ta h1) := by rw [LL.2.1, skv_i]; exact LL.2.2
  have up : ∀ h', Pc s h1 h' → Ft b n (clq b n s (ta h1)) h' → Pc s h h' ∧ Ft b n (clq b n s (ta h)) h' := by
    intro h' P G
    obtain ⟨p1, p2, p3, p4, p5⟩ := P
    refine ⟨⟨p1, (L.2.1.more (by decide +kernel)).tr p2, by omega, fun k hk => ?_, fun w => ?_⟩, by rw [ta1]; exact G⟩
    · rw [p4 k (by omega)]; exact fr_i L.2.1 (by decide +kernel) k
    · obtain ⟨t1, t2, t3, t4, t5⟩ := p5 w
      exact ⟨by omega, by omega, by omega, by omega, by rw [← m1]; exact t5⟩
  have cond : Cv (m_X12_condition (d + 80 + 57) 0 0) [.ref 1, .int 0] h1 (fun h7 => Pe s h1 h7 ∧ Ft b n (cnd b n (unt b n (ltb s) 6) (ta h1)) h7) := c_cond0f s 80 0 _ (r_unitf s hs) d h1 L.1 q1 (by omega) s1 t1
  have s2 : ¬ h_i h1 1 37 = 1 → s = 2 := fun y => by
    rcases hs with u | u
    · subst u
      exact absurd s1 y
    · exact u
  have pay : ¬ h_i h1 1 37 = 1 → (r = 33 ∨ r = 40) → Cv (m_X12_condition (d + 80 + 57) 0 0) [.ref 1, .int 0] h1 (fun h7 => Wf h7 ∧ (Cv (m_X12_ask (d + 80 + 1) 0 0) [.ref 1] h7 (fun h10 => Wf h10 ∧ ((¬ (h_i h10 1 34) = (-1) → Pc s h h10 ∧ Ft b n (clq b n s (ta h)) h10) ∧ ((h_i h10 1 34) = (-1) → Cv (m_X12_sum (d + 80 + 53) 0 0) [.ref 1] h10 (fun h14 => Wf h14 ∧ (Cv (m_X12_say (d + 80 + 0) 0 0) [.ref 1, .int 3] h14 (fun h17 => Wf h17 ∧ (Pc s h h17 ∧ Ft b n (clq b n s (ta h)) h17))))))))) := fun ns c => by
    have e2 := s2 ns
    subst e2
    have ec : clq b n 2 (ta h1) = sqr (cnd b n (unt b n ltp 6)) (pan b n) (ta h1) := by
      show pcl_ b n (ta h1) = _
      unfold pcl_
      exact if_pos (by rw [← er1]; exact c)
    refine Cv.mono cond (fun h7 P => ⟨P.1.1.1, cl_restf 2 hs d L.1 q1 q01 (by omega) s1 t1 P.1 (T := clq b n 2 (ta h1)) ?_ up⟩)
    rw [ec]
    exact sqf (f := cnd b n (unt b n ltp 6)) (sqr_c exr_c) P.2
  refine ⟨L.1.1, fun ns => ⟨fun e33 => pay ns (Or.inl e33), fun n33 => ⟨fun e40 => pay ns (Or.inr e40), fun n40 => ?_⟩⟩, fun ys => ?_⟩
  · have e2 := s2 ns
    subst e2
    have ec : clq b n 2 (ta h1) = sqr (sms b n ltp 6) (fun p => if sgb (skv b n p) = true then sqr (cmq b n (sms b n ltp 6)) (sqr (mpt b n (unt b n ltp 6)) (pan b n)) p else (true, p)) (ta h1) := by
      show pcl_ b n (ta h1) = _
      unfold pcl_
      exact if_neg (by rw [← er1]; exact fun y => y.elim n33 n40)
    refine Cv.mono (r_sumf 2 hs d h1 L.1 q1 (by omega) s1 t1) (fun h6 PP => ⟨PP.1.1.1, fun w => ?_, fun w => ?_⟩)
    · obtain ⟨P, PF⟩ := PP
      have k6 := PF.ok w
      have T6 : clq b n 2 (ta h1) = if sgb (skv b n (ta h6)) = true then sqr (cmq b n (sms b n ltp 6)) (sqr (mpt b n (unt b n ltp 6)) (pan b n)) (ta h6) else (true, ska b n (ta h6)) := by
        rw [ec]
        have k1 : (sms b n ltp 6 (ta h1)).1 = true := k6.1
        have k2 : ska b n (ta h6) = (sms b n ltp 6 (ta h1)).2 := k6.2
        unfold sqr
        rw [if_pos k1, ← k2]
        show (if sgb (skv b n (ska b n (ta h6))) = true then sqr (cmq b n (sms b n ltp 6)) (sqr (mpt b n (unt b n ltp 6)) (pan b n)) (ska b n (ta h6)) else (true, ska b n (ta h6))) = _
        rw [skv_i, sqr_c cmq_c (ta h6)]
        rfl
      refine Ci.mono (c_lookf (d + 80) P.1 (P.tp t1)) (fun r2 h4 LL4 => ⟨LL4.1.1.1, ?_⟩)
      have L4 := LL4.1
      have P4 := P.lk L.1 L4
      have w4 : h_i h4 1 34 = -1 := by rw [f34 L4.2.1 (by decide +kernel)]; exact w
      refine Ci.mono (c_isSignf (d + 80) h4 r2) (fun r5 h5 k => ?_)
      obtain ⟨e5, k⟩ := k
      subst e5
      refine ⟨L4.1.1, fun n5 => ?_, fun y5 => ?_⟩
      · have sg : sgb (skv b n (ta h6)) = true := by
          rcases k with k | k
          · rw [← LL4.2.2]
            exact k.2.1
          · exact absurd k.1 n5
        rw [if_pos sg] at T6
        refine Cv.mono (c_cond1f 2 80 0 _ _ (r_unitf 2 hs) (r_sumf 2 hs) d L.1 q1 (by omega) s1 t1 P4 w4) (fun h7 P7 => ⟨P7.1.1.1, cl_restf 2 hs d L.1 q1 q01 (by omega) s1 t1 P7.1 (T := clq b n 2 (ta h1)) ?_ up⟩)
        have e7 : clq b n 2 (ta h1) = sqr (sqr (cmq b n (sms b n ltp 6)) (mpt b n (unt b n ltp 6))) (pan b n) (ta h5) := by
          rw [T6, sqr_a, LL4.2.1, sqr_c cmq_c (ta h6)]
        rw [e7]
        exact sqf (f := sqr (cmq b n (sms b n ltp 6)) (mpt b n (unt b n ltp 6))) (sqr_c exr_c) P7.2
      · have sg : ¬ sgb (skv b n (ta h6)) = true := by
          rcases k with k | k
          · rw [y5] at k
            exact absurd k.1 (by decide)
          · rw [← LL4.2.2, k.2]
            decide
        rw [if_neg sg] at T6
        have FT : Ft b n (clq b n 2 (ta h1)) h5 := by
          rw [T6]
          exact Or.inl ⟨w4, rfl, by rw [LL4.i, LL4.2.1]⟩
        have n5 := sN_i P4.1
        have o1 : (1 : Int32).toInt = 1 := rfl
        have a0 : 0 ≤ pa h1 := (pa_in L.1).1
        obtain ⟨t1', t2, t3, _⟩ := P4.2.2.2.2.2.2.1 w4
        have p6 := P4.2.2.2.2.2.1
        have t3' : (h_i h5 1 36).toInt ≤ ps h1 + 2 * (pa h5 - pa h1) := t3
        have p6' : ps h1 ≤ (h_i h5 1 36).toInt := p6
        have n1' : 0 ≤ ps h1 := (ps_in L.1).1
        have ex : (h_i h5 1 36 - 1).toInt = (h_i h5 1 36).toInt - 1 := by rw [tx_sub (by rw [o1]; omega) (by rw [o1]; omega), o1]
        have ex' : (h_i h5 1 36 - 1).toInt = ps h5 - 1 := ex
        refine cl_shiftf 2 (d + 80) L.1 q01 P4 w4 _ rfl FT up (sN h5 - sN h1) h5 _ (by omega) P4.1 (Fr.rf _ _) (by omega) (fun _ _ => rfl) (fun j a b => absurd a (by omega))
    · refine up _ (PP.1.wr w) ?_
      have k := PP.2.no w
      have k1 : (sms b n ltp 6 (ta h1)).1 = false := k.1
      rw [ec]
      have e : sqr (sms b n ltp 6) (fun p => if sgb (skv b n p) = true then sqr (cmq b n (sms b n ltp 6)) (sqr (mpt b n (unt b n ltp 6)) (pan b n)) p else (true, p)) (ta h1) = sms b n ltp 6 (ta h1) := by
        show (if (sms b n ltp 6 (ta h1)).1 = true then _ else sms b n ltp 6 (ta h1)) = _
        exact if_neg (by rw [k1]; decide)
      rw [e]
      exact PP.2
  · have e1 : s = 1 := by
      rcases hs with u | u
      · exact u
      · subst u
        rw [s1] at ys
        exact absurd ys (by decide)
    subst e1
    refine Cv.mono cond (fun h7 P => ⟨P.1.1.1, ?_⟩)
    have F7 : Sf b n (clq b n 1 (ta h1)) (sqr (exr b n 63) (onr b n vdb)) h7 := sqf (f := cnd b n (unt b n lta 6)) (sqr_c exr_c) P.2
    refine Cv.mono (c_askf 1 (d + 80) L.1 q1 t1 P.1 onr_c F7) (fun h3 AA => ?_)
    obtain ⟨A, F3⟩ := AA
    refine ⟨A.1.1, fun w => ?_, fun w => up _ ⟨A.1, A.2.1, A.2.2.1, A.2.2.2.1, fun y => absurd y w⟩ (F3.2 w)⟩
    refine Ci.mono (c_lookf (d + 80) A.1 (t1.fr A.2.1 (by decide +kernel))) (fun r2 h4 LL4 => ?_)
    have L4 := LL4.1
    have z3 := zf A.2.1 (by decide +kernel)
    have fw : ∀ c : Int32, r2 = c → ¬ c = -1 → pa h4 < pz h1 := fun c ec nc => by
      rcases L4.fwd z3 with u | u
      · exact absurd (ec.symm.trans u) nc
      · exact u
    have four : pa h4 < pz h1 → vdb r2 = true → Cv (m_X12_say (d + 80 + 0) 0 0) [.ref 1, .int 0] (h_im h4 1 33 ((h_i h4 1 33) + 1)) (fun h71 => Wf h71 ∧ ((¬ r2 = 120 → (¬ r2 = 110 → (¬ r2 = 114 → Cv (m_X12_say (d + 80 + 0) 0 0) [.ref 1, .int 3] h71 (fun h77 => Wf h77 ∧ (Cv (m_X12_say (d + 80 + 0) 0 0) [.ref 1, .int 3] h77 (fun h80 => Wf h80 ∧ (Pc 1 h h80 ∧ Ft b n (clq b n 1 (ta h)) h80))))) ∧ (r2 = 114 → Cv (m_X12_say (d + 80 + 0) 0 0) [.ref 1, .int 2] h71 (fun h77 => Wf h77 ∧ (Cv (m_X12_say (d + 80 + 0) 0 0) [.ref 1, .int 3] h77 (fun h80 => Wf h80 ∧ (Pc 1 h h80 ∧ Ft b n (clq b n 1 (ta h)) h80)))))) ∧ (r2 = 110 → Cv (m_X12_say (d + 80 + 0) 0 0) [.ref 1, .int 1] h71 (fun h77 => Wf h77 ∧ (Cv (m_X12_say (d + 80 + 0) 0 0) [.ref 1, .int 3] h77 (fun h80 => Wf h80 ∧ (Pc 1 h h80 ∧ Ft b n (clq b n 1 (ta h)) h80)))))) ∧ (r2 = 120 → Cv (m_X12_say (d + 80 + 0) 0 0) [.ref 1, .int 0] h71 (fun h77 => Wf h77 ∧ (Cv (m_X12_say (d + 80 + 0) 0 0) [.ref 1, .int 3] h77 (fun h80 => Wf h80 ∧ (Pc 1 h h80 ∧ Ft b n (clq b n 1 (ta h)) h80))))))) := fun l v => Cv.mono (cl_ansf 1 (d + 80) L.1 q01 A w LL4 l F3 v up) (fun h71 k => ⟨k.1, fun _ => ⟨fun _ => ⟨fun _ => k.2 3, fun _ => k.2 2⟩, fun _ => k.2 1⟩, fun _ => k.2 0⟩)
    have w4 : h_i h4 1 34 = -1 := by rw [f34 L4.2.1 (by decide +kernel)]; exact w
    refine ⟨L4.1.1, fun e => four (fw _ e (by decide)) (by rw [e]; decide), fun n1 => ⟨fun e => four (fw _ e (by decide)) (by rw [e]; decide), fun n2 => ⟨fun e => four (fw _ e (by decide)) (by rw [e]; decide), fun n3 => ⟨fun e => four (fw _ e (by decide)) (by rw [e]; decide), fun n4 => Cv.mono (c_badf (d + 80) L4.1 w4) (fun h9 b9 => ⟨b9.1.1, up _ ⟨b9.1, (A.2.1.tr (L4.2.1.more (by decide +kernel))).tr (b9.2.1.more (by decide +kernel)), ?_, ?_, fun y => absurd y b9.2.2.1⟩ ?_⟩)⟩⟩⟩⟩
    · have b5 := f35 b9.2.1 (by decide +kernel)
      have l5 := f35 L4.2.1 (by decide +kernel)
      have a5 := A.2.2.1
      omega
    · intro k hk
      rw [fr_i b9.2.1 (a := 226) (by decide +kernel), fr_i L4.2.1 (a := 226) (by decide +kernel)]
      exact A.2.2.2.1 k hk
    · rw [F3.1 w]
      have ee : onr b n vdb (ta h3) = (false, ska b n (ta h3)) := by
        unfold onr
        exact if_neg (by rw [← LL4.2.2]; exact fun y => (of_decide_eq_true y).elim n1 (fun y => y.elim n2 (fun y => y.elim n3 n4)))
      rw [ee]
      exact Or.inr ⟨b9.2.2.1, rfl, by rw [b9.2.2.2, LL4.2.1]⟩
