section
/-! clauses -/
theorem at1 {h : Hp_} (I : Iv h) (a : pa h ≤ 179) : Iv (h_im h 1 33 ((h_i h 1 33) + 1)) ∧ Fr [1033] h (h_im h 1 33 ((h_i h 1 33) + 1)) ∧ pa (h_im h 1 33 ((h_i h 1 33) + 1)) = pa h + 1 := by
  have a0 : 0 ≤ (h_i h 1 33).toInt := (pa_in I).1
  have a1 : (h_i h 1 33).toInt ≤ 179 := a
  have o1 : (1 : Int32).toInt = 1 := rfl
  have e33 : (h_i h 1 33 + 1).toInt = (h_i h 1 33).toInt + 1 := by rw [tx_add (by rw [o1]; omega) (by rw [o1]; omega), o1]
  refine ⟨i33 I ⟨by rw [e33]; show (0 : Int) ≤ _; omega, by rw [e33]; show _ ≤ (180 : Int); omega⟩, (Fr.rf _ _).im (by decide +kernel), ?_⟩
  show (h_i (h_im h 1 33 _) 1 33).toInt = _
  rw [im_at]; exact e33
def Ak (s : Nat) (h h' : Hp_) : Prop := Iv h' ∧ Fr wzp h h' ∧ pd h' = pd h ∧ (∀ k, k < sN h → h_i h' 226 k = h_i h 226 k) ∧ ps h ≤ ps h' ∧ (h_i h' 1 34 = -1 → pa h' ≤ pz h ∧ pa h + 2 ≤ pa h' ∧ ps h' ≤ ps h + 2 * (pa h' - pa h) - 1 ∧ ∃ m K : Nat, K ≤ 160 ∧ PR s (h_i h' 226) (sN h) m K ∧ h_i h' 226 m = 2 ∧ sN h' = m + 1)
theorem c_ask (s d : Nat) {h h7 : Hp_} (I : Iv h) (q : Pq h) (P : Pe s h h7) : Cv (m_X12_ask (d + 1) 0 0) [.ref 1] h7 (fun h' => Ak s h h') := by
  have ro := P.room I q
  have z1 : pz h ≤ 160 := (pz_in I).2
  have d0 : 0 ≤ pd h := (dp_in7 I).1
  have a0 : 0 ≤ pa h := (pa_in I).1
  have n0 := sN_i I
  have PP := P
  obtain ⟨p1, p2, p3, p4, p5, p6, p7, p8⟩ := PP
  obtain ⟨q1, q2, q3, q4⟩ := q
  have z7 := zf p2 (by decide +kernel)
  have no : ∀ h5 : Hp_, Iv h5 → Fr [1033, 1034] h7 h5 → pa h5 ≤ 179 → ¬ h_i h5 1 34 = -1 → Cv (m_X12_say (d + 0) 0 0) [.ref 1, .int 2] (h_im h5 1 33 ((h_i h5 1 33) + 1)) (fun h9 => Wf h9 ∧ Ak s h h9) := by
    intro h5 i5 f5 a5 w5
    obtain ⟨k1, k2, k3⟩ := at1 i5 a5
    generalize h_im h5 1 33 ((h_i h5 1 33) + 1) = h6 at k1 k2 k3 ⊢
    have g5 := f36 f5 (by decide +kernel)
    have g6 := f36 k2 (by decide +kernel)
    have e5 := f35 f5 (by decide +kernel)
    have e6 := f35 k2 (by decide +kernel)
    refine Cv.mono (c_say d k1 2 (by show ps h6 ≤ 558; omega)) (fun h9 S => ⟨S.1.1, ?_⟩)
    obtain ⟨s1, s2, s3, s4, s5⟩ := Sa.q (h := h6) (x := 2) (h' := h9) S
    have n6 := sN_i k1
    refine ⟨S.1, (p2.tr (f5.more (by decide +kernel))).tr ((k2.more (by decide +kernel)).tr (S.2.1.more (by decide +kernel))), by omega, fun k hk => ?_, by omega, fun w => ?_⟩
    · rw [S.2.2.2.2 k (by show k ≠ sN h6; omega), fr_i k2 (a := 226) (by decide +kernel), fr_i f5 (a := 226) (by decide +kernel)]
      exact p5 k hk
    · rw [s2, f34 k2 (by decide +kernel)] at w
      exact absurd w w5
  refine t_X12_ask d h7 p1.1 _ ⟨fun w => ?_, fun w => ?_⟩
  · have t := (p8 w).1
    exact no h7 p1 (Fr.rf _ _) (by omega) w
  · obtain ⟨t1, t2, t3, _⟩ := p7 w
    refine Ci.mono (c_look d p1) (fun r h5 L => ⟨L.1.1, fun er => ?_, fun _ => ?_⟩)
    · have l5 : pa h5 < pz h := by
        rcases L.fwd z7 with u | u
        · rw [er] at u; exact absurd u (by decide)
        · exact u
      have P5 := P.lk I L
      have w5 : h_i h5 1 34 = -1 := by rw [f34 L.2.1 (by decide +kernel)]; exact w
      obtain ⟨c1, c2, c3, c4, c5, c6, c7, _⟩ := P5
      obtain ⟨b1, b2, b3, K, b4, b5⟩ := c7 w5
      obtain ⟨k1, k2, k3⟩ := at1 c1 (by omega)
      generalize h_im h5 1 33 ((h_i h5 1 33) + 1) = h6 at k1 k2 k3 ⊢
      have g6 := f36 k2 (by decide +kernel)
      have e6 := f35 k2 (by decide +kernel)
      refine Cv.mono (c_say d k1 2 (by show ps h6 ≤ 558; omega)) (fun h9 S => ⟨S.1.1, ?_⟩)
      obtain ⟨s1, s2, s3, s4, s5⟩ := Sa.q (h := h6) (x := 2) (h' := h9) S
      have n5 := sN_i c1
      have n6 := sN_i k1
      have n9 := sN_i S.1
      have m6 : sN h6 = sN h5 := by omega
      have cc : ∀ k, k < sN h5 → h_i h9 226 k = h_i h5 226 k := fun k hk => by rw [S.2.2.2.2 k (by show k ≠ sN h6; omega), fr_i k2 (a := 226) (by decide +kernel)]
      refine ⟨S.1, (c2.tr (k2.more (by decide +kernel))).tr (S.2.1.more (by decide +kernel)), by omega, fun k hk => ?_, by omega, fun _ => ⟨by omega, by omega, by omega, sN h5, K, by omega, PR.same (fun k _ b => cc k b) b5, ?_, by omega⟩⟩
      · rw [cc k (by omega)]; exact c5 k hk
      · rw [← m6]; exact S.2.2.2.1
    · refine Cv.mono (c_bad d L.1) (fun h6 k => ⟨k.1.1, ?_⟩)
      obtain ⟨k1, k2, k3⟩ := k
      have e6 := f33 k2 (by decide +kernel)
      have l4 := L.2.2.2.1
      exact no h6 k1 ((L.2.1.more (by decide +kernel)).tr (k2.more (by decide +kernel))) (by omega) k3
def Ck (s : Nat) (cd : Nat → Int32) (i j : Nat) : Prop := ∃ m n, (∃ g, prun s cd g i 0 m 1) ∧ cd m = 2 ∧ (∃ g, prun s cd g (m + 1) 0 n 1) ∧ cd n = 3 ∧ j = n + 1
def Pc (s : Nat) (h h' : Hp_) : Prop := Iv h' ∧ Fr wzp h h' ∧ pd h' = pd h ∧ (∀ k, k < sN h → h_i h' 226 k = h_i h 226 k) ∧ (h_i h' 1 34 = -1 → pa h' ≤ pz h ∧ pa h < pa h' ∧ ps h ≤ ps h' ∧ ps h' ≤ ps h + 2 * (pa h' - pa h) + 4 ∧ Ck s (h_i h' 226) (sN h) (sN h'))
theorem r_sum8 (s : Nat) (hs : s = 1 ∨ s = 2) : Rd s 0 (fun d h K => Cv (m_X12_sum (d + 80 + 53) 0 0) [.ref 1] h K) := by
  intro d h I q a b
  have t := r_sum s hs d h I q a b
  dsimp only at t
  rw [show d + 133 = d + 80 + 53 by omega] at t
  exact t
/-- the rest of a clause behind its condition: ?, a sum -/
theorem cl_rest (s : Nat) (hs : s = 1 ∨ s = 2) (d : Nat) {h h7 : Hp_} (I : Iv h) (q : Pq h) (q0 : ps h ≤ 3 * pa h) (e0 : pd h = 0) (es : h_i h 1 37 = Int32.ofNat s) (P : Pe s h h7) {K : Hp_ → Prop} (up : ∀ h', Pc s h h' → K h') :
    Cv (m_X12_ask (d + 80 + 1) 0 0) [.ref 1] h7 (fun h10 => Wf h10 ∧ ((¬ (h_i h10 1 34) = (-1) → K h10) ∧ ((h_i h10 1 34) = (-1) → Cv (m_X12_sum (d + 80 + 53) 0 0) [.ref 1] h10 (fun h14 => Wf h14 ∧ (Cv (m_X12_say (d + 80 + 0) 0 0) [.ref 1, .int 3] h14 (fun h17 => Wf h17 ∧ (K h17))))))) := by
  have z1 : pz h ≤ 160 := (pz_in I).2
  have n0 := sN_i I
  have a0 : 0 ≤ pa h := (pa_in I).1
  refine Cv.mono (c_ask s (d + 80) I q P) (fun h10 A => ?_)
  obtain ⟨a1, a2, a3, a4, a6, a5⟩ := A
  refine ⟨a1.1, fun w => up _ ⟨a1, a2, a3, a4, fun y => absurd y w⟩, fun w => ?_⟩
  obtain ⟨b1, b2, b3, m, K1, b4, b5, b6, b7⟩ := a5 w
  have z10 := zf a2 (by decide +kernel)
  have s10 : h_i h10 1 37 = Int32.ofNat s := by rw [(a2.2 1 37 (by decide +kernel)).1]; exact es
  have q10 : Pq h10 := ⟨w, by omega, by omega, by omega⟩
  refine Cv.mono (r_sum8 s hs d h10 a1 q10 (by omega) s10) (fun h14 Q => ⟨Q.1.1, ?_⟩)
  refine Cv.mono (c_say (d + 80) Q.1 3 (Q.room a1 q10)) (fun h17 S => ⟨S.1.1, up _ ?_⟩)
  obtain ⟨u1, u2, u3, u4, u5⟩ := Sa.q (h := h14) (x := 3) (h' := h17) S
  obtain ⟨c1, c2, c3, c4, c5, c6, c7, c8⟩ := Q
  have n10 := sN_i a1
  have n14 := sN_i c1
  have n17 := sN_i S.1
  have m17 : sN h17 = sN h14 + 1 := by omega
  have cc : ∀ k, k < sN h14 → h_i h17 226 k = h_i h14 226 k := fun k hk => S.2.2.2.2 k (by show k ≠ sN h14; omega)
  refine ⟨S.1, (a2.tr c2).tr (S.2.1.more (by decide +kernel)), by omega, fun k hk => ?_, fun w17 => ?_⟩
  · rw [cc k (by omega), c5 k (by omega)]; exact a4 k hk
  · rw [u2] at w17
    obtain ⟨t1, t2, t3, K2, t4, t5⟩ := c7 w17
    refine ⟨by omega, by omega, by omega, by omega, m, sN h14, ?_, ?_, ?_, ?_, m17⟩
    · exact PR.ex (PR.same (fun k _ b => by rw [cc k (by omega), c5 k (by omega)]) b5) (by omega)
    · rw [cc m (by omega), c5 m (by omega)]; exact b6
    · rw [← b7]; exact PR.ex (PR.same (fun k _ b => cc k b) t5) (by omega)
    · exact S.2.2.2.1
/-- what an act lets: a letter -/
theorem cl_ans (s d : Nat) {h h3 h7 : Hp_} {r : Int32} (I : Iv h) (q0 : ps h ≤ 3 * pa h) (A : Ak s h h3) (w : h_i h3 1 34 = -1) (L : Lk h3 r h7) (l : pa h7 < pz h) {K : Hp_ → Prop} (up : ∀ h', Pc s h h' → K h') :
    Cv (m_X12_say (d + 0) 0 0) [.ref 1, .int 0] (h_im h7 1 33 ((h_i h7 1 33) + 1)) (fun h71 => Wf h71 ∧ ∀ c : Int32, Cv (m_X12_say (d + 0) 0 0) [.ref 1, .int c] h71 (fun h77 => Wf h77 ∧ (Cv (m_X12_say (d + 0) 0 0) [.ref 1, .int 3] h77 (fun h80 => Wf h80 ∧ (K h80))))) := by
  have z1 : pz h ≤ 160 := (pz_in I).2
  have n0 := sN_i I
  have a0 : 0 ≤ pa h := (pa_in I).1
  obtain ⟨a1, a2, a3, a4, a6, a5⟩ := A
  obtain ⟨b1, b2, b3, m, K1, b4, b5, b6, b7⟩ := a5 w
  have z3 := zf a2 (by decide +kernel)
  obtain ⟨k1, k2, k3⟩ := nx1 a1 L (by omega)
  have l3 := L.2.2.1
  generalize h_im h7 1 33 ((h_i h7 1 33) + 1) = h2 at k1 k2 k3 ⊢
  have g2 := f36 k2 (by decide +kernel)
  have e2 := f35 k2 (by decide +kernel)
  have Y0 : Sy h3 [] h2 := (Sy.rf a1).mv k1 (k2.more (by decide +kernel))
  refine Cv.mono (c_say d k1 0 (by show ps h2 ≤ 558; omega)) (fun h71 S => ⟨S.1.1, fun c => ?_⟩)
  obtain ⟨s1, s2, s3, s4, s5⟩ := Sa.q (h := h2) (x := 0) (h' := h71) S
  refine Cv.mono (c_say d S.1 c (by show ps h71 ≤ 558; omega)) (fun h77 T => ⟨T.1.1, ?_⟩)
  obtain ⟨t1, t2, t3, t4, t5⟩ := Sa.q (h := h71) (x := c) (h' := h77) T
  refine Cv.mono (c_say d T.1 3 (by show ps h77 ≤ 558; omega)) (fun h80 U => ⟨U.1.1, up _ ?_⟩)
  obtain ⟨u1, u2, u3, u4, u5⟩ := Sa.q (h := h77) (x := 3) (h' := h80) U
  have Y : Sy h3 [0, c, 3] h80 := ((Y0.say a1 S).say a1 T).say a1 U
  obtain ⟨y1, y2, y3, y4, y5⟩ := Y
  have y4' : ps h80 = ps h3 + 3 := y4
  have n3 := sN_i a1
  have n80 := sN_i y1
  have x0 := y5 0 0 rfl
  have x2 := y5 2 3 rfl
  refine ⟨y1, a2.tr y2, by omega, fun k hk => ?_, fun _ => ⟨by omega, by omega, by omega, by omega, m, sN h3 + 2, ?_, ?_, ?_, x2, by omega⟩⟩
  · rw [y3 k (by omega)]; exact a4 k hk
  · exact PR.ex (PR.same (fun k _ b => y3 k (by omega)) b5) (by omega)
  · rw [y3 m (by omega)]; exact b6
  · rw [← b7]; exact PR.ex (PR.num x0) (by decide)
/-- a plain sum: put behind 0 1 2 -/
theorem cl_shift (s d : Nat) {h h0 : Hp_} (I : Iv h) (q0 : ps h ≤ 3 * pa h) (P : Pe s h h0) (w : h_i h0 1 34 = -1) (x3 : Int32) (e3 : x3 = h_i h 1 36) {K : Hp_ → Prop} (up : ∀ h', Pc s h h' → K h') :
    ∀ (n : Nat) (h2 : Hp_) (x4 : Int32), x4.toInt = (sN h : Int) + n - 1 → Iv h2 → Fr [226999] h0 h2 → sN h + n ≤ sN h0 → (∀ j, j < sN h + n → h_i h2 226 j = h_i h0 226 j) → (∀ j, sN h + n ≤ j → j < sN h0 → h_i h2 226 (j + 3) = h_i h0 226 j) →
    AW (m_X12_clause (d + 58) 0 0) 0 0 179 [(0, .ref 1), (3, .int x3), (4, .int x4)] [] h2 (kV K) := by
  have z1 : pz h ≤ 160 := (pz_in I).2
  have n0 := sN_i I
  have a0 : 0 ≤ pa h := (pa_in I).1
  obtain ⟨p1, p2, p3, p4, p5, p6, p7, p8⟩ := P
  obtain ⟨t1, t2, t3, K1, t4, t5⟩ := p7 w
  have nh0 := sN_i p1
  have i3 : x3.toInt = (sN h : Int) := by rw [e3]; exact n0.symm
  have j3 : x3.toNatClampNeg = sN h := by rw [e3]
  have o1 : (1 : Int32).toInt = 1 := rfl
  have o2 : (2 : Int32).toInt = 2 := rfl
  have o3 : (3 : Int32).toInt = 3 := rfl
  have om : (-1 : Int32).toInt = -1 := rfl
  intro n
  induction n with
  | zero =>
    intro h2 x4 e4 I2 F2 l2 c1 c2
    have e1' : (x3 + 1).toInt = x3.toInt + 1 := by rw [tx_add (by rw [o1]; omega) (by rw [o1]; omega), o1]
    have e2' : (x3 + 2).toInt = x3.toInt + 2 := by rw [tx_add (by rw [o2]; omega) (by rw [o2]; omega), o2]
    have k1 : (x3 + 1).toNatClampNeg = sN h + 1 := by have := n_nat (x := x3 + 1) (by omega); omega
    have k2 : (x3 + 2).toNatClampNeg = sN h + 2 := by have := n_nat (x := x3 + 2) (by omega); omega
    refine t_X12_clause_179 d h2 I2.1 x3 x4 _ ⟨fun _ => ⟨dp_in (lo := 0) (hi := 559) ⟨by show (0 : Int) ≤ _; omega, by show _ ≤ (559 : Int); omega⟩ (by decide) (by decide), dp_in (lo := 0) (hi := 559) ⟨by show (0 : Int) ≤ _; omega, by show _ ≤ (559 : Int); omega⟩ (by decide) (by decide), dp_in (lo := 0) (hi := 559) ⟨by show (0 : Int) ≤ _; omega, by show _ ≤ (559 : Int); omega⟩ (by decide) (by decide), ?_⟩, fun z => absurd (q_lt.mpr (by omega)) z⟩
    rw [j3, k1, k2]
    have g2 : ps h2 = ps h0 := f36 F2 (by decide +kernel)
    have es : (h_i h2 1 36 + 3).toInt = ps h2 + 3 := by
      have g : (h_i h2 1 36).toInt = ps h0 := g2
      show _ = (h_i h2 1 36).toInt + 3
      rw [tx_add (by rw [o3]; omega) (by rw [o3]; omega), o3]
    have I3 : Iv (h_im (h_im (h_im (h_im h2 226 (sN h) 0) 226 (sN h + 1) 1) 226 (sN h + 2) 2) 1 36 ((h_i h2 1 36) + 3)) := i36 (i226 (i226 (i226 I2 _ _) _ _) _ _) ⟨by rw [es]; show (0 : Int) ≤ _; omega, by rw [es]; show _ ≤ (559 : Int); omega⟩
    have F3 : Fr wzp h0 (h_im (h_im (h_im (h_im h2 226 (sN h) 0) 226 (sN h + 1) 1) 226 (sN h + 2) 2) 1 36 ((h_i h2 1 36) + 3)) := ((((F2.more (by decide +kernel)).im (inw_row (by decide +kernel) _)).im (inw_row (by decide +kernel) _)).im (inw_row (by decide +kernel) _)).im (by decide +kernel)
    have s3 : ps (h_im (h_im (h_im (h_im h2 226 (sN h) 0) 226 (sN h + 1) 1) 226 (sN h + 2) 2) 1 36 ((h_i h2 1 36) + 3)) = ps h2 + 3 := by
      show (h_i (h_im _ 1 36 _) 1 36).toInt = _
      rw [im_at]; exact es
    have c3 : ∀ k, h_i (h_im (h_im (h_im (h_im h2 226 (sN h) 0) 226 (sN h + 1) 1) 226 (sN h + 2) 2) 1 36 ((h_i h2 1 36) + 3)) 226 k = if k = sN h + 2 then 2 else if k = sN h + 1 then 1 else if k = sN h then 0 else h_i h2 226 k := by
      intro k
      rw [im_ne (by decide), h_i_im, h_i_im, h_i_im]
      by_cases y2 : k = sN h + 2
      · rw [if_pos ⟨rfl, y2⟩, if_pos y2]
      · rw [if_neg (fun z => y2 z.2), if_neg y2]
        by_cases y1 : k = sN h + 1
        · rw [if_pos ⟨rfl, y1⟩, if_pos y1]
        · rw [if_neg (fun z => y1 z.2), if_neg y1]
          by_cases y0 : k = sN h
          · rw [if_pos ⟨rfl, y0⟩, if_pos y0]
          · rw [if_neg (fun z => y0 z.2), if_neg y0]
    have a3 : pa (h_im (h_im (h_im (h_im h2 226 (sN h) 0) 226 (sN h + 1) 1) 226 (sN h + 2) 2) 1 36 ((h_i h2 1 36) + 3)) = pa h0 := by
      show (h_i (h_im _ 1 36 _) 1 33).toInt = _
      rw [f_ne (by decide), im_ne (by decide), im_ne (by decide), im_ne (by decide)]
      exact f33 F2 (by decide +kernel)
    have d3 : pd (h_im (h_im (h_im (h_im h2 226 (sN h) 0) 226 (sN h + 1) 1) 226 (sN h + 2) 2) 1 36 ((h_i h2 1 36) + 3)) = pd h0 := by
      show (h_i (h_im _ 1 36 _) 1 35).toInt = _
      rw [f_ne (by decide), im_ne (by decide), im_ne (by decide), im_ne (by decide)]
      exact f35 F2 (by decide +kernel)
    generalize h_im (h_im (h_im (h_im h2 226 (sN h) 0) 226 (sN h + 1) 1) 226 (sN h + 2) 2) 1 36 ((h_i h2 1 36) + 3) = h3 at I3 F3 s3 c3 a3 d3 ⊢
    refine Cv.mono (c_say d I3 3 (by show ps h3 ≤ 558; omega)) (fun h9 S => ⟨S.1.1, up _ ?_⟩)
    obtain ⟨u1, u2, u3, u4, u5⟩ := Sa.q (h := h3) (x := 3) (h' := h9) S
    have nh3 := sN_i I3
    have nh9 := sN_i S.1
    have m3 : sN h3 = sN h0 + 3 := by omega
    have cc : ∀ k, k < sN h0 + 3 → h_i h9 226 k = if k = sN h + 2 then 2 else if k = sN h + 1 then 1 else if k = sN h then 0 else h_i h2 226 k := fun k hk => by rw [S.2.2.2.2 k (by show k ≠ sN h3; omega)]; exact c3 k
    refine ⟨S.1, (p2.tr F3).tr (S.2.1.more (by decide +kernel)), by omega, fun k hk => ?_, fun _ => ⟨by omega, by omega, by omega, by omega, sN h + 2, sN h0 + 3, ?_, ?_, ?_, ?_, by omega⟩⟩
    · rw [cc k (by omega), if_neg (by omega), if_neg (by omega), if_neg (by omega), c1 k (by omega)]
      exact p5 k hk
    · exact PR.ex (PR.num (by rw [cc _ (by omega), if_neg (by omega), if_neg (by omega), if_pos rfl])) (by decide)
    · rw [cc _ (by omega), if_pos rfl]
    · refine PR.ex (k := K1) ?_ (by omega)
      rw [show sN h + 2 + 1 = sN h + 3 by omega]
      refine PR.sh (t := 3) (fun x a b => ?_) t5
      rw [cc _ (by omega), if_neg (by omega), if_neg (by omega), if_neg (by omega)]
      exact c2 x (by omega) b
    · rw [← m3]; exact S.2.2.2.1
  | succ n ih =>
    intro h2 x4 e4 I2 F2 l2 c1 c2
    have j4 : x4.toNatClampNeg = sN h + n := by have := n_nat (x := x4) (by omega); omega
    have e3' : (x4 + 3).toInt = x4.toInt + 3 := by rw [tx_add (by rw [o3]; omega) (by rw [o3]; omega), o3]
    have k3 : (x4 + 3).toNatClampNeg = sN h + n + 3 := by have := n_nat (x := x4 + 3) (by omega); omega
    refine t_X12_clause_179 d h2 I2.1 x3 x4 _ ⟨fun z => absurd (q_lt.mp z) (by omega), fun _ => ⟨dp_in (lo := 0) (hi := 559) ⟨by show (0 : Int) ≤ _; omega, by show _ ≤ (559 : Int); omega⟩ (by decide) (by decide), dp_in (lo := 0) (hi := 559) ⟨by show (0 : Int) ≤ _; omega, by show _ ≤ (559 : Int); omega⟩ (by decide) (by decide), ?_⟩⟩
    rw [j4, k3]
    have em : (x4 + (-1)).toInt = x4.toInt - 1 := by rw [tx_add (by rw [om]; omega) (by rw [om]; omega), om]; omega
    generalize x4 + (-1) = y at em ⊢
    refine ih _ y (by omega) (i226 I2 _ _) (F2.im (inw_row (by decide +kernel) _)) (by omega) (fun j hj => ?_) (fun j a b => ?_)
    · rw [h_i_im, if_neg (fun u => by have := u.2; omega)]; exact c1 j (by omega)
    · rw [h_i_im]
      by_cases y0 : j = sN h + n
      · rw [if_pos ⟨rfl, by omega⟩, y0]; exact c1 _ (by omega)
      · rw [if_neg (fun u => by have := u.2; omega)]; exact c2 j (by omega) b
theorem Pe.wr {s : Nat} {h h' : Hp_} (P : Pe s h h') (w : ¬ h_i h' 1 34 = -1) : Pc s h h' := ⟨P.1, P.2.1, P.2.2.1, P.2.2.2.2.1, fun y => absurd y w⟩
theorem c_clause (s : Nat) (hs : s = 1 ∨ s = 2) (d : Nat) {h : Hp_} (I : Iv h) (q : Pq h) (q0 : ps h ≤ 3 * pa h) (e0 : pd h = 0) (es : h_i h 1 37 = Int32.ofNat s) : Cv (m_X12_clause (d + 80 + 58) 0 0) [.ref 1] h (fun h' => Pc s h h') := by
  have z1 : pz h ≤ 160 := (pz_in I).2
  refine t_X12_clause (d + 80) h I.1 _ (Ci.mono (c_look (d + 80) I) (fun r h1 L => ?_))
  have l3 := L.2.2.1
  have l4 := L.2.2.2.1
  have zz := zf L.2.1 (by decide +kernel)
  have g1 := f36 L.2.1 (by decide +kernel)
  have d1 := f35 L.2.1 (by decide +kernel)
  have n0 := sN_i I
  have n1 := sN_i L.1
  have m1 : sN h1 = sN h := by omega
  have s1 : h_i h1 1 37 = Int32.ofNat s := by rw [(L.2.1.2 1 37 (by decide +kernel)).1]; exact es
  have q1 : Pq h1 := ⟨by rw [f34 L.2.1 (by decide +kernel)]; exact q.1, by have := q.2.1; omega, by omega, by omega⟩
  have q01 : ps h1 ≤ 3 * pa h1 := by omega
  have up : ∀ h', Pc s h1 h' → Pc s h h' := by
    intro h' P
    obtain ⟨p1, p2, p3, p4, p5⟩ := P
    refine ⟨p1, (L.2.1.more (by decide +kernel)).tr p2, by omega, fun k hk => ?_, fun w => ?_⟩
    · rw [p4 k (by omega)]; exact fr_i L.2.1 (by decide +kernel) k
    · obtain ⟨t1, t2, t3, t4, t5⟩ := p5 w
      exact ⟨by omega, by omega, by omega, by omega, by rw [← m1]; exact t5⟩
  have cond : Cv (m_X12_condition (d + 80 + 57) 0 0) [.ref 1, .int 0] h1 (fun h7 => Pe s h1 h7) := c_cond0 s 80 0 (r_unit s hs) d h1 L.1 q1 (by omega) s1
  refine ⟨L.1.1, fun _ => ⟨fun _ => ?_, fun _ => ⟨fun _ => ?_, fun _ => ?_⟩⟩, fun _ => ?_⟩
  · exact Cv.mono cond (fun h7 P => ⟨P.1.1, cl_rest s hs d L.1 q1 q01 (by omega) s1 P up⟩)
  · exact Cv.mono cond (fun h7 P => ⟨P.1.1, cl_rest s hs d L.1 q1 q01 (by omega) s1 P up⟩)
  · refine Cv.mono (r_sum8 s hs d h1 L.1 q1 (by omega) s1) (fun h6 P => ⟨P.1.1, fun w => ?_, fun w => up _ (P.wr w)⟩)
    refine Ci.mono (c_look (d + 80) P.1) (fun r2 h4 L4 => ⟨L4.1.1, ?_⟩)
    have P4 := P.lk L.1 L4
    have w4 : h_i h4 1 34 = -1 := by rw [f34 L4.2.1 (by decide +kernel)]; exact w
    refine Ci.mono (c_isSign (d + 80) h4 r2) (fun r5 h5 k => ?_)
    obtain ⟨e5, _⟩ := k
    subst e5
    refine ⟨L4.1.1, fun _ => ?_, fun _ => ?_⟩
    · exact Cv.mono (c_cond1 s 80 0 (r_unit s hs) (r_sum8 s hs) d L.1 q1 (by omega) s1 P4) (fun h7 P7 => ⟨P7.1.1, cl_rest s hs d L.1 q1 q01 (by omega) s1 P7 up⟩)
    · have n5 := sN_i P4.1
      have o1 : (1 : Int32).toInt = 1 := rfl
      have a0 : 0 ≤ pa h1 := (pa_in L.1).1
      obtain ⟨t1, t2, t3, _⟩ := P4.2.2.2.2.2.2.1 w4
      have p6 := P4.2.2.2.2.2.1
      have t3' : (h_i h5 1 36).toInt ≤ ps h1 + 2 * (pa h5 - pa h1) := t3
      have p6' : ps h1 ≤ (h_i h5 1 36).toInt := p6
      have n1' : 0 ≤ ps h1 := (ps_in L.1).1
      have ex : (h_i h5 1 36 - 1).toInt = (h_i h5 1 36).toInt - 1 := by rw [tx_sub (by rw [o1]; omega) (by rw [o1]; omega), o1]
      have ex' : (h_i h5 1 36 - 1).toInt = ps h5 - 1 := ex
      refine cl_shift s (d + 80) L.1 q01 P4 w4 _ rfl up (sN h5 - sN h1) h5 _ (by omega) P4.1 (Fr.rf _ _) (by omega) (fun _ _ => rfl) (fun j a b => absurd a (by omega))
  · refine Cv.mono cond (fun h7 P => ⟨P.1.1, ?_⟩)
    refine Cv.mono (c_ask s (d + 80) L.1 q1 P) (fun h3 A => ⟨A.1.1, fun w => ?_, fun w => ?_⟩)
    · refine Ci.mono (c_look (d + 80) A.1) (fun r2 h4 L4 => ?_)
      have z3 := zf A.2.1 (by decide +kernel)
      have fw : ∀ c : Int32, r2 = c → ¬ c = -1 → pa h4 < pz h1 := fun c ec nc => by
        rcases L4.fwd z3 with u | u
        · exact absurd (ec.symm.trans u) nc
        · exact u
      have go : pa h4 < pz h1 → Cv (m_X12_say (d + 80 + 0) 0 0) [.ref 1, .int 0] (h_im h4 1 33 ((h_i h4 1 33) + 1)) (fun h71 => Wf h71 ∧ ∀ c : Int32, Cv (m_X12_say (d + 80 + 0) 0 0) [.ref 1, .int c] h71 (fun h77 => Wf h77 ∧ (Cv (m_X12_say (d + 80 + 0) 0 0) [.ref 1, .int 3] h77 (fun h80 => Wf h80 ∧ (Pc s h h80))))) := fun l => cl_ans s (d + 80) L.1 q01 A w L4 l up
      have four : pa h4 < pz h1 → Cv (m_X12_say (d + 80 + 0) 0 0) [.ref 1, .int 0] (h_im h4 1 33 ((h_i h4 1 33) + 1)) (fun h71 => Wf h71 ∧ ((¬ r2 = 120 → (¬ r2 = 110 → (¬ r2 = 114 → Cv (m_X12_say (d + 80 + 0) 0 0) [.ref 1, .int 3] h71 (fun h77 => Wf h77 ∧ (Cv (m_X12_say (d + 80 + 0) 0 0) [.ref 1, .int 3] h77 (fun h80 => Wf h80 ∧ (Pc s h h80))))) ∧ (r2 = 114 → Cv (m_X12_say (d + 80 + 0) 0 0) [.ref 1, .int 2] h71 (fun h77 => Wf h77 ∧ (Cv (m_X12_say (d + 80 + 0) 0 0) [.ref 1, .int 3] h77 (fun h80 => Wf h80 ∧ (Pc s h h80)))))) ∧ (r2 = 110 → Cv (m_X12_say (d + 80 + 0) 0 0) [.ref 1, .int 1] h71 (fun h77 => Wf h77 ∧ (Cv (m_X12_say (d + 80 + 0) 0 0) [.ref 1, .int 3] h77 (fun h80 => Wf h80 ∧ (Pc s h h80)))))) ∧ (r2 = 120 → Cv (m_X12_say (d + 80 + 0) 0 0) [.ref 1, .int 0] h71 (fun h77 => Wf h77 ∧ (Cv (m_X12_say (d + 80 + 0) 0 0) [.ref 1, .int 3] h77 (fun h80 => Wf h80 ∧ (Pc s h h80))))))) := fun l => Cv.mono (go l) (fun h71 k => ⟨k.1, fun _ => ⟨fun _ => ⟨fun _ => k.2 3, fun _ => k.2 2⟩, fun _ => k.2 1⟩, fun _ => k.2 0⟩)
      refine ⟨L4.1.1, fun e => four (fw _ e (by decide)), fun _ => ⟨fun e => four (fw _ e (by decide)), fun _ => ⟨fun e => four (fw _ e (by decide)), fun _ => ⟨fun e => four (fw _ e (by decide)), fun _ => Cv.mono (c_bad (d + 80) L4.1) (fun h9 b => ⟨b.1.1, up _ ⟨b.1, (A.2.1.tr (L4.2.1.more (by decide +kernel))).tr (b.2.1.more (by decide +kernel)), ?_, ?_, fun y => absurd y b.2.2⟩⟩)⟩⟩⟩⟩
      · have b5 := f35 b.2.1 (by decide +kernel)
        have l5 := f35 L4.2.1 (by decide +kernel)
        have a5 := A.2.2.1
        omega
      · intro k hk
        rw [fr_i b.2.1 (a := 226) (by decide +kernel), fr_i L4.2.1 (a := 226) (by decide +kernel)]
        exact A.2.2.2.1 k hk
    · exact up _ ⟨A.1, A.2.1, A.2.2.1, A.2.2.2.1, fun y => absurd y w⟩
end
section
/-! fault of the reference -/
theorem pcl_sh {s : Nat} {cd cd' : Nat → Int32} {t : Nat} : ∀ {f i e : Nat}, (∀ x, i ≤ x → x < e → cd' (x + t) = cd x) → pcl s cd f i e → pcl s cd' f (i + t) (e + t)
  | 0, i, e, _, h => by
    have h : i = e := h
    subst h
    exact rfl
  | f + 1, i, e, c, h => by
    obtain ⟨j, k, ⟨g1, a⟩, b, ⟨g2, a'⟩, b', r⟩ := h
    have l1 := prun_le a
    have l2 := prun_le a'
    have l3 := pcl_le r
    refine ⟨j + t, k + t, ⟨g1, prun_sh (fun x u v => c x (by omega) (by omega)) a⟩, by rw [c j (by omega) (by omega)]; exact b, ⟨g2, ?_⟩, by rw [c k (by omega) (by omega)]; exact b', ?_⟩
    · rw [Nat.add_right_comm j t 1]
      exact prun_sh (fun x u v => c x (by omega) (by omega)) a'
    · rw [Nat.add_right_comm k t 1]
      exact pcl_sh (fun x u v => c x (by omega) v) r
theorem pcl_same {s : Nat} {cd cd' : Nat → Int32} {f i e : Nat} (c : ∀ x, i ≤ x → x < e → cd' x = cd x) (h : pcl s cd f i e) : pcl s cd' f i e := pcl_sh (t := 0) c h
theorem pcl_snoc {s : Nat} {cd : Nat → Int32} : ∀ {f i e e' : Nat}, pcl s cd f i e → Ck s cd e e' → pcl s cd (f + 1) i e'
  | 0, i, e, e', h, c => by
    have h : i = e := h
    subst h
    obtain ⟨m, n, a, b, c, d, x⟩ := c
    exact ⟨m, n, a, b, c, d, x.symm⟩
  | f + 1, i, e, e', h, c => by
    obtain ⟨j, k, a, b, a', b', r⟩ := h
    exact ⟨j, k, a, b, a', b', pcl_snoc r c⟩
def wzf : List Nat := [1033, 1034, 1035, 1036, 1037, 226999]
def Fa (x1 : Int32) (h : Hp_) (r : Int32) (h' : Hp_) : Prop := Iv h' ∧ Fr wzf h h' ∧ (r = -1 → (x1 = 0 → Qs 4 (h_i h' 226) 0 (sN h')) ∧ ∀ s : Nat, (s = 1 ∨ s = 2) → x1 = Int32.ofNat s → ∃ f, pcl s (h_i h' 226) f 0 (sN h'))
/-- between clauses -/
def Fl (s : Nat) (h0 h : Hp_) : Prop := Iv h ∧ Fr wzp h0 h ∧ pd h = 0 ∧ (h_i h 1 34 = -1 → pa h ≤ pz h0 ∧ ps h ≤ 3 * pa h + 3 ∧ ∃ f, pcl s (h_i h 226) f 0 (sN h))
theorem Fl.lk {s : Nat} {h0 h h1 : Hp_} {r : Int32} (G : Fl s h0 h) (L : Lk h r h1) : Fl s h0 h1 := by
  obtain ⟨g1, g2, g3, g4⟩ := G
  have l3 := L.2.2.1
  have l4 := L.2.2.2.1
  have e5 := f35 L.2.1 (by decide +kernel)
  have e6 := f36 L.2.1 (by decide +kernel)
  have zz := zf g2 (by decide +kernel)
  have n0 := sN_i g1
  have n1 := sN_i L.1
  refine ⟨L.1, g2.tr (L.2.1.more (by decide +kernel)), by omega, fun w => ?_⟩
  rw [f34 L.2.1 (by decide +kernel)] at w
  obtain ⟨t1, t2, f, t3⟩ := g4 w
  refine ⟨by omega, by omega, f, ?_⟩
  rw [show h_i h1 226 = h_i h 226 from funext (fun k => fr_i L.2.1 (by decide +kernel) k), show sN h1 = sN h by omega]
  exact t3
theorem fl_loop (s : Nat) (hs : s = 1 ∨ s = 2) (d : Nat) {h h0 : Hp_} (x1 : Int32) (e1 : x1 = Int32.ofNat s) (I0 : Iv h0) (F0 : Fr wzf h h0) (es : h_i h0 1 37 = Int32.ofNat s) :
    ∀ (n : Nat) (h2 : Hp_), Fl s h0 h2 → pz h0 - pa h2 ≤ n → AW (m_X12_fault (d + 80 + 59) 0 0) 0 0 52 [(0, .ref 1)] [] h2 (kI (fun r h' => Fa x1 h r h')) := by
  have z1 : pz h0 ≤ 160 := (pz_in I0).2
  have dn : ∀ h', Fl s h0 h' → Fa x1 h (h_i h' 1 34) h' := by
    intro h' G
    refine ⟨G.1, F0.tr (G.2.1.more (by decide +kernel)), fun w => ⟨fun e => ?_, fun t ht et => ?_⟩⟩
    · rw [e1] at e
      rcases hs with u | u <;> subst u <;> exact absurd e (by decide)
    · have tt : t = s := by
        rw [e1] at et
        rcases hs with u | u <;> subst u <;> rcases ht with v | v <;> subst v <;> first | rfl | exact absurd et (by decide)
      subst tt
      exact (G.2.2.2 w).2.2
  have bd : ∀ h1, Fl s h0 h1 → h_i h1 1 34 = -1 → Cv (m_X12_bad (d + 80 + 0) 0 0) [.ref 1] h1 (fun h9 => Wf h9 ∧ Fa x1 h (h_i h9 1 34) h9) := by
    intro h1 G w
    refine Cv.mono (c_bad (d + 80) G.1) (fun h9 b => ⟨b.1.1, b.1, F0.tr ((G.2.1.tr (b.2.1.more (by decide +kernel))).more (by decide +kernel)), fun y => absurd y b.2.2⟩)
  have ends : ∀ h1, Fl s h0 h1 → h_i h1 1 34 = -1 → Ci (m_X12_look (d + 80 + 0) 0 0) [.ref 1] h1 (fun r h5 => Wf h5 ∧ ((r = (-1) → Fa x1 h (h_i h5 1 34) h5) ∧ (¬ r = (-1) → Cv (m_X12_bad (d + 80 + 0) 0 0) [.ref 1] h5 (fun h9 => Wf h9 ∧ (Fa x1 h (h_i h9 1 34) h9))))) := by
    intro h1 G w
    refine Ci.mono (c_look (d + 80) G.1) (fun r h5 L => ⟨L.1.1, fun _ => dn _ (G.lk L), fun _ => bd _ (G.lk L) (by rw [f34 L.2.1 (by decide +kernel)]; exact w)⟩)
  intro n
  induction n with
  | zero =>
    intro h2 G m
    have zz := zf G.2.1 (by decide +kernel)
    refine t_X12_fault_52 (d + 80) h2 G.1.1 _ ⟨fun w => ⟨fun _ => dn _ G, fun y => absurd y w⟩, fun w => Ci.mono (c_look (d + 80) G.1) (fun r h5 L => ⟨L.1.1, fun _ => ⟨fun y => absurd (by rw [f34 L.2.1 (by decide +kernel)]; exact w) y, fun w5 => ends _ (G.lk L) w5⟩, fun er => ?_⟩)⟩
    have l3 := L.2.2.1
    rcases L.fwd zz with u | u
    · rw [er] at u; exact absurd u (by decide)
    · omega
  | succ n ih =>
    intro h2 G m
    have zz := zf G.2.1 (by decide +kernel)
    refine t_X12_fault_52 (d + 80) h2 G.1.1 _ ⟨fun w => ⟨fun _ => dn _ G, fun y => absurd y w⟩, fun w => Ci.mono (c_look (d + 80) G.1) (fun r h5 L => ⟨L.1.1, fun _ => ⟨fun y => absurd (by rw [f34 L.2.1 (by decide +kernel)]; exact w) y, fun w5 => ends _ (G.lk L) w5⟩, fun er => ?_⟩)⟩
    have G5 := G.lk L
    have w5 : h_i h5 1 34 = -1 := by rw [f34 L.2.1 (by decide +kernel)]; exact w
    have l3 := L.2.2.1
    have l5 : pa h5 < pz h0 := by
      rcases L.fwd zz with u | u
      · rw [er] at u; exact absurd u (by decide)
      · exact u
    obtain ⟨t1, t2, f, t3⟩ := G5.2.2.2 w5
    obtain ⟨k1, k2, k3⟩ := at1 L.1 (by omega)
    generalize h_im h5 1 33 ((h_i h5 1 33) + 1) = h6 at k1 k2 k3 ⊢
    have e5 := f35 k2 (by decide +kernel)
    have e6 := f36 k2 (by decide +kernel)
    have z6 := zf k2 (by decide +kernel)
    have z5 := zf G5.2.1 (by decide +kernel)
    have g3 := G5.2.2.1
    have n5 := sN_i G5.1
    have n6 := sN_i k1
    have m6 : sN h6 = sN h5 := by omega
    have F6 : Fr wzp h0 h6 := G5.2.1.tr (k2.more (by decide +kernel))
    refine Cv.mono (c_clause s hs d k1 ⟨by rw [f34 k2 (by decide +kernel)]; exact w5, by omega, by omega, by omega⟩ (by omega) (by omega) (by rw [(F6.2 1 37 (by decide +kernel)).1]; exact es)) (fun h9 P => ?_)
    obtain ⟨p1, p2, p3, p4, p5⟩ := P
    have c9 : ∀ k, k < sN h5 → h_i h9 226 k = h_i h5 226 k := fun k hk => by rw [p4 k (by omega)]; exact fr_i k2 (by decide +kernel) k
    refine ⟨p1.1, ?_⟩
    by_cases w9 : h_i h9 1 34 = -1
    · obtain ⟨u1, u2, u3, u4, u5⟩ := p5 w9
      refine ih h9 ⟨p1, F6.tr p2, by omega, fun _ => ⟨by omega, by omega, f + 1, ?_⟩⟩ (by omega)
      refine pcl_snoc (pcl_same (fun x _ b => c9 x b) t3) ?_
      rw [← m6]; exact u5
    · refine t_X12_fault_52 (d + 80) h9 p1.1 _ ⟨fun w => ⟨fun _ => ?_, fun y => absurd y w⟩, fun w => absurd w w9⟩
      exact dn _ ⟨p1, F6.tr p2, by omega, fun y => absurd y w9⟩
theorem c_fault (d : Nat) {h : Hp_} (I : Iv h) (x1 : Int32) : Ci (m_X12_fault (d + 80 + 59) 0 0) [.ref 1, .int x1] h (fun r h' => Fa x1 h r h') := by
  have z0 : 0 ≤ pz h := (pz_in I).1
  have z1 : pz h ≤ 160 := (pz_in I).2
  have b0 : rin (0 : Int32).toInt (0, 180) := ⟨by decide, by decide⟩
  have I0 : Iv (h_im (h_im (h_im (h_im (h_im h 1 37 x1) 1 33 0) 1 34 (-1)) 1 35 0) 1 36 0) := i36 (i35 (i34 (i33 (I.im (by rw [show tf 1 37 = rtop by decide +kernel]; exact rtop_in _) (by decide)) b0) _) ⟨by decide, by decide⟩) ⟨by decide, by decide⟩
  have F0 : Fr wzf h (h_im (h_im (h_im (h_im (h_im h 1 37 x1) 1 33 0) 1 34 (-1)) 1 35 0) 1 36 0) := (((((Fr.rf _ _).im (by decide +kernel)).im (by decide +kernel)).im (by decide +kernel)).im (by decide +kernel)).im (by decide +kernel)
  have e36 : h_i (h_im (h_im (h_im (h_im (h_im h 1 37 x1) 1 33 0) 1 34 (-1)) 1 35 0) 1 36 0) 1 36 = 0 := im_at
  have e35 : h_i (h_im (h_im (h_im (h_im (h_im h 1 37 x1) 1 33 0) 1 34 (-1)) 1 35 0) 1 36 0) 1 35 = 0 := by rw [f_ne (by decide), im_at]
  have e34 : h_i (h_im (h_im (h_im (h_im (h_im h 1 37 x1) 1 33 0) 1 34 (-1)) 1 35 0) 1 36 0) 1 34 = -1 := by rw [f_ne (by decide), f_ne (by decide), im_at]
  have e33 : h_i (h_im (h_im (h_im (h_im (h_im h 1 37 x1) 1 33 0) 1 34 (-1)) 1 35 0) 1 36 0) 1 33 = 0 := by rw [f_ne (by decide), f_ne (by decide), f_ne (by decide), im_at]
  have e37 : h_i (h_im (h_im (h_im (h_im (h_im h 1 37 x1) 1 33 0) 1 34 (-1)) 1 35 0) 1 36 0) 1 37 = x1 := by rw [f_ne (by decide), f_ne (by decide), f_ne (by decide), f_ne (by decide), im_at]
  refine t_X12_fault (d + 80) h I.1 x1 _ ⟨fun b => ?_, fun _ => ⟨I, Fr.rf _ _, fun y => absurd y (by decide)⟩⟩
  generalize h_im (h_im (h_im (h_im (h_im h 1 37 x1) 1 33 0) 1 34 (-1)) 1 35 0) 1 36 0 = h0 at I0 F0 e36 e35 e34 e33 e37 ⊢
  have zz := zf F0 (by decide +kernel)
  have a0 : pa h0 = 0 := by show (h_i h0 1 33).toInt = 0; rw [e33]; rfl
  have d0 : pd h0 = 0 := by show (h_i h0 1 35).toInt = 0; rw [e35]; rfl
  have s0 : ps h0 = 0 := by show (h_i h0 1 36).toInt = 0; rw [e36]; rfl
  have n0 := sN_i I0
  have nz : sN h0 = 0 := by omega
  refine ⟨fun n1 => ?_, fun e1 => ?_⟩
  · obtain ⟨s, hs, ex⟩ : ∃ s : Nat, (s = 1 ∨ s = 2) ∧ x1 = Int32.ofNat s := by
      have b1 : (0 : Int32).toInt ≤ x1.toInt := q_le.mp b.1
      have b2 : x1.toInt ≤ (2 : Int32).toInt := q_le.mp b.2
      have o0 : (0 : Int32).toInt = 0 := rfl
      have o1 : (1 : Int32).toInt = 1 := rfl
      have o2 : (2 : Int32).toInt = 2 := rfl
      have nn : ¬ x1.toInt = 0 := fun z => n1 (Int32.toInt_inj.mp (by rw [z, o0]))
      rcases Int.lt_or_le x1.toInt 2 with u | u
      · exact ⟨1, Or.inl rfl, Int32.toInt_inj.mp (by show _ = (1 : Int32).toInt; omega)⟩
      · exact ⟨2, Or.inr rfl, Int32.toInt_inj.mp (by show _ = (2 : Int32).toInt; omega)⟩
    refine Cv.mono (c_clause s hs d I0 ⟨e34, by omega, by omega, by omega⟩ (by omega) d0 (by rw [e37]; exact ex)) (fun h5 P => ?_)
    obtain ⟨p1, p2, p3, p4, p5⟩ := P
    have a5 : 0 ≤ pa h5 := (pa_in p1).1
    refine ⟨p1.1, fl_loop s hs d x1 ex I0 F0 (by rw [e37]; exact ex) 160 h5 ⟨p1, p2, by omega, fun w => ?_⟩ (by omega)⟩
    obtain ⟨u1, u2, u3, u4, u5⟩ := p5 w
    refine ⟨by omega, by omega, 1, ?_⟩
    rw [nz] at u5
    exact pcl_snoc (f := 0) (e := 0) rfl u5
  · refine Cv.mono (r_steps (d := d) I0 ⟨e34, by omega, by omega, by omega⟩ d0) (fun h8 P => ⟨P.1.1, fun w => ?_, fun w => ?_⟩)
    · exact ⟨P.1, F0.tr (P.2.1.more (by decide +kernel)), fun y => absurd y w⟩
    · obtain ⟨u1, u2, u3, u4⟩ := P.2.2.2.2.2.2.1 w
      rw [nz] at u4
      refine Ci.mono (c_look (d + 80) P.1) (fun r h5 L => ⟨L.1.1, fun _ => ?_, fun _ => ?_⟩)
      · have e6 := f36 L.2.1 (by decide +kernel)
        have n5 := sN_i L.1
        have n8 := sN_i P.1
        refine ⟨L.1, F0.tr ((P.2.1.tr (L.2.1.more (by decide +kernel))).more (by decide +kernel)), fun _ => ⟨fun _ => ?_, fun s hs ex => ?_⟩⟩
        · rw [show h_i h5 226 = h_i h8 226 from funext (fun k => fr_i L.2.1 (by decide +kernel) k), show sN h5 = sN h8 by omega]
          exact u4
        · rw [e1] at ex
          rcases hs with u | u <;> subst u <;> exact absurd ex (by decide)
      · refine Cv.mono (c_bad (d + 80) L.1) (fun h9 b => ⟨b.1.1, b.1, F0.tr (((P.2.1.tr (L.2.1.more (by decide +kernel))).tr (b.2.1.more (by decide +kernel))).more (by decide +kernel)), fun y => absurd y b.2.2⟩)
end
section
/-! texts of the reference kept -/
theorem Iv_codes {h h2 : Hp_} {t : Nat} {z : Int32} (I : Iv h) (he : ∀ a j, a ≠ 231 → h_i h2 a j = h_i h a j) (hs : h_sh h2 = h_sh h) (hr : h_r h2 = h_r h) (ht : t < 40) (hz : rin z.toInt (0, 560)) (out : ∀ j, (j < 560 * t ∨ 560 * t + 560 ≤ j) → h_i h2 231 j = h_i h 231 j) (pc : ∃ f, pcl (t / 20 + 1) (h_i h2 231) f (560 * t) (560 * t + z.toNatClampNeg)) : Iv (h_im h2 232 t z) := by
  obtain ⟨j1, j2, j3, j4⟩ := I.2.2.2.2.2
  refine ⟨⟨fun q hq => ?_, fun q hq => ?_⟩, fun a k => ?_, fun k => ?_, ?_, ?_, fun k hk => ?_, fun j hj hm => ?_, fun c N a b => ?_, fun t' ht' => ?_⟩
  · show h_sh h2 q.1 = _
    rw [hs]; exact I.1.1 q hq
  · show h_r h2 q.1 q.2.1 = _
    rw [hr]; exact I.1.2 q hq
  · rw [h_i_im]
    split
    · rename_i e
      rw [e.1, tfa_tf (show tfa 232 = some (0, 560) by decide +kernel)]; exact hz
    · by_cases n : a = 231
      · rw [n, tfa_tf (show tfa 231 = some rtop by decide +kernel)]; exact rtop_in _
      · rw [he a k n]; exact I.2.1 a k
  · show h_r h2 15 k = none ∨ ∃ c, h_r h2 15 k = some c ∧ (401 ≤ c ∧ c ≤ 412 ∧ h_sh h2 c = some (12, 17))
    rw [hr, hs]; exact I.2.2.1 k
  · show ∃ i, i < 4 ∧ h_r h2 11 4 = some (1000 + i)
    rw [hr]; exact I.2.2.2.1
  · obtain ⟨c, N, a, b, l, m⟩ := I.2.2.2.2.1
    exact ⟨c, N, by show h_r h2 0 15 = _; rw [hr]; exact a, by show h_sh h2 c = _; rw [hs]; exact b, l, by rw [im_ne (by decide), he 0 0 (by decide)]; exact m⟩
  · rw [im_ne (by decide), he 228 k (by decide)] at hk
    rw [im_ne (by decide), he 229 k (by decide)]
    exact j1 k hk
  · rw [im_ne (by decide), he 0 7 (by decide)] at hm
    show h_sh h2 _ = _
    rw [hs]; exact j2 j hj hm
  · have a : h_r h2 0 15 = some c := a
    have b : h_sh h2 c = some (3, N) := b
    rw [hr] at a
    rw [hs] at b
    show Gr (h_sh h2) N
    rw [hs]; exact j3 c N a b
  · rw [show h_i (h_im h2 232 t z) 231 = h_i h2 231 from funext (fun k => im_ne (by decide)), h_i_im]
    by_cases y : t' = t
    · subst y
      rw [if_pos ⟨rfl, rfl⟩]; exact pc
    · rw [if_neg (fun u => y u.2), he 232 t' (by decide)]
      obtain ⟨f, p⟩ := j4 t' ht'
      have sz := dp_rg I 232 t' (show tfa 232 = some (0, 560) by decide +kernel)
      have nz := n_nat sz.1
      have s1 : (h_i h 232 t').toInt ≤ 560 := sz.2
      exact ⟨f, pcl_same (fun x a b => out x (by omega)) p⟩
def wzt : List Nat := [1032, 1033, 1034, 1035, 1036, 1037, 226999, 231999, 232999, 233999, 234999, 235999]
theorem i32 {h : Hp_} (I : Iv h) {x : Int32} (b : rin x.toInt (0, 160)) : Iv (h_im h 1 32 x) := I.im (by rw [show tf 1 32 = (0, 160) by decide +kernel]; exact b) (by decide)
theorem i235 {h : Hp_} (I : Iv h) (k : Nat) {x : Int32} (b : rin x.toInt (0, 20)) : Iv (h_im h 235 k x) := I.im (by rw [tfa_tf (show tfa 235 = some (0, 20) by decide +kernel)]; exact b) (jw_jr (by decide) (by decide) _)
theorem tx_loop (d s m : Nat) (hs : s < 2) (lm : m < 20) {h h6 : Hp_} (x2 x3 : Int32) (I6 : Iv h6) (hm : h_i h6 235 s = Int32.ofNat m) (e3 : x3.toInt = ((20 * s + m : Nat) : Int)) (pc : ∃ f, pcl (s + 1) (h_i h6 226) f 0 (sN h6)) :
    ∀ (n k : Nat) (h2 : Hp_), k + n = sN h6 → (∀ a j, a ≠ 231 → h_i h2 a j = h_i h6 a j) → h_sh h2 = h_sh h6 → h_r h2 = h_r h6 → Fr wzt h h2 → (∀ j, j < k → h_i h2 231 (560 * (20 * s + m) + j) = h_i h6 226 j) → (∀ j, (j < 560 * (20 * s + m) ∨ 560 * (20 * s + m) + 560 ≤ j) → h_i h2 231 j = h_i h6 231 j) →
    AW (m_X12_text (d + 60) 0 0) 0 0 49 [(0, .ref 1), (1, .int (Int32.ofNat s)), (2, .int x2), (3, .int x3), (4, .int (Int32.ofNat k))] [] h2 (kI (fun _ h' => Iv h' ∧ Fr wzt h h')) := by
  have n6 := sN_i I6
  have p6 : ps h6 ≤ 559 := (ps_in I6).2
  have n3 := n_nat (x := x3) (by omega)
  have k3 : x3.toNatClampNeg = 20 * s + m := by omega
  have v3 : vp_in x3 40 := dp_in (lo := 0) (hi := 39) ⟨by show (0 : Int) ≤ _; omega, by show _ ≤ (39 : Int); omega⟩ (by decide) (by decide)
  have v1 : vp_in (Int32.ofNat s) 2 := on_in hs (by decide)
  have k1 : (Int32.ofNat s).toNatClampNeg = s := on_k (by omega)
  have t560 : (560 : Int32).toInt = 560 := rfl
  intro n
  induction n with
  | zero =>
    intro k h2 e he hsh hr F c1 c2
    have ek : (Int32.ofNat k).toInt = (k : Int) := on_j (by omega)
    have es : h_i h2 1 36 = h_i h6 1 36 := he 1 36 (by decide)
    have w2 : Wf h2 := ⟨fun q hq => by rw [hsh]; exact I6.1.1 q hq, fun q hq => by rw [hr]; exact I6.1.2 q hq⟩
    refine t_X12_text_49 d h2 w2 _ x2 x3 _ _ ⟨fun _ => ⟨v3, v3, v3, v1, v1, v1, ?_⟩, fun z => ?_⟩
    · rw [k3, k1, es, he 235 s (by decide), hm]
      have kk : k = sN h6 := by omega
      have I3 : Iv (h_im h2 232 (20 * s + m) (h_i h6 1 36)) := by
        refine Iv_codes I6 he hsh hr (by omega) ⟨by show (0 : Int) ≤ ps h6; omega, by show ps h6 ≤ (560 : Int); omega⟩ c2 ?_
        obtain ⟨f, p⟩ := pc
        have p2 := pcl_sh (t := 560 * (20 * s + m)) (cd' := h_i h2 231) (fun x _ b => by rw [Nat.add_comm]; exact c1 x (by omega)) p
        rw [Nat.zero_add, Nat.add_comm (sN h6)] at p2
        rw [show (20 * s + m) / 20 + 1 = s + 1 by omega]
        exact ⟨f, p2⟩
      have e20 : (Int32.ofNat m + 1).toInt = ((m + 1 : Nat) : Int) := by rw [on_s (by omega)]; exact on_j (by omega)
      refine ⟨i32 (i235 (i2xx 234 (by decide +kernel) (by decide) (by decide) (i2xx 233 (by decide +kernel) (by decide) (by decide) I3 _ _) _ _) _ ⟨by rw [e20]; show (0 : Int) ≤ _; omega, by rw [e20]; show _ ≤ (20 : Int); omega⟩) ⟨by decide, by decide⟩, ?_⟩
      exact ((((F.im (inw_row (by decide +kernel) _)).im (inw_row (by decide +kernel) _)).im (inw_row (by decide +kernel) _)).im (inw_row (by decide +kernel) _)).im (by decide +kernel)
    · rw [es] at z
      have z := q_nle z
      have z' : (Int32.ofNat k).toInt < ps h6 := z
      omega
  | succ n ih =>
    intro k h2 e he hsh hr F c1 c2
    have ek : (Int32.ofNat k).toInt = (k : Int) := on_j (by omega)
    have nk : (Int32.ofNat k).toNatClampNeg = k := on_k (by omega)
    have es : h_i h2 1 36 = h_i h6 1 36 := he 1 36 (by decide)
    have w2 : Wf h2 := ⟨fun q hq => by rw [hsh]; exact I6.1.1 q hq, fun q hq => by rw [hr]; exact I6.1.2 q hq⟩
    have m1 : (560 * x3).toInt = 560 * x3.toInt := by rw [tx_mul (by rw [t560]; omega) (by rw [t560]; omega), t560]
    have m2 : (560 * x3 + Int32.ofNat k).toInt = 560 * ((20 * s + m : Nat) : Int) + k := by rw [tx_add (by omega) (by omega), m1, ek, e3]
    have nm := n_nat (x := 560 * x3 + Int32.ofNat k) (by omega)
    have km : (560 * x3 + Int32.ofNat k).toNatClampNeg = 560 * (20 * s + m) + k := by omega
    refine t_X12_text_49 d h2 w2 _ x2 x3 _ _ ⟨fun z => ?_, fun _ => ⟨on_in (by omega) (by decide), dp_in (lo := 0) (hi := 22399) ⟨by show (0 : Int) ≤ _; omega, by show _ ≤ (22399 : Int); omega⟩ (by decide) (by decide), ?_⟩⟩
    · rw [es] at z
      have z := q_le.mp z
      have z' : ps h6 ≤ (Int32.ofNat k).toInt := z
      omega
    · rw [km, nk, on_s (by omega)]
      refine ih (k + 1) _ (by omega) (fun a j na => ?_) hsh hr (F.im (inw_row (by decide +kernel) _)) (fun j hj => ?_) (fun j hj => ?_)
      · rw [im_ne na]; exact he a j na
      · rw [h_i_im]
        by_cases y : j = k
        · rw [if_pos ⟨rfl, by omega⟩, y]; exact he 226 k (by decide)
        · rw [if_neg (fun u => by have := u.2; omega)]; exact c1 j (by omega)
      · rw [h_i_im, if_neg (fun u => by have := u.2; omega)]; exact c2 j hj
theorem c_text (d s : Nat) (hs : s < 2) {h : Hp_} (I : Iv h) (x2 : Int32) : Ci (m_X12_text (d + 80 + 60) 0 0) [.ref 1, .int (Int32.ofNat s), .int x2] h (fun _ h' => Iv h' ∧ Fr wzt h h') := by
  have v1 : vp_in (Int32.ofNat s) 2 := on_in hs (by decide)
  have k1 : (Int32.ofNat s).toNatClampNeg = s := on_k (by omega)
  refine t_X12_text (d + 80) h I.1 _ x2 _ ⟨fun _ => ⟨I, Fr.rf _ _⟩, fun _ => ⟨v1, fun _ => ⟨I, Fr.rf _ _⟩, fun ne => ?_⟩⟩
  refine Ci.mono (c_fault d I _) (fun r h6 k => ?_)
  obtain ⟨I6, F6, g⟩ := k
  refine ⟨I6.1, fun er => ⟨v1, ?_⟩, fun _ => ⟨I6, F6.more (by decide +kernel)⟩⟩
  rw [k1] at ne ⊢
  have e235 : h_i h6 235 s = h_i h 235 s := fr_i F6 (by decide +kernel) s
  have br := dp_rg I6 235 s (show tfa 235 = some (0, 20) by decide +kernel)
  have b0 : 0 ≤ (h_i h6 235 s).toInt := br.1
  have b1 : (h_i h6 235 s).toInt ≤ 20 := br.2
  have nb := n_nat b0
  have t20 : (20 : Int32).toInt = 20 := rfl
  have lt : (h_i h6 235 s).toInt < 20 := by
    rcases Int.lt_or_le (h_i h6 235 s).toInt 20 with u | u
    · exact u
    · exact absurd (Int32.toInt_inj.mp (by rw [← e235, t20]; omega)) ne
  have hm : h_i h6 235 s = Int32.ofNat (h_i h6 235 s).toNatClampNeg := Int32.toInt_inj.mp (by rw [on_j (by omega)]; exact nb.symm)
  have es : (Int32.ofNat s).toInt = (s : Int) := on_j (by omega)
  have m1 : (20 * Int32.ofNat s).toInt = 20 * (s : Int) := by rw [tx_mul (by rw [t20, es]; omega) (by rw [t20, es]; omega), t20, es]
  have e3 : (20 * Int32.ofNat s + h_i h6 235 s).toInt = ((20 * s + (h_i h6 235 s).toNatClampNeg : Nat) : Int) := by rw [tx_add (by omega) (by omega), m1]; omega
  have pc : ∃ f, pcl (s + 1) (h_i h6 226) f 0 (sN h6) := (g er).2 (s + 1) (by omega) (on_s (by omega))
  exact tx_loop (d + 80) s _ hs (by omega) x2 _ I6 hm e3 pc (sN h6) 0 h6 (by omega) (fun _ _ _ => rfl) rfl rfl (F6.more (by decide +kernel)) (fun j hj => absurd hj (by omega)) (fun _ _ => rfl)
theorem c_act (d : Nat) {h : Hp_} (I : Iv h) (x1 : Int32) : Ci (m_X12_act (d + 80 + 61) 0 0) [.ref 1, .int x1] h (fun _ h' => Iv h' ∧ Fr wzt h h') := t_X12_act (d + 80) h I.1 x1 _ (Ci.mono (c_text d 0 (by decide) I x1) (fun _ h' k => ⟨k.1.1, k⟩))
theorem c_payT (d : Nat) {h : Hp_} (I : Iv h) (x1 : Int32) : Ci (m_X12_pay (d + 80 + 61) 0 0) [.ref 1, .int x1] h (fun _ h' => Iv h' ∧ Fr wzt h h') := t_X12_pay (d + 80) h I.1 x1 _ (Ci.mono (c_text d 1 (by decide) I x1) (fun _ h' k => ⟨k.1.1, k⟩))
end
section
/-! beats of the reference: unfolded -/
theorem Iv_step {h : Hp_} {k : Nat} {x a : Int32} (I : Iv h) (bx : rin x.toInt (0, 3)) (ba : rin a.toInt (0, 1440)) (o : ¬ x = 1 → rin a.toInt (0, 15)) : Iv (h_im (h_im h 228 k x) 229 k a) := by
  obtain ⟨j1, j2, j3, j4⟩ := I.2.2.2.2.2
  have e : ∀ b j, b ≠ 228 → b ≠ 229 → h_i (h_im (h_im h 228 k x) 229 k a) b j = h_i h b j := fun b j n1 n2 => by rw [im_ne n2, im_ne n1]
  have e8 : ∀ j, h_i (h_im (h_im h 228 k x) 229 k a) 228 j = if j = k then x else h_i h 228 j := fun j => by
    rw [im_ne (by decide), h_i_im]
    by_cases y : j = k
    · rw [if_pos ⟨rfl, y⟩, if_pos y]
    · rw [if_neg (fun u => y u.2), if_neg y]
  have e9 : ∀ j, h_i (h_im (h_im h 228 k x) 229 k a) 229 j = if j = k then a else h_i h 229 j := fun j => by
    rw [h_i_im, im_ne (by decide)]
    by_cases y : j = k
    · rw [if_pos ⟨rfl, y⟩, if_pos y]
    · rw [if_neg (fun u => y u.2), if_neg y]
  refine ⟨I.1, fun b j => ?_, I.2.2.1, I.2.2.2.1, ?_, fun j hj => ?_, fun j hj hm => ?_, j3, fun t ht => ?_⟩
  · by_cases n1 : b = 228
    · subst n1
      rw [e8 j]
      by_cases y : j = k
      · rw [if_pos y, tfa_tf (show tfa 228 = some (0, 3) by decide +kernel)]; exact bx
      · rw [if_neg y]; exact I.2.1 228 j
    · by_cases n2 : b = 229
      · subst n2
        rw [e9 j]
        by_cases y : j = k
        · rw [if_pos y, tfa_tf (show tfa 229 = some (0, 1440) by decide +kernel)]; exact ba
        · rw [if_neg y]; exact I.2.1 229 j
      · rw [e b j n1 n2]; exact I.2.1 b j
  · obtain ⟨c, N, u, v, l, m⟩ := I.2.2.2.2.1
    exact ⟨c, N, u, v, l, by rw [e 0 0 (by decide) (by decide)]; exact m⟩
  · rw [e8 j] at hj
    rw [e9 j]
    by_cases y : j = k
    · rw [if_pos y] at hj ⊢
      exact o hj
    · rw [if_neg y] at hj ⊢
      exact j1 j hj
  · rw [e 0 7 (by decide) (by decide)] at hm
    exact j2 j hj hm
  · rw [show h_i (h_im (h_im h 228 k x) 229 k a) 231 = h_i h 231 from funext (fun k => e 231 k (by decide) (by decide)), e 232 t (by decide) (by decide)]
    exact j4 t ht
def wzu : List Nat := [1043, 1044, 228999, 229999, 230999]
def Uv (h0 h : Hp_) : Prop := Iv h ∧ Fr wzu h0 h ∧ ∀ k, k < 150 * (h_i h0 1 42).toNatClampNeg → h_i h 228 k = h_i h0 228 k
theorem Uv.n44 {h0 h : Hp_} (U : Uv h0 h) (x : Int32) : Uv h0 (h_im h 1 44 x) := ⟨U.1.im (by rw [show tf 1 44 = rtop by decide +kernel]; exact rtop_in _) (by decide), U.2.1.im (by decide +kernel), fun k hk => by rw [im_ne (by decide)]; exact U.2.2 k hk⟩
theorem Uv.st {h0 h : Hp_} {x3 a b n s0 : Int32} (U : Uv h0 h) (hB : (h_i h0 1 42).toInt ≤ 11) (ne : ¬ h_i h 1 43 = 150) (e0 : s0 = 150 * h_i h 1 42 + h_i h 1 43) (bx : rin x3.toInt (0, 3)) (ba : rin a.toInt (0, 1440)) (o : ¬ x3 = 1 → rin a.toInt (0, 15)) :
    vp_in s0 1800 ∧ Uv h0 (h_im (h_im (h_im (h_im (h_im h 228 s0.toNatClampNeg x3) 229 s0.toNatClampNeg a) 230 s0.toNatClampNeg b) 1 43 ((h_i h 1 43) + 1)) 1 44 n) := by
  obtain ⟨I, F, C⟩ := U
  have e42 : h_i h 1 42 = h_i h0 1 42 := (F.2 1 42 (by decide +kernel)).1
  have r42 := I.2.1 1 42
  rw [show tf 1 42 = (0, 12) by decide +kernel] at r42
  have b0 : 0 ≤ (h_i h 1 42).toInt := r42.1
  have b1 : (h_i h 1 42).toInt ≤ 11 := by rw [e42]; exact hB
  have r43 := I.2.1 1 43
  rw [show tf 1 43 = (0, 150) by decide +kernel] at r43
  have u0 : 0 ≤ (h_i h 1 43).toInt := r43.1
  have u1' : (h_i h 1 43).toInt ≤ 150 := r43.2
  have t150 : (150 : Int32).toInt = 150 := rfl
  have t1 : (1 : Int32).toInt = 1 := rfl
  have u1 : (h_i h 1 43).toInt ≤ 149 := by
    rcases Int.lt_or_le (h_i h 1 43).toInt 150 with z | z
    · omega
    · exact absurd (Int32.toInt_inj.mp (by rw [t150]; omega)) ne
  have m1 : (150 * h_i h 1 42).toInt = 150 * (h_i h 1 42).toInt := by rw [tx_mul (by rw [t150]; omega) (by rw [t150]; omega), t150]
  have m2 : s0.toInt = 150 * (h_i h 1 42).toInt + (h_i h 1 43).toInt := by rw [e0, tx_add (by omega) (by omega), m1]
  have ns := n_nat (x := s0) (by omega)
  have nB := n_nat (x := h_i h 1 42) b0
  have e43 : (h_i h 1 43 + 1).toInt = (h_i h 1 43).toInt + 1 := by rw [tx_add (by rw [t1]; omega) (by rw [t1]; omega), t1]
  refine ⟨dp_in (lo := 0) (hi := 1799) ⟨by show (0 : Int) ≤ _; omega, by show _ ≤ (1799 : Int); omega⟩ (by decide) (by decide), ?_, ?_, fun k hk => ?_⟩
  · exact (((i2xx 230 (by decide +kernel) (by decide) (by decide) (Iv_step I bx ba o) _ b).im (a := 1) (k := 43) (by rw [show tf 1 43 = (0, 150) by decide +kernel, e43]; exact ⟨by show (0 : Int) ≤ _; omega, by show _ ≤ (150 : Int); omega⟩) (by decide)).im (by rw [show tf 1 44 = rtop by decide +kernel]; exact rtop_in _) (by decide))
  · exact ((((F.im (inw_row (by decide +kernel) _)).im (inw_row (by decide +kernel) _)).im (inw_row (by decide +kernel) _)).im (by decide +kernel)).im (by decide +kernel)
  · rw [← e42] at hk
    rw [im_ne (by decide), im_ne (by decide), im_ne (by decide), im_ne (by decide), h_i_im, if_neg (fun u => by have := u.2; omega)]
    exact C k (by rw [← e42]; exact hk)
theorem on_2 {n : Nat} (h : n < 100000) : Int32.ofNat n + 2 = Int32.ofNat (n + 2) := by
  have t : (2 : Int32).toInt = 2 := rfl
  have a := on_j (n := n) (by omega)
  exact Int32.toInt_inj.mp (by rw [tx_add (by rw [t]; omega) (by rw [t]; omega), t, on_j (n := n + 2) (by omega)]; omega)
theorem on_3 {n : Nat} (h : n < 100000) : Int32.ofNat n + 3 = Int32.ofNat (n + 3) := by
  have t : (3 : Int32).toInt = 3 := rfl
  have a := on_j (n := n) (by omega)
  exact Int32.toInt_inj.mp (by rw [tx_add (by rw [t]; omega) (by rw [t]; omega), t, on_j (n := n + 3) (by omega)]; omega)
def Uk (h0 : Hp_) (j : Nat) : Int32 → Hp_ → Prop := fun r h' => Uv h0 h' ∧ (¬ r = 0 → h_i h' 1 44 = Int32.ofNat j)
theorem uf_loop (h0 : Hp_) (N : Nat) (hN : h_i h0 1 36 = Int32.ofNat N) (lN : N ≤ 559) (hB : (h_i h0 1 42).toInt ≤ 11) (g d : Nat)
    (B : ∀ g', g = g' + 1 → ∀ (f i j : Nat) (h : Hp_), sqS (stD (h_i h0 226) g') f i j → j ≤ N → (j = N ∨ h_i h0 226 j = 5) → Uv h0 h → Ci (m_X12_unfold (d + g + 0) 0 0) [.ref 1, .int (Int32.ofNat i), .int 1] h (Uk h0 j)) (j : Nat) (hj : j ≤ N) (ej : j = N ∨ h_i h0 226 j = 5) :
    ∀ (f i : Nat) (h : Hp_), sqS (stD (h_i h0 226) g) f i j → Uv h0 h → h_i h 1 44 = Int32.ofNat i → AW (m_X12_unfold (d + g + 1) 0 0) 0 0 5 [(0, .ref 1), (2, .int 1)] [] h (kI (Uk h0 j)) := by
  have oN := on_j (n := N) (by omega)
  intro f
  induction f with
  | zero =>
    intro i h q U en
    have q : i = j := q
    subst q
    have e36 : h_i h 1 36 = Int32.ofNat N := by rw [(U.2.1.2 1 36 (by decide +kernel)).1]; exact hN
    have e6 : ∀ k, h_i h 226 k = h_i h0 226 k := fun k => fr_i U.2.1 (by decide +kernel) k
    have oi := on_j (n := i) (by omega)
    have ki := on_k (n := i) (by omega)
    have fin : Uk h0 i 1 h := ⟨U, fun _ => en⟩
    refine t_X12_unfold_5 (d + g) h U.1.1 1 _ ⟨fun _ => fin, fun z => ?_⟩
    rw [e36, en] at z
    have z := q_nle z
    have c5 : h_i h0 226 i = 5 := by
      rcases ej with u | u
      · omega
      · exact u
    rw [en, ki, e6]
    exact ⟨on_in (by omega) (by decide), fun _ => fin, fun y => absurd c5 y⟩
  | succ f ih =>
    intro i h q U en
    obtain ⟨i2, st, q⟩ := q
    have l1 := stD_lt st
    have l2 := sqS_le (fun _ _ t => stD_lt t) q
    have e36 : h_i h 1 36 = Int32.ofNat N := by rw [(U.2.1.2 1 36 (by decide +kernel)).1]; exact hN
    have e6 : ∀ k, h_i h 226 k = h_i h0 226 k := fun k => fr_i U.2.1 (by decide +kernel) k
    have oi := on_j (n := i) (by omega)
    have ki := on_k (n := i) (by omega)
    have vi : vp_in (Int32.ofNat i) 560 := on_in (by omega) (by decide)
    refine t_X12_unfold_5 (d + g) h U.1.1 1 _ ⟨fun z => ?_, fun _ => ?_⟩
    · rw [e36, en] at z
      have z := q_le.mp z
      omega
    rw [en, ki, e6]
    have base : stB (h_i h0 226) i i2 → ¬ h_i h0 226 i = 5 ∧ ¬ h_i h0 226 i = 4 ∧ (¬ h_i h 1 43 = 150 → AW (m_X12_unfold (d + g + 1) 0 0) 0 0 158 [(0, .ref 1), (2, .int 1), (3, .int (h_i h0 226 i))] [.int ((150 * (h_i h 1 42)) + (h_i h 1 43))] h (kI (Uk h0 j))) := by
      intro s
      have n1 : Int32.ofNat i + 1 = Int32.ofNat (i + 1) := on_s (by omega)
      have v1 : i + 1 < 560 → vp_in (Int32.ofNat (i + 1)) 560 := fun l => on_in l (by decide)
      rcases s with ⟨a, b, c⟩ | ⟨a, b, c⟩ | ⟨a, b, b', c⟩ | ⟨a, c⟩
      · refine ⟨by rw [a]; decide, by rw [a]; decide, fun ne => ?_⟩
        rw [a]
        have ka := on_k (n := i + 1) (by omega)
        have S := U.st (x3 := 0) (a := h_i h 226 (i + 1)) (b := 0) (n := Int32.ofNat (i + 2)) hB ne rfl ⟨by decide, by decide⟩ (by rw [e6]; exact ⟨b.1, by have : (h_i h0 226 (i + 1)).toInt ≤ 15 := b.2; show _ ≤ (1440 : Int); omega⟩) (fun _ => by rw [e6]; exact b)
        generalize ((150 * (h_i h 1 42)) + (h_i h 1 43)) = s0 at S ⊢
        have v := S.1
        refine t_X12_unfold_158 (d + g) h U.1.1 1 0 s0 _ ⟨fun y => absurd y (by decide), fun _ => ⟨v, fun _ => ⟨?_, v, fun _ => ⟨v, fun _ => ⟨fun _ => ?_, fun y => absurd y (by decide)⟩, fun y => absurd y (by decide)⟩, fun y => absurd y (by decide)⟩, fun y => absurd y (by decide)⟩⟩
        · rw [en, n1]; exact v1 (by omega)
        · rw [en, n1, ka, on_2 (by omega)]
          exact ih (i + 2) _ (by rw [← c]; exact q) S.2 im_at
      · refine ⟨by rw [a]; decide, by rw [a]; decide, fun ne => ?_⟩
        rw [a]
        have ka := on_k (n := i + 1) (by omega)
        have S := U.st (x3 := 1) (a := h_i h 226 (i + 1)) (b := 0) (n := Int32.ofNat (i + 2)) hB ne rfl ⟨by decide, by decide⟩ (by rw [e6]; exact ⟨by have : 1 ≤ (h_i h0 226 (i + 1)).toInt := b.1; show (0 : Int) ≤ _; omega, by have : (h_i h0 226 (i + 1)).toInt ≤ 240 := b.2; show _ ≤ (1440 : Int); omega⟩) (fun y => absurd rfl y)
        generalize ((150 * (h_i h 1 42)) + (h_i h 1 43)) = s0 at S ⊢
        have v := S.1
        refine t_X12_unfold_158 (d + g) h U.1.1 1 1 s0 _ ⟨fun y => absurd y (by decide), fun _ => ⟨v, fun _ => ⟨?_, v, fun _ => ⟨v, fun _ => ⟨fun _ => ?_, fun y => absurd y (by decide)⟩, fun y => absurd y (by decide)⟩, fun y => absurd y (by decide)⟩, fun y => absurd y (by decide)⟩⟩
        · rw [en, n1]; exact v1 (by omega)
        · rw [en, n1, ka, on_2 (by omega)]
          exact ih (i + 2) _ (by rw [← c]; exact q) S.2 im_at
      · refine ⟨by rw [a]; decide, by rw [a]; decide, fun ne => ?_⟩
        rw [a]
        have ka := on_k (n := i + 1) (by omega)
        have kb := on_k (n := i + 2) (by omega)
        have S := U.st (x3 := 2) (a := h_i h 226 (i + 1)) (b := h_i h 226 (i + 2)) (n := Int32.ofNat (i + 3)) hB ne rfl ⟨by decide, by decide⟩ (by rw [e6]; exact ⟨b.1, by have : (h_i h0 226 (i + 1)).toInt ≤ 15 := b.2; show _ ≤ (1440 : Int); omega⟩) (fun _ => by rw [e6]; exact b)
        generalize ((150 * (h_i h 1 42)) + (h_i h 1 43)) = s0 at S ⊢
        have v := S.1
        refine t_X12_unfold_158 (d + g) h U.1.1 1 2 s0 _ ⟨fun y => absurd y (by decide), fun _ => ⟨v, fun _ => ⟨?_, v, fun y => absurd rfl y, fun _ => ⟨?_, v, fun _ => ⟨fun y => absurd rfl y, fun _ => ?_⟩, fun y => absurd y (by decide)⟩⟩, fun y => absurd y (by decide)⟩⟩
        · rw [en, n1]; exact v1 (by omega)
        · rw [en, on_2 (by omega)]; exact on_in (by omega) (by decide)
        · rw [en, n1, ka, on_2 (by omega), kb, on_3 (by omega)]
          exact ih (i + 3) _ (by rw [← c]; exact q) S.2 im_at
      · refine ⟨by rw [a]; decide, by rw [a]; decide, fun ne => ?_⟩
        rw [a]
        have S := U.st (x3 := 3) (a := 0) (b := 0) (n := Int32.ofNat (i + 1)) hB ne rfl ⟨by decide, by decide⟩ ⟨by decide, by decide⟩ (fun _ => ⟨by decide, by decide⟩)
        generalize ((150 * (h_i h 1 42)) + (h_i h 1 43)) = s0 at S ⊢
        have v := S.1
        refine t_X12_unfold_158 (d + g) h U.1.1 1 3 s0 _ ⟨fun y => absurd y (by decide), fun _ => ⟨v, fun y => absurd rfl y, fun _ => ⟨v, fun _ => ⟨v, fun y => absurd rfl y, fun _ => ?_⟩, fun y => absurd y (by decide)⟩⟩⟩
        rw [en, n1]
        exact ih (i + 1) _ (by rw [← c]; exact q) S.2 im_at
    have nb : ∀ s : stB (h_i h0 226) i i2, vp_in (Int32.ofNat i) 560 ∧ ((h_i h0 226 i = 5 → Uk h0 j 1 h) ∧ (¬ h_i h0 226 i = 5 → vp_in (Int32.ofNat i) 560 ∧ ((¬ h_i h0 226 i = 4 → (¬ (h_i h 1 43) = 150 → (¬ 12 = (h_i h 1 42) → AW (m_X12_unfold (d + g + 1) 0 0) 0 0 158 [(0, .ref 1), (2, .int 1), (3, .int (h_i h0 226 i))] [.int ((150 * (h_i h 1 42)) + (h_i h 1 43))] h (kI (Uk h0 j))) ∧ (12 = (h_i h 1 42) → AW (m_X12_unfold (d + g + 1) 0 0) 0 0 158 [(0, .ref 1), (2, .int 1), (3, .int (h_i h0 226 i))] [.int 0] h (kI (Uk h0 j)))) ∧ ((h_i h 1 43) = 150 → Uk h0 j 0 h)) ∧ (h_i h0 226 i = 4 → Ci (m_X12_unfold (d + g + 0) 0 0) [.ref 1, .int ((Int32.ofNat i) + 1), .int 1] h (fun r10 h8 => Wf h8 ∧ ((¬ r10 = 0 → vp_in ((h_i h8 1 44) + 1) 560 ∧ (AW (m_X12_unfold (d + g + 1) 0 0) 0 0 84 [(0, .ref 1), (2, .int 1), (4, .int ((Int32.ofNat i) + 1)), (5, .int (h_i h8 1 44)), (6, .int (h_i h8 226 (((h_i h8 1 44) + 1) : Int32).toNatClampNeg)), (7, .int 1)] [] h8 (kI (Uk h0 j)))) ∧ (r10 = 0 → Uk h0 j 0 h8))))))) := by
      intro s
      obtain ⟨b5, b4, b⟩ := base s
      refine ⟨vi, fun y => absurd y b5, fun _ => ⟨vi, fun _ => ⟨fun ne => ⟨fun _ => b ne, fun y => ?_⟩, fun _ => ⟨U, fun z => absurd rfl z⟩⟩, fun y => absurd y b4⟩⟩
      have e42 : h_i h 1 42 = h_i h0 1 42 := (U.2.1.2 1 42 (by decide +kernel)).1
      rw [← e42, ← y] at hB
      exact absurd hB (by decide)
    cases g with
    | zero => exact nb st
    | succ g =>
      rcases st with s | ⟨c4, f2, j2, w2, c5, tm, ei⟩
      · exact nb s
      · have l3 := sqS_le (fun _ _ t => stD_lt t) w2
        have n1 : Int32.ofNat i + 1 = Int32.ofNat (i + 1) := on_s (by omega)
        refine ⟨vi, fun y => absurd (c4.symm.trans y) (by decide), fun _ => ⟨vi, fun y => absurd c4 y, fun _ => ?_⟩⟩
        rw [n1]
        refine Ci.mono (B g rfl f2 (i + 1) j2 h w2 (by omega) (Or.inr c5) U) (fun r h8 k => ⟨k.1.1.1, fun nr => ?_, fun er => ⟨k.1, fun y => absurd rfl y⟩⟩)
        have e44 := k.2 nr
        have n2 : Int32.ofNat j2 + 1 = Int32.ofNat (j2 + 1) := on_s (by omega)
        have k2 := on_k (n := j2 + 1) (by omega)
        rw [e44, n2, k2, fr_i k.1.2.1 (a := 226) (by decide +kernel)]
        refine ⟨on_in (by omega) (by decide), ?_⟩
        have t0 : 1 ≤ (h_i h0 226 (j2 + 1)).toInt := tm.1
        have t1 : (h_i h0 226 (j2 + 1)).toInt ≤ 20 := tm.2
        generalize h_i h0 226 (j2 + 1) = x6 at t0 t1 ⊢
        have o1 : (1 : Int32).toInt = 1 := rfl
        have out : ∀ h9, Uv h0 h9 → AW (m_X12_unfold (d + (g + 1) + 1) 0 0) 0 0 5 [(0, .ref 1), (2, .int 1)] [] (h_im h9 1 44 (Int32.ofNat j2 + 2)) (kI (Uk h0 j)) := by
          intro h9 U9
          rw [on_2 (by omega)]
          exact ih (j2 + 2) _ (by rw [← ei]; exact q) (U9.n44 _) im_at
        have tl : ∀ (n : Nat) (x7 : Int32) (h9 : Hp_), Uv h0 h9 → 1 ≤ x7.toInt → x6.toInt - x7.toInt ≤ n → AW (m_X12_unfold (d + (g + 1) + 1) 0 0) 0 0 84 [(0, .ref 1), (2, .int 1), (4, .int (Int32.ofNat (i + 1))), (5, .int (Int32.ofNat j2)), (6, .int x6), (7, .int x7)] [] h9 (kI (Uk h0 j)) := by
          intro n
          induction n with
          | zero =>
            intro x7 h9 U9 a7 m
            refine t_X12_unfold_84 (d + (g + 1)) h9 U9.1.1 1 _ _ x6 x7 _ ⟨fun _ => out h9 U9, fun z => ?_⟩
            have z := q_nle z
            omega
          | succ n ih2 =>
            intro x7 h9 U9 a7 m
            refine t_X12_unfold_84 (d + (g + 1)) h9 U9.1.1 1 _ _ x6 x7 _ ⟨fun _ => out h9 U9, fun z => ?_⟩
            have z := q_nle z
            have e7 : (x7 + 1).toInt = x7.toInt + 1 := by rw [tx_add (by rw [o1]; omega) (by rw [o1]; omega), o1]
            refine Ci.mono (B g rfl f2 (i + 1) j2 h9 w2 (by omega) (Or.inr c5) U9) (fun r h10 k => ⟨k.1.1.1, fun _ => ih2 _ h10 k.1 (by omega) (by omega), fun _ => ⟨k.1, fun y => absurd rfl y⟩⟩)
        exact tl 20 1 h8 k.1 (by decide) (by rw [o1]; omega)
theorem c_unfold (h0 : Hp_) (N : Nat) (hN : h_i h0 1 36 = Int32.ofNat N) (lN : N ≤ 559) (hB : (h_i h0 1 42).toInt ≤ 11) : ∀ (g d f i j : Nat) (h : Hp_), sqS (stD (h_i h0 226) g) f i j → j ≤ N → (j = N ∨ h_i h0 226 j = 5) → Uv h0 h → Ci (m_X12_unfold (d + g + 1) 0 0) [.ref 1, .int (Int32.ofNat i), .int 1] h (Uk h0 j) := by
  intro g
  induction g with
  | zero =>
    intro d f i j h q hj ej U
    exact t_X12_unfold (d + 0) h U.1.1 _ 1 _ (uf_loop h0 N hN lN hB 0 d (fun g' e => absurd e (by omega)) j hj ej f i _ q (U.n44 _) im_at)
  | succ g ih =>
    intro d f i j h q hj ej U
    exact t_X12_unfold (d + (g + 1)) h U.1.1 _ 1 _ (uf_loop h0 N hN lN hB (g + 1) d (fun g' e f i j h q hj ej U => by
      have e : g = g' := by omega
      subst e
      exact ih d f i j h q hj ej U) j hj ej f i _ q (U.n44 _) im_at)
end
section
/-! beat of the reference -/
theorem mP_same {wh wh' : Nat → Int32} {b : Nat} : ∀ {f s : Nat}, (∀ x, 150 * b + s ≤ x → x < 150 * b + s + f → wh' x = wh x) → mP wh' b f s = mP wh b f s
  | 0, _, _ => rfl
  | f + 1, s, e => by
    show (if wh' (150 * b + s) = 2 then 1 else 0) + mP wh' b f (s + 1) = (if wh (150 * b + s) = 2 then 1 else 0) + mP wh b f (s + 1)
    rw [e (150 * b + s) (by omega) (by omega), mP_same (fun x u v => e x (by omega) (by omega))]
theorem J2_beat {h h' : Hp_} (I : Iv h) (er : ∀ a, mrow a = true → ∀ k, h_i h' a k = h_i h a k) (e7 : ∀ k, k < (h_i h 1 42).toNatClampNeg → h_i h' 227 k = h_i h 227 k) (e8 : ∀ k, k < 150 * (h_i h 1 42).toNatClampNeg → h_i h' 228 k = h_i h 228 k) (le : (h_i h 1 42).toInt ≤ (h_i h' 1 42).toInt) (em : h_i h' 1 7 = h_i h 1 7) (J : J2 h) : J2 h' := by
  intro c hc hm
  obtain ⟨j1, j2⟩ := J c hc (by rw [← em]; exact hm)
  have r8 := er 208 (by decide) c
  have r10 := er 210 (by decide) c
  have r12 := er 212 (by decide) c
  have r13 := er 213 (by decide) c
  have r16 := er 216 (by decide) c
  refine ⟨fun z => ?_, fun z => ?_⟩
  · rw [r8] at z
    rw [r10]; exact j1 z
  · rw [r8] at z
    obtain ⟨k1, k2, k3, k4, k5⟩ := j2 z
    have n42 := n_nat (x := h_i h 1 42) (by have := I.2.1 1 42; rw [show tf 1 42 = (0, 12) by decide +kernel] at this; exact this.1)
    have g12 := dp_rg I 212 c (show tfa 212 = some (0, 11) by decide +kernel)
    have n12 := n_nat (x := h_i h 212 c) g12.1
    have lb : nB h c < (h_i h 1 42).toNatClampNeg := by
      show (h_i h 212 c).toNatClampNeg < _
      omega
    have eB : nB h' c = nB h c := by show (h_i h' 212 c).toNatClampNeg = _; rw [r12]
    have eS : nS h' c = nS h c := by show (h_i h' 213 c).toNatClampNeg = _; rw [r13]
    have eZ : nZ h' c = nZ h c := by
      show (h_i h' 227 (nB h' c)).toNatClampNeg = _
      rw [eB, e7 _ lb]
    have gz := dp_rg I 227 (nB h c) (show tfa 227 = some (0, 150) by decide +kernel)
    have nz := n_nat (x := h_i h 227 (nB h c)) gz.1
    have z1 : (h_i h 227 (nB h c)).toInt ≤ 150 := gz.2
    have lz : nZ h c ≤ 150 := by show (h_i h 227 (nB h c)).toNatClampNeg ≤ 150; omega
    have m1 : mP (h_i h' 228) (nB h c) (nZ h c - (nS h c + 1)) (nS h c + 1) = mP (h_i h 228) (nB h c) (nZ h c - (nS h c + 1)) (nS h c + 1) := mP_same (fun x u v => e8 x (by omega))
    have m2 : mP (h_i h' 228) (nB h c) (nZ h c - nS h c) (nS h c) = mP (h_i h 228) (nB h c) (nZ h c - nS h c) (nS h c) := mP_same (fun x u v => e8 x (by omega))
    rw [eB, eS, eZ, r13, r12, r16, r10, m1, m2]
    exact ⟨k1, k2, by omega, k4, k5⟩
end
section
/-! answers that stay the same: what a text tells; ranks, states, causes, texts in force -/
theorem pst_no {s : Nat} {cd : Nat → Int32} {i n : Nat} {q : Nat × Nat} (c : cd i = 2 ∨ cd i = 3) (h : pst s cd i n = some q) : False := by
  obtain ⟨i', n'⟩ := q
  rcases pst_0 h with ⟨a, _⟩ | ⟨a, _⟩ | ⟨a, _⟩ | ⟨a, _⟩
  · rw [a] at c; exact absurd c (by decide)
  · rw [a] at c; exact absurd c (by decide)
  · rw [a] at c; exact absurd c (by decide)
  · exact c.elim a.2.2.2.1 a.2.2.2.2
theorem prun_det {s : Nat} {cd : Nat → Int32} : ∀ {g g' i n j j' m m' : Nat}, prun s cd g i n j m → prun s cd g' i n j' m' → (cd j = 2 ∨ cd j = 3) → (cd j' = 2 ∨ cd j' = 3) → g = g' ∧ j = j'
  | 0, 0, i, n, j, j', m, m', a, b, _, _ => ⟨rfl, a.1.symm.trans b.1⟩
  | 0, g' + 1, i, n, j, j', m, m', a, b, c, _ => by
    obtain ⟨i', n', p, _⟩ := b
    rw [← a.1] at c
    exact (pst_no c p).elim
  | g + 1, 0, i, n, j, j', m, m', a, b, _, c => by
    obtain ⟨i', n', p, _⟩ := a
    rw [← b.1] at c
    exact (pst_no c p).elim
  | g + 1, g' + 1, i, n, j, j', m, m', a, b, c, c' => by
    obtain ⟨i1, n1, p, a⟩ := a
    obtain ⟨i2, n2, q, b⟩ := b
    rw [p] at q
    have q := Option.some.inj q
    have e1 : i1 = i2 := congrArg Prod.fst q
    have e2 : n1 = n2 := congrArg Prod.snd q
    subst e1 e2
    have r := prun_det a b c c'
    exact ⟨by rw [r.1], r.2⟩
theorem tel_ex {s : Nat} {cd lt : Nat → Int32} : ∀ {f i e : Nat}, pcl s cd f i e → ∃ r, tel s cd lt f i e r
  | 0, _, _, _ => ⟨0, rfl⟩
  | f + 1, i, e, h => by
    obtain ⟨j, k, ⟨g1, p1⟩, c2, ⟨g2, p2⟩, c3, q⟩ := h
    by_cases z : wev cd lt g1 i 0 (fun _ => 0) = 0
    · obtain ⟨r, t⟩ := tel_ex (lt := lt) q
      exact ⟨r, j, k, g1, g2, p1, c2, p2, c3, Or.inr ⟨z, t⟩⟩
    · exact ⟨_, j, k, g1, g2, p1, c2, p2, c3, Or.inl ⟨z, rfl⟩⟩
theorem pcl_lt {s : Nat} {cd : Nat → Int32} {f i e : Nat} (h : pcl s cd (f + 1) i e) : i < e := by
  obtain ⟨j, k, ⟨g1, p1⟩, _, ⟨g2, p2⟩, _, q⟩ := h
  have l1 := prun_le p1
  have l2 := prun_le p2
  have l3 := pcl_le q
  omega
theorem tel_det {s : Nat} {cd lt lt' : Nat → Int32} (hl : ∀ c, okl s c = true → lt c.toNatClampNeg = lt' c.toNatClampNeg) : ∀ {f f' i e : Nat} {r r' : Int32}, pcl s cd f i e → pcl s cd f' i e → tel s cd lt f i e r → tel s cd lt' f' i e r' → r = r'
  | 0, 0, _, _, _, _, _, _, t, t' => by
    have t : _ = _ := t
    have t' : _ = _ := t'
    rw [t, t']
  | 0, f' + 1, i, e, _, _, a, b, _, _ => by
    have a : i = e := a
    have := pcl_lt b
    omega
  | f + 1, 0, i, e, _, _, a, b, _, _ => by
    have b : i = e := b
    have := pcl_lt a
    omega
  | f + 1, f' + 1, i, e, r, r', a, b, t, t' => by
    obtain ⟨j, k, ⟨g1, p1⟩, c2, ⟨g2, p2⟩, c3, q⟩ := a
    obtain ⟨j', k', ⟨g1', p1'⟩, c2', ⟨g2', p2'⟩, c3', q'⟩ := b
    obtain ⟨u, v, w1, w2, u1, u2, u3, u4, u5⟩ := t
    obtain ⟨u', v', w1', w2', u1', u2', u3', u4', u5'⟩ := t'
    obtain ⟨_, e1⟩ := prun_det p1 p1' (Or.inl c2) (Or.inl c2')
    obtain ⟨_, e2⟩ := prun_det p1 u1 (Or.inl c2) (Or.inl u2)
    obtain ⟨_, e3⟩ := prun_det p1 u1' (Or.inl c2) (Or.inl u2')
    subst e1 e2 e3
    obtain ⟨_, d1⟩ := prun_det p2 p2' (Or.inr c3) (Or.inr c3')
    obtain ⟨_, d2⟩ := prun_det p2 u3 (Or.inr c3) (Or.inr u4)
    obtain ⟨_, d3⟩ := prun_det p2 u3' (Or.inr c3) (Or.inr u4')
    subst d1 d2 d3
    obtain ⟨x1, _⟩ := prun_det u1 u1' (Or.inl c2) (Or.inl c2)
    obtain ⟨x2, _⟩ := prun_det u3 u3' (Or.inr c3) (Or.inr c3)
    subst x1 x2
    have y1 := wev_ind (lt := lt) (lt' := lt') hl _ _ _ (fun _ => 0) (fun _ => 0) u1 (fun _ _ => rfl)
    have y2 := wev_ind (lt := lt) (lt' := lt') hl _ _ _ (fun _ => 0) (fun _ => 0) u3 (fun _ _ => rfl)
    rcases u5 with ⟨z, t⟩ | ⟨z, t⟩
    · rcases u5' with ⟨z', t'⟩ | ⟨z', t'⟩
      · rw [t, t', y2]
      · rw [y1] at z; exact absurd z' z
    · rcases u5' with ⟨z', t'⟩ | ⟨z', t'⟩
      · rw [y1] at z; exact absurd z z'
      · exact tel_det hl q q' t t'
/-- all that payOf reads stays; what book writes may change -/
def wzE : List Nat := [1052, 1127, 236999, 237999, 293999, 294999, 295999, 296999, 297999]
def wzL : List Nat := [1052, 236999, 237999]
def Dp (r : Int32) (h2 : Hp_) : Int32 → Hp_ → Prop := fun r' h' => r' = r ∧ Iv h' ∧ Fr wzL h2 h'
theorem c_tell2 (d s : Nat) (hs : s < 2) {h : Hp_} (I : Iv h) (x2 : Int32) (b2 : rin x2.toInt (-1, 19)) : Ci (m_X12_tell (d + 4) 0 0) [.ref 1, .int (Int32.ofNat s), .int x2] h (fun r h' => Iv h' ∧ Fr wzw h h' ∧ ((x2 = -1 ∧ r = 0) ∨ (¬ x2 = -1 ∧ ∃ f, pcl (s + 1) (h_i h 231) f (560 * (20 * s + x2.toNatClampNeg)) (560 * (20 * s + x2.toNatClampNeg) + (h_i h 232 (20 * s + x2.toNatClampNeg)).toNatClampNeg) ∧ tel (s + 1) (h_i h 231) (h_i h 236) f (560 * (20 * s + x2.toNatClampNeg)) (560 * (20 * s + x2.toNatClampNeg) + (h_i h 232 (20 * s + x2.toNatClampNeg)).toNatClampNeg) r))) := by
  have c3 : -1 ≤ x2.toInt := b2.1
  have c4 : x2.toInt ≤ 19 := b2.2
  have t20 : (20 : Int32).toInt = 20 := rfl
  have t560 : (560 : Int32).toInt = 560 := rfl
  have tm : (-1 : Int32).toInt = -1 := rfl
  have es : (Int32.ofNat s).toInt = (s : Int) := on_j (by omega)
  refine t_X12_tell d h I.1 _ x2 _ ⟨fun z => ?_, fun z => ⟨I, Fr.rf _ _, Or.inl ⟨z, rfl⟩⟩⟩
  have c5 : 0 ≤ x2.toInt := by
    rcases Int.lt_or_le x2.toInt 0 with y | y
    · exact absurd (Int32.toInt_inj.mp (by rw [tm]; omega)) z
    · exact y
  have nx := n_nat c5
  have m1 : (20 * Int32.ofNat s).toInt = 20 * (s : Int) := by rw [tx_mul (by rw [t20, es]; omega) (by rw [t20, es]; omega), t20, es]
  have et : 20 * Int32.ofNat s + x2 = Int32.ofNat (20 * s + x2.toNatClampNeg) := by
    refine Int32.toInt_inj.mp ?_
    rw [on_j (by omega), tx_add (by omega) (by omega), m1]
    omega
  rw [et]
  have ht : 20 * s + x2.toNatClampNeg < 40 := by omega
  have hq : (20 * s + x2.toNatClampNeg) / 20 + 1 = s + 1 := by omega
  generalize 20 * s + x2.toNatClampNeg = t at ht hq ⊢
  have m3 : 560 * Int32.ofNat t = Int32.ofNat (560 * t) := by
    refine Int32.toInt_inj.mp ?_
    rw [tx_mul (by rw [t560, on_j (by omega)]; omega) (by rw [t560, on_j (by omega)]; omega), t560, on_j (by omega), on_j (by omega)]
    omega
  rw [m3]
  obtain ⟨f, hf⟩ := I.2.2.2.2.2.2.2.2 t ht
  rw [hq] at hf
  have sz : rin (h_i h 232 t).toInt (0, 560) := by
    have := I.2.1 232 t
    rwa [tfa_tf (show tfa 232 = some (0, 560) by decide +kernel)] at this
  have s1 : (h_i h 232 t).toInt ≤ 560 := sz.2
  have en : ((h_i h 232 t).toNatClampNeg : Int) = (h_i h 232 t).toInt := n_nat sz.1
  have W0 : Ws h (h_i h 231) (h_i h 236) (560 * t) (h_im h 1 52 (Int32.ofNat (560 * t))) :=
    ⟨I.im (by rw [show tf 1 52 = rtop by decide +kernel]; exact rtop_in _) (by decide), (Fr.rf _ _).im (by decide +kernel), funext (fun k => by rw [h_i_im, if_neg (fun z => absurd z.1 (by decide))]), funext (fun k => by rw [h_i_im, if_neg (fun z => absurd z.1 (by decide))]), by rw [h_i_im, if_pos ⟨rfl, rfl⟩]⟩
  refine AW.mono (tl_loop d (s + 1) t (560 * t + (h_i h 232 t).toNatClampNeg) h (h_i h 231) (h_i h 236) ht (by omega) f (560 * t) _ hf W0 rfl) (fun v h' q => ?_)
  obtain ⟨r, ev, I', F', T⟩ := q
  exact ⟨r, ev, I', F', Or.inr ⟨z, f, hf, T⟩⟩
/-- a text told: the same for the same letters -/
theorem d_tell (d s : Nat) (hs : s < 2) {h : Hp_} (I : Iv h) (x2 : Int32) (b2 : rin x2.toInt (-1, 19)) (lt : Nat → Int32) : ∃ r, ∀ h2, Iv h2 → Fr wzE h h2 → (∀ c, okl (s + 1) c = true → h_i h2 236 c.toNatClampNeg = lt c.toNatClampNeg) → Ci (m_X12_tell (d + 4) 0 0) [.ref 1, .int (Int32.ofNat s), .int x2] h2 (Dp r h2) := by
  by_cases z : x2 = -1
  · refine ⟨0, fun h2 I2 F hl => Ci.mono (c_tell2 d s hs I2 x2 b2) (fun r' h' k => ⟨?_, k.1, k.2.1.more (by decide +kernel)⟩)⟩
    rcases k.2.2 with u | u
    · exact u.2
    · exact absurd z u.1
  · have c3 : -1 ≤ x2.toInt := b2.1
    have c4 : x2.toInt ≤ 19 := b2.2
    have tm : (-1 : Int32).toInt = -1 := rfl
    have c5 : 0 ≤ x2.toInt := by
      rcases Int.lt_or_le x2.toInt 0 with y | y
      · exact absurd (Int32.toInt_inj.mp (by rw [tm]; omega)) z
      · exact y
    have nx := n_nat c5
    obtain ⟨f, hf⟩ := I.2.2.2.2.2.2.2.2 (20 * s + x2.toNatClampNeg) (by omega)
    rw [show (20 * s + x2.toNatClampNeg) / 20 + 1 = s + 1 by omega] at hf
    obtain ⟨r, hr⟩ := tel_ex (lt := lt) hf
    refine ⟨r, fun h2 I2 F hl => Ci.mono (c_tell2 d s hs I2 x2 b2) (fun r' h' k => ⟨?_, k.1, k.2.1.more (by decide +kernel)⟩)⟩
    rcases k.2.2 with u | ⟨_, f', hf', t'⟩
    · exact absurd u.1 z
    · rw [show h_i h2 231 = h_i h 231 from funext (fun k => fr_i F (by decide +kernel) k), fr_i F (a := 232) (by decide +kernel)] at hf' t'
      exact tel_det hl hf' hf t' hr
theorem d_rankOn (d : Nat) {h : Hp_} (I : Iv h) (x1 x2 x3 : Int32) (v1 : vp_in x1 12) : ∃ r, ∀ h2, Iv h2 → Fr wzE h h2 → Ci (m_X12_rankOn (d + 0) 0 0) [.ref 1, .int x1, .int x2, .int x3] h2 (fun r' h' => r' = r ∧ h' = h2) := by
  have c29 := I.2.1 1 29
  rw [show tf 1 29 = (0, 40) by decide +kernel] at c29
  have b0 : 0 ≤ (h_i h 1 29).toInt := c29.1
  have b1 : (h_i h 1 29).toInt ≤ 40 := c29.2
  have nc := n_nat b0
  have lp : ∀ (n k : Nat) (x4 x5 : Int32), k + n = (h_i h 1 29).toNatClampNeg → ∃ r, ∀ h2, Iv h2 → Fr wzE h h2 → AW (m_X12_rankOn (d + 0) 0 0) 0 0 14 [(0, .ref 1), (1, .int x1), (2, .int x2), (3, .int x3), (4, .int x4), (5, .int x5), (6, .int (Int32.ofNat k))] [] h2 (kI (fun r' h' => r' = r ∧ h' = h2)) := by
    intro n
    induction n with
    | zero =>
      intro k x4 x5 e
      have ok := on_j (n := k) (by omega)
      refine ⟨x4, fun h2 I2 F => t_X12_rankOn_14 d h2 I2.1 x1 x2 x3 x4 x5 _ _ ⟨fun _ => ⟨rfl, rfl⟩, fun z => ?_⟩⟩
      rw [(F.2 1 29 (by decide +kernel)).1] at z
      have z := q_nle z
      omega
    | succ n ih =>
      intro k x4 x5 e
      have ok := on_j (n := k) (by omega)
      have kk := on_k (n := k) (by omega)
      have v : vp_in (Int32.ofNat k) 40 := on_in (by omega) (by decide)
      by_cases P : h_i h 221 k = x1 ∧ ¬ x3 < h_i h 224 k ∧ ¬ x2 < h_i h 223 k ∧ ¬ h_i h 223 k < x5
      · obtain ⟨r, hr⟩ := ih (k + 1) (h_i h 222 k) (h_i h 223 k) (by omega)
        refine ⟨r, fun h2 I2 F => t_X12_rankOn_14 d h2 I2.1 x1 x2 x3 x4 x5 _ _ ⟨fun z => ?_, fun _ => ?_⟩⟩
        · rw [(F.2 1 29 (by decide +kernel)).1] at z
          have z := q_le.mp z
          omega
        · rw [kk, fr_i F (a := 221) (by decide +kernel) k, fr_i F (a := 222) (by decide +kernel) k, fr_i F (a := 223) (by decide +kernel) k, fr_i F (a := 224) (by decide +kernel) k, on_s (by omega)]
          exact ⟨v, fun y => absurd P.1 y, fun _ => ⟨v, fun y => absurd y P.2.1, fun _ => ⟨v, fun y => absurd y P.2.2.1, fun _ => ⟨v, fun y => absurd y P.2.2.2, fun _ => ⟨v, v, hr h2 I2 F⟩⟩⟩⟩⟩
      · obtain ⟨r, hr⟩ := ih (k + 1) x4 x5 (by omega)
        refine ⟨r, fun h2 I2 F => t_X12_rankOn_14 d h2 I2.1 x1 x2 x3 x4 x5 _ _ ⟨fun z => ?_, fun _ => ?_⟩⟩
        · rw [(F.2 1 29 (by decide +kernel)).1] at z
          have z := q_le.mp z
          omega
        · have go := hr h2 I2 F
          rw [kk, fr_i F (a := 221) (by decide +kernel) k, fr_i F (a := 222) (by decide +kernel) k, fr_i F (a := 223) (by decide +kernel) k, fr_i F (a := 224) (by decide +kernel) k, on_s (by omega)]
          exact ⟨v, fun _ => go, fun y1 => ⟨v, fun _ => go, fun y2 => ⟨v, fun _ => go, fun y3 => ⟨v, fun _ => go, fun y4 => absurd ⟨y1, y2, y3, y4⟩ P⟩⟩⟩⟩
  obtain ⟨r, hr⟩ := lp (h_i h 1 29).toNatClampNeg 0 (h_i h 204 x1.toNatClampNeg) (-1) (by omega)
  refine ⟨r, fun h2 I2 F => t_X12_rankOn d h2 I2.1 x1 x2 x3 _ ⟨v1, ?_⟩⟩
  rw [fr_i F (a := 204) (by decide +kernel) _]
  exact hr h2 I2 F
theorem d_stateOf (d : Nat) {h : Hp_} (x1 x2 : Int32) (v : vp_in x1 400) : ∃ r, ∀ h2, Iv h2 → Fr wzE h h2 → Ci (m_X12_stateOf (d + 0) 0 0) [.ref 1, .int x1, .int x2] h2 (fun r' h' => r' = r ∧ h' = h2) := by
  by_cases a : h_i h 241 x1.toNatClampNeg = -1 ∨ x2 < h_i h 241 x1.toNatClampNeg
  · by_cases b : h_i h 242 x1.toNatClampNeg = -1 ∨ x2 < h_i h 242 x1.toNatClampNeg
    · refine ⟨0, fun h2 I2 F => t_X12_stateOf d h2 I2.1 x1 x2 _ ?_⟩
      rw [fr_i F (a := 241) (by decide +kernel) _, fr_i F (a := 242) (by decide +kernel) _]
      exact ⟨v, fun _ => ⟨v, fun _ => ⟨rfl, rfl⟩, fun nb => ⟨v, fun _ => ⟨rfl, rfl⟩, fun nc => absurd (b.resolve_left nb) nc⟩⟩, fun na => ⟨v, fun _ => ⟨v, fun _ => ⟨rfl, rfl⟩, fun nb => ⟨v, fun _ => ⟨rfl, rfl⟩, fun nc => absurd (b.resolve_left nb) nc⟩⟩, fun nc => absurd (a.resolve_left na) nc⟩⟩
    · refine ⟨2, fun h2 I2 F => t_X12_stateOf d h2 I2.1 x1 x2 _ ?_⟩
      rw [fr_i F (a := 241) (by decide +kernel) _, fr_i F (a := 242) (by decide +kernel) _]
      exact ⟨v, fun _ => ⟨v, fun y => absurd (Or.inl y) b, fun _ => ⟨v, fun y => absurd (Or.inr y) b, fun _ => ⟨rfl, rfl⟩⟩⟩, fun na => ⟨v, fun _ => ⟨v, fun y => absurd (Or.inl y) b, fun _ => ⟨v, fun y => absurd (Or.inr y) b, fun _ => ⟨rfl, rfl⟩⟩⟩, fun nc => absurd (a.resolve_left na) nc⟩⟩
  · refine ⟨1, fun h2 I2 F => t_X12_stateOf d h2 I2.1 x1 x2 _ ?_⟩
    rw [fr_i F (a := 241) (by decide +kernel) _, fr_i F (a := 242) (by decide +kernel) _]
    exact ⟨v, fun y => absurd (Or.inl y) a, fun _ => ⟨v, fun y => absurd (Or.inr y) a, fun _ => ⟨rfl, rfl⟩⟩⟩
theorem d_causeOf (d : Nat) {h : Hp_} (I : Iv h) (x1 x2 : Int32) (v1 : vp_in x1 400) : ∃ r, ∀ h2, Iv h2 → Fr wzE h h2 → Ci (m_X12_causeOf (d + 0) 0 0) [.ref 1, .int x1, .int x2] h2 (fun r' h' => r' = r ∧ h' = h2) := by
  have c64 := I.2.1 1 64
  rw [show tf 1 64 = (0, 200) by decide +kernel] at c64
  have b0 : 0 ≤ (h_i h 1 64).toInt := c64.1
  have b1 : (h_i h 1 64).toInt ≤ 200 := c64.2
  have nc := n_nat b0
  have lp : ∀ (n k : Nat) (x3 : Int32), k + n = (h_i h 1 64).toNatClampNeg → ∃ r, ∀ h2, Iv h2 → Fr wzE h h2 → AW (m_X12_causeOf (d + 0) 0 0) 0 0 10 [(0, .ref 1), (1, .int x1), (2, .int x2), (3, .int x3), (4, .int (Int32.ofNat k))] [] h2 (kI (fun r' h' => r' = r ∧ h' = h2)) := by
    intro n
    induction n with
    | zero =>
      intro k x3 e
      have ok := on_j (n := k) (by omega)
      refine ⟨x3, fun h2 I2 F => t_X12_causeOf_10 d h2 I2.1 x1 x2 x3 _ _ ⟨fun _ => ⟨rfl, rfl⟩, fun z => ?_⟩⟩
      rw [(F.2 1 64 (by decide +kernel)).1] at z
      have z := q_nle z
      omega
    | succ n ih =>
      intro k x3 e
      have ok := on_j (n := k) (by omega)
      have kk := on_k (n := k) (by omega)
      have v : vp_in (Int32.ofNat k) 200 := on_in (by omega) (by decide)
      by_cases P : h_i h 245 k = x1 ∧ ¬ x2 < h_i h 247 k
      · obtain ⟨r, hr⟩ := ih (k + 1) (h_i h 246 k) (by omega)
        refine ⟨r, fun h2 I2 F => t_X12_causeOf_10 d h2 I2.1 x1 x2 x3 _ _ ⟨fun z => ?_, fun _ => ?_⟩⟩
        · rw [(F.2 1 64 (by decide +kernel)).1] at z
          have z := q_le.mp z
          omega
        · rw [kk, fr_i F (a := 245) (by decide +kernel) k, fr_i F (a := 246) (by decide +kernel) k, fr_i F (a := 247) (by decide +kernel) k, on_s (by omega)]
          exact ⟨v, fun y => absurd P.1 y, fun _ => ⟨v, fun y => absurd y P.2, fun _ => ⟨v, hr h2 I2 F⟩⟩⟩
      · obtain ⟨r, hr⟩ := ih (k + 1) x3 (by omega)
        refine ⟨r, fun h2 I2 F => t_X12_causeOf_10 d h2 I2.1 x1 x2 x3 _ _ ⟨fun z => ?_, fun _ => ?_⟩⟩
        · rw [(F.2 1 64 (by decide +kernel)).1] at z
          have z := q_le.mp z
          omega
        · have go := hr h2 I2 F
          rw [kk, fr_i F (a := 245) (by decide +kernel) k, fr_i F (a := 246) (by decide +kernel) k, fr_i F (a := 247) (by decide +kernel) k, on_s (by omega)]
          exact ⟨v, fun _ => go, fun y1 => ⟨v, fun _ => go, fun y2 => absurd ⟨y1, y2⟩ P⟩⟩
  obtain ⟨r, hr⟩ := lp (h_i h 1 64).toNatClampNeg 0 (h_i h 243 x1.toNatClampNeg) (by omega)
  refine ⟨r, fun h2 I2 F => t_X12_causeOf d h2 I2.1 x1 x2 _ ⟨v1, ?_⟩⟩
  rw [fr_i F (a := 243) (by decide +kernel) _]
  exact hr h2 I2 F
theorem ix20 {s k : Nat} (hs : s < 2) (hk : k < 20) : (20 * Int32.ofNat s + Int32.ofNat k).toNatClampNeg = 20 * s + k ∧ vp_in (20 * Int32.ofNat s + Int32.ofNat k) 40 := by
  have t20 : (20 : Int32).toInt = 20 := rfl
  have es := on_j (n := s) (by omega)
  have ek := on_j (n := k) (by omega)
  have m1 : (20 * Int32.ofNat s).toInt = 20 * (s : Int) := by rw [tx_mul (by rw [t20, es]; omega) (by rw [t20, es]; omega), t20, es]
  have m2 : (20 * Int32.ofNat s + Int32.ofNat k).toInt = 20 * (s : Int) + k := by rw [tx_add (by omega) (by omega), m1, ek]
  have nn := n_nat (x := 20 * Int32.ofNat s + Int32.ofNat k) (by omega)
  exact ⟨by omega, dp_in (lo := 0) (hi := 39) ⟨by show (0 : Int) ≤ _; omega, by show _ ≤ (39 : Int); omega⟩ (by decide) (by decide)⟩
theorem d_forceOf (d s : Nat) (hs : s < 2) {h : Hp_} (I : Iv h) (x2 x3 : Int32) : ∃ r : Int32, rin r.toInt (-1, 19) ∧ ∀ h2, Iv h2 → Fr wzE h h2 → Ci (m_X12_forceOf (d + 0) 0 0) [.ref 1, .int (Int32.ofNat s), .int x2, .int x3] h2 (fun r' h' => r' = r ∧ h' = h2) := by
  have b := dp_rg I 235 s (show tfa 235 = some (0, 20) by decide +kernel)
  have b0 : 0 ≤ (h_i h 235 s).toInt := b.1
  have b1 : (h_i h 235 s).toInt ≤ 20 := b.2
  have nc := n_nat b0
  have v1 : vp_in (Int32.ofNat s) 2 := on_in hs (by decide)
  have k1 : (Int32.ofNat s).toNatClampNeg = s := on_k (by omega)
  have lp : ∀ (n k : Nat) (x4 : Int32), (x4 = -1 ∨ ∃ m, m < 20 ∧ x4 = Int32.ofNat m) → k + n = (h_i h 235 s).toNatClampNeg → ∃ r : Int32, rin r.toInt (-1, 19) ∧ ∀ h2, Iv h2 → Fr wzE h h2 → AW (m_X12_forceOf (d + 0) 0 0) 0 0 6 [(0, .ref 1), (1, .int (Int32.ofNat s)), (2, .int x2), (3, .int x3), (4, .int x4), (5, .int (Int32.ofNat k))] [] h2 (kI (fun r' h' => r' = r ∧ h' = h2)) := by
    intro n
    induction n with
    | zero =>
      intro k x4 o e
      have ok := on_j (n := k) (by omega)
      refine ⟨x4, ?_, fun h2 I2 F => t_X12_forceOf_6 d h2 I2.1 _ x2 x3 x4 _ _ ⟨v1, fun _ => ⟨rfl, rfl⟩, fun z => ?_⟩⟩
      · rcases o with u | ⟨m, lm, u⟩
        · rw [u]; exact ⟨by decide, by decide⟩
        · rw [u, on_j (by omega)]; exact ⟨by show (-1 : Int) ≤ _; omega, by show _ ≤ (19 : Int); omega⟩
      · rw [k1, fr_i F (a := 235) (by decide +kernel) s] at z
        have z := q_nle z
        omega
    | succ n ih =>
      intro k x4 o e
      have ok := on_j (n := k) (by omega)
      obtain ⟨jx, vx⟩ := ix20 (s := s) (k := k) hs (by omega)
      have v4 : ¬ x4 = -1 → vp_in (20 * Int32.ofNat s + x4) 40 := fun y => by
        rcases o with u | ⟨m, lm, u⟩
        · exact absurd u y
        · rw [u]; exact (ix20 hs lm).2
      by_cases P : ¬ x3 < h_i h 234 (20 * s + k) ∧ ¬ x2 < h_i h 233 (20 * s + k) ∧ (x4 = -1 ∨ ¬ h_i h 233 (20 * s + k) < h_i h 233 (20 * Int32.ofNat s + x4).toNatClampNeg)
      · obtain ⟨r, hb, hr⟩ := ih (k + 1) (Int32.ofNat k) (Or.inr ⟨k, by omega, rfl⟩) (by omega)
        refine ⟨r, hb, fun h2 I2 F => t_X12_forceOf_6 d h2 I2.1 _ x2 x3 x4 _ _ ⟨v1, fun z => ?_, fun _ => ?_⟩⟩
        · rw [k1, fr_i F (a := 235) (by decide +kernel) s] at z
          have z := q_le.mp z
          omega
        · have go := hr h2 I2 F
          rw [jx, fr_i F (a := 234) (by decide +kernel) _, fr_i F (a := 233) (by decide +kernel) (20 * s + k), fr_i F (a := 233) (by decide +kernel) (20 * Int32.ofNat s + x4).toNatClampNeg, on_s (by omega)]
          exact ⟨vx, fun y => absurd y P.1, fun _ => ⟨vx, fun y => absurd y P.2.1, fun _ => ⟨fun _ => go, fun y => ⟨vx, v4 y, fun z => absurd z (P.2.2.resolve_left y), fun _ => go⟩⟩⟩⟩
      · obtain ⟨r, hb, hr⟩ := ih (k + 1) x4 o (by omega)
        refine ⟨r, hb, fun h2 I2 F => t_X12_forceOf_6 d h2 I2.1 _ x2 x3 x4 _ _ ⟨v1, fun z => ?_, fun _ => ?_⟩⟩
        · rw [k1, fr_i F (a := 235) (by decide +kernel) s] at z
          have z := q_le.mp z
          omega
        · have go := hr h2 I2 F
          rw [jx, fr_i F (a := 234) (by decide +kernel) _, fr_i F (a := 233) (by decide +kernel) (20 * s + k), fr_i F (a := 233) (by decide +kernel) (20 * Int32.ofNat s + x4).toNatClampNeg, on_s (by omega)]
          exact ⟨vx, fun _ => go, fun y1 => ⟨vx, fun _ => go, fun y2 => ⟨fun y => absurd ⟨y1, y2, Or.inl y⟩ P, fun y => ⟨vx, v4 y, fun _ => go, fun z => absurd ⟨y1, y2, Or.inr z⟩ P⟩⟩⟩⟩
  obtain ⟨r, hb, hr⟩ := lp (h_i h 235 s).toNatClampNeg 0 (-1) (Or.inl rfl) (by omega)
  exact ⟨r, hb, fun h2 I2 F => t_X12_forceOf d h2 _ x2 x3 _ (hr h2 I2 F)⟩
end
section
/-! lets and payOf: the same answer from every heap that has the same of what they read -/
def lNat (k : Nat) : Nat := [107, 119, 112, 104, 100, 99, 110, 101, 116].getD k 0
def ltN (v : Nat → Int32) : Nat → (Nat → Int32) → Nat → Int32
  | 0, e => e
  | k + 1, e => upp (ltN v k e) (lNat k) (v k)
theorem lt9 (v e e' : Nat → Int32) {c : Int32} (o : okl 1 c = true) : ltN v 9 e c.toNatClampNeg = ltN v 9 e' c.toNatClampNeg := by
  have o : ([99, 116, 107, 119, 112, 104, 100, 110, 101] : List Int32).any (fun x => decide (x = c)) = true := o
  obtain ⟨x, hx, ex⟩ := List.any_eq_true.mp o
  have ex := of_decide_eq_true ex
  subst ex
  simp only [List.mem_cons, List.not_mem_nil, or_false] at hx
  rcases hx with u | u | u | u | u | u | u | u | u <;> subst u
  · rw [show (99 : Int32).toNatClampNeg = 99 by simp]; rfl
  · rw [show (116 : Int32).toNatClampNeg = 116 by simp]; rfl
  · rw [show (107 : Int32).toNatClampNeg = 107 by simp]; rfl
  · rw [show (119 : Int32).toNatClampNeg = 119 by simp]; rfl
  · rw [show (112 : Int32).toNatClampNeg = 112 by simp]; rfl
  · rw [show (104 : Int32).toNatClampNeg = 104 by simp]; rfl
  · rw [show (100 : Int32).toNatClampNeg = 100 by simp]; rfl
  · rw [show (110 : Int32).toNatClampNeg = 110 by simp]; rfl
  · rw [show (101 : Int32).toNatClampNeg = 101 by simp]; rfl
theorem tl9 {k : Nat} (hk : k < 9) : ((tby 1).getD k 0).toNatClampNeg = lNat k ∧ vp_in ((tby 1).getD k 0) 128 := by
  have g : ∀ x : Int32, rin x.toInt (0, 127) → vp_in x 128 := fun x b => dp_in b (by decide) (by decide)
  match k, hk with
  | 0, _ => exact ⟨by show (107 : Int32).toNatClampNeg = 107; simp, g _ ⟨by decide, by decide⟩⟩
  | 1, _ => exact ⟨by show (119 : Int32).toNatClampNeg = 119; simp, g _ ⟨by decide, by decide⟩⟩
  | 2, _ => exact ⟨by show (112 : Int32).toNatClampNeg = 112; simp, g _ ⟨by decide, by decide⟩⟩
  | 3, _ => exact ⟨by show (104 : Int32).toNatClampNeg = 104; simp, g _ ⟨by decide, by decide⟩⟩
  | 4, _ => exact ⟨by show (100 : Int32).toNatClampNeg = 100; simp, g _ ⟨by decide, by decide⟩⟩
  | 5, _ => exact ⟨by show (99 : Int32).toNatClampNeg = 99; simp, g _ ⟨by decide, by decide⟩⟩
  | 6, _ => exact ⟨by show (110 : Int32).toNatClampNeg = 110; simp, g _ ⟨by decide, by decide⟩⟩
  | 7, _ => exact ⟨by show (101 : Int32).toNatClampNeg = 101; simp, g _ ⟨by decide, by decide⟩⟩
  | 8, _ => exact ⟨by show (116 : Int32).toNatClampNeg = 116; simp, g _ ⟨by decide, by decide⟩⟩
  | k + 9, h => exact absurd h (by omega)
theorem lr_is (h : Hp_) (k : Nat) (v : Int32) : h_i (h_im h 236 k v) 236 = upp (h_i h 236) k v := funext (fun j => by
  rw [h_i_im]
  unfold upp
  by_cases y : j = k
  · rw [if_pos ⟨rfl, y⟩, if_pos y]
  · rw [if_neg (fun u => y u.2), if_neg y])
theorem i236 {h : Hp_} (I : Iv h) (k : Nat) (x : Int32) : Iv (h_im h 236 k x) := tr_ 236 (by decide +kernel) I k x (by decide) (by decide)
theorem d_lets (d : Nat) {h : Hp_} (I : Iv h) (i : Nat) (hi : i < 300) (x2 : Int32) : ∃ r, ∀ h2, Iv h2 → Fr wzE h h2 → Ci (m_X12_lets (d + 6) 0 0) [.ref 1, .int (Int32.ofNat i), .int x2] h2 (Dp r h2) := by
  obtain ⟨f, fb, hf⟩ := d_forceOf d 0 (by decide) I (h_i h 257 i / 1440) x2
  obtain ⟨r, hr⟩ := d_tell d 0 (by decide) I f fb (ltN (fun k => h_i h 261 (9 * i + k)) 9 (fun _ => 0))
  have vi : vp_in (Int32.ofNat i) 300 := on_in hi (by decide)
  have ki : (Int32.ofNat i).toNatClampNeg = i := on_k (by omega)
  have oi := on_j (n := i) (by omega)
  have t9 : (9 : Int32).toInt = 9 := rfl
  refine ⟨r, fun h2 I2 F => t_X12_lets d h2 _ x2 _ ?_⟩
  have lp : ∀ (n k : Nat) (h3 : Hp_), k + n = 9 → Iv h3 → Fr wzL h2 h3 → h_i h3 236 = ltN (fun k => h_i h 261 (9 * i + k)) k (h_i h2 236) → AW (m_X12_lets (d + 6) 0 0) 0 0 2 [(0, .ref 1), (1, .int (Int32.ofNat i)), (2, .int x2), (3, .int (Int32.ofNat k))] [] h3 (kI (Dp r h2)) := by
    intro n
    induction n with
    | zero =>
      intro k h3 e I3 F3 L3
      have ok := on_j (n := k) (by omega)
      have F' : Fr wzE h h3 := F.tr (F3.more (by decide +kernel))
      refine t_X12_lets_2 d h3 I3.1 _ x2 _ _ ⟨fun _ => ⟨vi, ?_⟩, fun z => ?_⟩
      · rw [ki, fr_i F' (a := 257) (by decide +kernel) i]
        refine Ci.mono (hf h3 I3 F') (fun r4 h4 k4 => ?_)
        rw [k4.1, k4.2]
        refine ⟨I3.1, Ci.mono (hr h3 I3 F' (fun c o => ?_)) (fun r5 h5 k5 => ⟨k5.2.1.1, k5.1, k5.2.1, F3.tr k5.2.2⟩)⟩
        rw [L3, show k = 9 by omega]
        exact lt9 _ _ _ o
      · have z := q_nle z
        omega
    | succ n ih =>
      intro k h3 e I3 F3 L3
      have ok := on_j (n := k) (by omega)
      have F' : Fr wzE h h3 := F.tr (F3.more (by decide +kernel))
      obtain ⟨lk, lv⟩ := tl9 (k := k) (by omega)
      have m1 : (9 * Int32.ofNat i).toInt = 9 * (i : Int) := by rw [tx_mul (by rw [t9, oi]; omega) (by rw [t9, oi]; omega), t9, oi]
      have m2 : (9 * Int32.ofNat i + Int32.ofNat k).toInt = 9 * (i : Int) + k := by rw [tx_add (by omega) (by omega), m1, ok]
      have nn := n_nat (x := 9 * Int32.ofNat i + Int32.ofNat k) (by omega)
      have jn : (9 * Int32.ofNat i + Int32.ofNat k).toNatClampNeg = 9 * i + k := by omega
      refine t_X12_lets_2 d h3 I3.1 _ x2 _ _ ⟨fun z => ?_, fun _ => ?_⟩
      · have z := q_le.mp z
        omega
      · refine Ci.mono (c_letterFor (d + 1) k (by omega) h3) (fun r4 h4 k4 => ?_)
        rw [k4.1, k4.2]
        refine ⟨I3.1, dp_in (lo := 0) (hi := 2699) ⟨by show (0 : Int) ≤ _; omega, by show _ ≤ (2699 : Int); omega⟩ (by decide) (by decide), lv, ?_⟩
        rw [jn, lk, on_s (by omega), fr_i F' (a := 261) (by decide +kernel) _]
        refine ih (k + 1) _ (by omega) (i236 I3 _ _) (F3.im (inw_row (by decide +kernel) _)) ?_
        rw [lr_is, L3]
        rfl
  exact lp 9 0 h2 rfl I2 (Fr.rf _ _) rfl
def up6 (e : Nat → Int32) (c y m x t a : Int32) : Nat → Int32 := upp (upp (upp (upp (upp (upp e 99 c) 121 y) 109 m) 120 x) 116 t) 97 a
theorem lt6 (e e' : Nat → Int32) (r y m x t a : Int32) {c : Int32} (o : okl 2 c = true) : up6 e r y m x t a c.toNatClampNeg = up6 e' r y m x t a c.toNatClampNeg := by
  have o : ([99, 116, 121, 109, 120, 97] : List Int32).any (fun x => decide (x = c)) = true := o
  obtain ⟨z, hz, ez⟩ := List.any_eq_true.mp o
  have ez := of_decide_eq_true ez
  subst ez
  simp only [List.mem_cons, List.not_mem_nil, or_false] at hz
  rcases hz with u | u | u | u | u | u <;> subst u
  · rw [show (99 : Int32).toNatClampNeg = 99 by simp]; rfl
  · rw [show (116 : Int32).toNatClampNeg = 116 by simp]; rfl
  · rw [show (121 : Int32).toNatClampNeg = 121 by simp]; rfl
  · rw [show (109 : Int32).toNatClampNeg = 109 by simp]; rfl
  · rw [show (120 : Int32).toNatClampNeg = 120 by simp]; rfl
  · rw [show (97 : Int32).toNatClampNeg = 97 by simp]; rfl
theorem py_end (d : Nat) {h : Hp_} (I : Iv h) (c : Nat) (hc : c < 12) (x2 x3 x4 x5 x6 x7 : Int32) : ∃ r, ∀ h2, Iv h2 → Fr wzE h h2 → Ci (m_X12_rankOn (d + 0) 0 0) [.ref 1, .int (Int32.ofNat c), .int x2, .int x3] h2 (fun r26 h24 => Wf h24 ∧ (vp_in 99 128 ∧ (vp_in (Int32.ofNat c) 12 ∧ (vp_in 121 128 ∧ (vp_in 109 128 ∧ (vp_in 120 128 ∧ (vp_in 116 128 ∧ (vp_in 97 128 ∧ (Ci (m_X12_forceOf (d + 0) 0 0) [.ref 1, .int 1, .int x2, .int x3] (h_im (h_im (h_im (h_im (h_im (h_im h24 236 (99 : Int32).toNatClampNeg r26) 236 (121 : Int32).toNatClampNeg (h_i h24 205 (Int32.ofNat c).toNatClampNeg)) 236 (109 : Int32).toNatClampNeg x4) 236 (120 : Int32).toNatClampNeg x5) 236 (116 : Int32).toNatClampNeg x6) 236 (97 : Int32).toNatClampNeg x7) (fun r36 h34 => Wf h34 ∧ (Ci (m_X12_tell (d + 4) 0 0) [.ref 1, .int 1, .int r36] h34 (fun r39 h37 => Wf h37 ∧ (Dp r h2 (if 0 < (if r39 < 10000 then r39 else 10000) then (if r39 < 10000 then r39 else 10000) else 0) h37))))))))))))) := by
  have v1 : vp_in (Int32.ofNat c) 12 := on_in hc (by decide)
  have k1 : (Int32.ofNat c).toNatClampNeg = c := on_k (by omega)
  obtain ⟨rk, hrk⟩ := d_rankOn d I (Int32.ofNat c) x2 x3 v1
  obtain ⟨f, fb, hf⟩ := d_forceOf d 1 (by decide) I x2 x3
  obtain ⟨t, ht⟩ := d_tell d 1 (by decide) I f fb (up6 (fun _ => 0) rk (h_i h 205 c) x4 x5 x6 x7)
  have g : ∀ x : Int32, rin x.toInt (0, 127) → vp_in x 128 := fun x b => dp_in b (by decide) (by decide)
  refine ⟨if 0 < (if t < 10000 then t else 10000) then (if t < 10000 then t else 10000) else 0, fun h2 I2 F => Ci.mono (hrk h2 I2 F) (fun r' h' k => ?_)⟩
  rw [k.1, k.2]
  refine ⟨I2.1, g _ ⟨by decide, by decide⟩, v1, g _ ⟨by decide, by decide⟩, g _ ⟨by decide, by decide⟩, g _ ⟨by decide, by decide⟩, g _ ⟨by decide, by decide⟩, g _ ⟨by decide, by decide⟩, ?_⟩
  rw [show (99 : Int32).toNatClampNeg = 99 by simp, show (121 : Int32).toNatClampNeg = 121 by simp, show (109 : Int32).toNatClampNeg = 109 by simp, show (120 : Int32).toNatClampNeg = 120 by simp, show (116 : Int32).toNatClampNeg = 116 by simp, show (97 : Int32).toNatClampNeg = 97 by simp, k1, fr_i F (a := 205) (by decide +kernel) c]
  have I3 : Iv (h_im (h_im (h_im (h_im (h_im (h_im h2 236 99 rk) 236 121 (h_i h 205 c)) 236 109 x4) 236 120 x5) 236 116 x6) 236 97 x7) := i236 (i236 (i236 (i236 (i236 (i236 I2 _ _) _ _) _ _) _ _) _ _) _ _
  have F3 : Fr wzL h2 (h_im (h_im (h_im (h_im (h_im (h_im h2 236 99 rk) 236 121 (h_i h 205 c)) 236 109 x4) 236 120 x5) 236 116 x6) 236 97 x7) := ((((((Fr.rf _ _).im (inw_row (by decide +kernel) _)).im (inw_row (by decide +kernel) _)).im (inw_row (by decide +kernel) _)).im (inw_row (by decide +kernel) _)).im (inw_row (by decide +kernel) _)).im (inw_row (by decide +kernel) _)
  have L3 : h_i (h_im (h_im (h_im (h_im (h_im (h_im h2 236 99 rk) 236 121 (h_i h 205 c)) 236 109 x4) 236 120 x5) 236 116 x6) 236 97 x7) 236 = up6 (h_i h2 236) rk (h_i h 205 c) x4 x5 x6 x7 := by rw [lr_is, lr_is, lr_is, lr_is, lr_is, lr_is]; rfl
  generalize h_im (h_im (h_im (h_im (h_im (h_im h2 236 99 rk) 236 121 (h_i h 205 c)) 236 109 x4) 236 120 x5) 236 116 x6) 236 97 x7 = h3 at I3 F3 L3 ⊢
  have F' : Fr wzE h h3 := F.tr (F3.more (by decide +kernel))
  refine Ci.mono (hf h3 I3 F') (fun r4 h4 k4 => ?_)
  rw [k4.1, k4.2]
  refine ⟨I3.1, Ci.mono (ht h3 I3 F' (fun c o => ?_)) (fun r5 h5 k5 => ⟨k5.2.1.1, ?_, k5.2.1, F3.tr k5.2.2⟩)⟩
  · rw [L3]
    exact lt6 _ _ _ _ _ _ _ _ o
  · rw [k5.1]
theorem py_128 (d : Nat) {h : Hp_} (I : Iv h) (c : Nat) (hc : c < 12) (x2 x3 x4 x5 : Int32) : ∀ (n k : Nat) (x6 x7 : Int32), k + n = (h_i h 1 80).toNatClampNeg → ∃ r, ∀ h2, Iv h2 → Fr wzE h h2 → AW (m_X12_payOf (d + 7) 0 0) 0 0 128 [(0, .ref 1), (1, .int (Int32.ofNat c)), (2, .int x2), (3, .int x3), (4, .int x4), (5, .int x5), (6, .int x6), (7, .int x7), (8, .int (Int32.ofNat k))] [] h2 (kI (Dp r h2)) := by
  have c80 := I.2.1 1 80
  rw [show tf 1 80 = (0, 300) by decide +kernel] at c80
  have b0 : 0 ≤ (h_i h 1 80).toInt := c80.1
  have b1 : (h_i h 1 80).toInt ≤ 300 := c80.2
  have nc := n_nat b0
  intro n
  induction n with
  | zero =>
    intro k x6 x7 e
    have ok := on_j (n := k) (by omega)
    obtain ⟨r, hr⟩ := py_end d I c hc x2 x3 x4 x5 x6 x7
    refine ⟨r, fun h2 I2 F => t_X12_payOf_128 d h2 I2.1 _ x2 x3 x4 x5 x6 x7 _ _ ⟨fun _ => hr h2 I2 F, fun z => ?_⟩⟩
    rw [(F.2 1 80 (by decide +kernel)).1] at z
    have z := q_nle z
    omega
  | succ n ih =>
    intro k x6 x7 e
    have ok := on_j (n := k) (by omega)
    have kk := on_k (n := k) (by omega)
    have v : vp_in (Int32.ofNat k) 300 := on_in (by omega) (by decide)
    by_cases P : h_i h 255 k = Int32.ofNat c ∧ h_i h 257 k / 1440 = x2 ∧ h_i h 258 k = 3
    · obtain ⟨l, hl⟩ := d_lets d I k (by omega) x3
      by_cases l3 : l = 3
      · obtain ⟨r, hr⟩ := ih (k + 1) (x6 + 1) (x7 + 0) (by omega)
        refine ⟨r, fun h2 I2 F => t_X12_payOf_128 d h2 I2.1 _ x2 x3 x4 x5 x6 x7 _ _ ⟨fun z => ?_, fun _ => ?_⟩⟩
        · rw [(F.2 1 80 (by decide +kernel)).1] at z
          have z := q_le.mp z
          omega
        · rw [kk, fr_i F (a := 255) (by decide +kernel) k, fr_i F (a := 257) (by decide +kernel) k, fr_i F (a := 258) (by decide +kernel) k, on_s (by omega)]
          refine ⟨v, fun y => absurd P.1 y, fun _ => ⟨v, fun y => absurd P.2.1 y, fun _ => ⟨v, fun y => absurd P.2.2 y, fun _ => Ci.mono (hl h2 I2 F) (fun r4 h4 k4 => ⟨k4.2.1.1, fun y => absurd (k4.1.trans l3) y, fun _ => ?_⟩)⟩⟩⟩
          exact AW.mono (hr h4 k4.2.1 (F.tr (k4.2.2.more (by decide +kernel)))) (fun u h' q => by
            obtain ⟨r', ev, e1, i1, f1⟩ := q
            exact ⟨r', ev, e1, i1, k4.2.2.tr f1⟩)
      · obtain ⟨r, hr⟩ := ih (k + 1) (x6 + 0) (x7 + 1) (by omega)
        refine ⟨r, fun h2 I2 F => t_X12_payOf_128 d h2 I2.1 _ x2 x3 x4 x5 x6 x7 _ _ ⟨fun z => ?_, fun _ => ?_⟩⟩
        · rw [(F.2 1 80 (by decide +kernel)).1] at z
          have z := q_le.mp z
          omega
        · rw [kk, fr_i F (a := 255) (by decide +kernel) k, fr_i F (a := 257) (by decide +kernel) k, fr_i F (a := 258) (by decide +kernel) k, on_s (by omega)]
          refine ⟨v, fun y => absurd P.1 y, fun _ => ⟨v, fun y => absurd P.2.1 y, fun _ => ⟨v, fun y => absurd P.2.2 y, fun _ => Ci.mono (hl h2 I2 F) (fun r4 h4 k4 => ⟨k4.2.1.1, fun _ => ?_, fun y => absurd (k4.1.symm.trans y) l3⟩)⟩⟩⟩
          exact AW.mono (hr h4 k4.2.1 (F.tr (k4.2.2.more (by decide +kernel)))) (fun u h' q => by
            obtain ⟨r', ev, e1, i1, f1⟩ := q
            exact ⟨r', ev, e1, i1, k4.2.2.tr f1⟩)
    · obtain ⟨r, hr⟩ := ih (k + 1) x6 x7 (by omega)
      refine ⟨r, fun h2 I2 F => t_X12_payOf_128 d h2 I2.1 _ x2 x3 x4 x5 x6 x7 _ _ ⟨fun z => ?_, fun _ => ?_⟩⟩
      · rw [(F.2 1 80 (by decide +kernel)).1] at z
        have z := q_le.mp z
        omega
      · have go := hr h2 I2 F
        rw [kk, fr_i F (a := 255) (by decide +kernel) k, fr_i F (a := 257) (by decide +kernel) k, fr_i F (a := 258) (by decide +kernel) k, on_s (by omega)]
        exact ⟨v, fun _ => go, fun y1 => ⟨v, fun _ => go, fun y2 => ⟨v, fun _ => go, fun y3 => absurd ⟨y1, y2, y3⟩ P⟩⟩⟩
theorem d_payOf (d : Nat) {h : Hp_} (I : Iv h) (c : Nat) (hc : c < 12) (x2 x3 : Int32) : ∃ r, ∀ h2, Iv h2 → Fr wzE h h2 → Ci (m_X12_payOf (d + 7) 0 0) [.ref 1, .int (Int32.ofNat c), .int x2, .int x3] h2 (Dp r h2) := by
  have c63 := rows_in I
  have b0 : 0 ≤ (h_i h 1 63).toInt := c63.1
  have b1 : (h_i h 1 63).toInt ≤ 400 := c63.2
  have nc := n_nat b0
  have lp : ∀ (n k : Nat) (x4 x5 : Int32), k + n = (h_i h 1 63).toNatClampNeg → ∃ r, ∀ h2, Iv h2 → Fr wzE h h2 → AW (m_X12_payOf (d + 7) 0 0) 0 0 9 [(0, .ref 1), (1, .int (Int32.ofNat c)), (2, .int x2), (3, .int x3), (4, .int x4), (5, .int x5), (6, .int (Int32.ofNat k))] [] h2 (kI (Dp r h2)) := by
    intro n
    induction n with
    | zero =>
      intro k x4 x5 e
      have ok := on_j (n := k) (by omega)
      obtain ⟨r, hr⟩ := py_128 d I c hc x2 x3 x4 x5 (h_i h 1 80).toNatClampNeg 0 0 0 (by omega)
      refine ⟨r, fun h2 I2 F => t_X12_payOf_9 d h2 I2.1 _ x2 x3 x4 x5 _ _ ⟨fun _ => hr h2 I2 F, fun z => ?_⟩⟩
      rw [(F.2 1 63 (by decide +kernel)).1] at z
      have z := q_nle z
      omega
    | succ n ih =>
      intro k x4 x5 e
      have ok := on_j (n := k) (by omega)
      have kk := on_k (n := k) (by omega)
      have v : vp_in (Int32.ofNat k) 400 := on_in (by omega) (by decide)
      have st : ∀ h2, Iv h2 → Fr wzE h h2 → h_i h2 1 63 ≤ Int32.ofNat k → False := fun h2 I2 F z => by
        rw [(F.2 1 63 (by decide +kernel)).1] at z
        have z := q_le.mp z
        omega
      by_cases P : h_i h 238 k = Int32.ofNat c ∧ h_i h 240 k / 1440 = x2
      · obtain ⟨s, hs⟩ := d_stateOf d (h := h) (Int32.ofNat k) x3 v
        by_cases s2 : s = 2
        · obtain ⟨u, hu⟩ := d_causeOf d I (Int32.ofNat k) x3 v
          by_cases q : u = 1 ∨ ¬ u < 5
          · obtain ⟨r, hr⟩ := ih (k + 1) (x4 + 0) (x5 + 1) (by omega)
            refine ⟨r, fun h2 I2 F => t_X12_payOf_9 d h2 I2.1 _ x2 x3 x4 x5 _ _ ⟨fun z => (st h2 I2 F z).elim, fun _ => ?_⟩⟩
            have go := hr h2 I2 F
            rw [kk, fr_i F (a := 238) (by decide +kernel) k, fr_i F (a := 240) (by decide +kernel) k, on_s (by omega)]
            refine ⟨v, fun y => absurd P.1 y, fun _ => ⟨v, fun _ => Ci.mono (hs h2 I2 F) (fun r4 h4 k4 => ?_), fun y => absurd P.2 y⟩⟩
            rw [k4.1, k4.2]
            refine ⟨I2.1, fun y => absurd s2 y, fun _ => Ci.mono (hu h2 I2 F) (fun r5 h5 k5 => ?_)⟩
            rw [k5.1, k5.2]
            exact ⟨I2.1, fun _ => ⟨fun _ => go, fun y => ⟨fun w => absurd w (q.resolve_left y), fun _ => go⟩⟩, fun y => absurd (s2.symm.trans y) (by decide)⟩
          · obtain ⟨r, hr⟩ := ih (k + 1) (x4 + 0) (x5 + 0) (by omega)
            refine ⟨r, fun h2 I2 F => t_X12_payOf_9 d h2 I2.1 _ x2 x3 x4 x5 _ _ ⟨fun z => (st h2 I2 F z).elim, fun _ => ?_⟩⟩
            have go := hr h2 I2 F
            rw [kk, fr_i F (a := 238) (by decide +kernel) k, fr_i F (a := 240) (by decide +kernel) k, on_s (by omega)]
            refine ⟨v, fun y => absurd P.1 y, fun _ => ⟨v, fun _ => Ci.mono (hs h2 I2 F) (fun r4 h4 k4 => ?_), fun y => absurd P.2 y⟩⟩
            rw [k4.1, k4.2]
            refine ⟨I2.1, fun y => absurd s2 y, fun _ => Ci.mono (hu h2 I2 F) (fun r5 h5 k5 => ?_)⟩
            rw [k5.1, k5.2]
            exact ⟨I2.1, fun _ => ⟨fun y => absurd (Or.inl y) q, fun _ => ⟨fun _ => go, fun y => absurd (Or.inr y) q⟩⟩, fun y => absurd (s2.symm.trans y) (by decide)⟩
        · by_cases s1 : s = 1
          · obtain ⟨r, hr⟩ := ih (k + 1) (x4 + 1) (x5 + 0) (by omega)
            refine ⟨r, fun h2 I2 F => t_X12_payOf_9 d h2 I2.1 _ x2 x3 x4 x5 _ _ ⟨fun z => (st h2 I2 F z).elim, fun _ => ?_⟩⟩
            have go := hr h2 I2 F
            rw [kk, fr_i F (a := 238) (by decide +kernel) k, fr_i F (a := 240) (by decide +kernel) k, on_s (by omega)]
            refine ⟨v, fun y => absurd P.1 y, fun _ => ⟨v, fun _ => Ci.mono (hs h2 I2 F) (fun r4 h4 k4 => ?_), fun y => absurd P.2 y⟩⟩
            rw [k4.1, k4.2]
            exact ⟨I2.1, fun _ => ⟨fun y => absurd s1 y, fun _ => go⟩, fun y => absurd y s2⟩
          · obtain ⟨r, hr⟩ := ih (k + 1) (x4 + 0) (x5 + 0) (by omega)
            refine ⟨r, fun h2 I2 F => t_X12_payOf_9 d h2 I2.1 _ x2 x3 x4 x5 _ _ ⟨fun z => (st h2 I2 F z).elim, fun _ => ?_⟩⟩
            have go := hr h2 I2 F
            rw [kk, fr_i F (a := 238) (by decide +kernel) k, fr_i F (a := 240) (by decide +kernel) k, on_s (by omega)]
            refine ⟨v, fun y => absurd P.1 y, fun _ => ⟨v, fun _ => Ci.mono (hs h2 I2 F) (fun r4 h4 k4 => ?_), fun y => absurd P.2 y⟩⟩
            rw [k4.1, k4.2]
            exact ⟨I2.1, fun _ => ⟨fun _ => go, fun y => absurd y s1⟩, fun y => absurd y s2⟩
      · obtain ⟨r, hr⟩ := ih (k + 1) x4 x5 (by omega)
        refine ⟨r, fun h2 I2 F => t_X12_payOf_9 d h2 I2.1 _ x2 x3 x4 x5 _ _ ⟨fun z => (st h2 I2 F z).elim, fun _ => ?_⟩⟩
        have go := hr h2 I2 F
        rw [kk, fr_i F (a := 238) (by decide +kernel) k, fr_i F (a := 240) (by decide +kernel) k, on_s (by omega)]
        exact ⟨v, fun _ => go, fun y1 => ⟨v, fun y2 => absurd ⟨y1, y2⟩ P, fun _ => go⟩⟩
  obtain ⟨r, hr⟩ := lp (h_i h 1 63).toNatClampNeg 0 0 0 (by omega)
  exact ⟨r, fun h2 I2 F => t_X12_payOf d h2 _ x2 x3 _ (hr h2 I2 F)⟩
end
section
/-! book of the reference: twice the same pay, so that its lines have room -/
def bkR (P : Nat → Nat → Int32) (bk : Nat → Int32) (day : Nat) : Nat → Nat → Nat
  | 0, _ => 0
  | n + 1, c => (if P c day = bk (31 * c + day) then 0 else 1) + bkR P bk day n (c + 1)
def bkT (P : Nat → Nat → Int32) (bk : Nat → Int32) (M : Nat) : Nat → Nat → Nat
  | 0, _ => 0
  | n + 1, day => bkR P bk day M 0 + bkT P bk M n (day + 1)
theorem bkR_le {P : Nat → Nat → Int32} {bk : Nat → Int32} {day : Nat} : ∀ {n c : Nat}, bkR P bk day n c ≤ n
  | 0, _ => Nat.le_refl _
  | n + 1, c => by
    have := bkR_le (P := P) (bk := bk) (day := day) (n := n) (c := c + 1)
    show (if P c day = bk (31 * c + day) then 0 else 1) + bkR P bk day n (c + 1) ≤ n + 1
    split <;> omega
theorem bkT_le {P : Nat → Nat → Int32} {bk : Nat → Int32} {M : Nat} (hM : M ≤ 12) : ∀ {n day : Nat}, bkT P bk M n day ≤ 12 * n
  | 0, _ => Nat.le_refl _
  | n + 1, day => by
    have a := bkT_le (P := P) (bk := bk) hM (n := n) (day := day + 1)
    have b := bkR_le (P := P) (bk := bk) (day := day) (n := M) (c := 0)
    show bkR P bk day M 0 + bkT P bk M n (day + 1) ≤ 12 * (n + 1)
    omega
theorem ix31 {c day : Nat} (hc : c < 12) (hd : day < 31) : (31 * Int32.ofNat c + Int32.ofNat day).toNatClampNeg = 31 * c + day ∧ vp_in (31 * Int32.ofNat c + Int32.ofNat day) 372 := by
  have t31 : (31 : Int32).toInt = 31 := rfl
  have es := on_j (n := c) (by omega)
  have ek := on_j (n := day) (by omega)
  have m1 : (31 * Int32.ofNat c).toInt = 31 * (c : Int) := by rw [tx_mul (by rw [t31, es]; omega) (by rw [t31, es]; omega), t31, es]
  have m2 : (31 * Int32.ofNat c + Int32.ofNat day).toInt = 31 * (c : Int) + day := by rw [tx_add (by omega) (by omega), m1, ek]
  have nn := n_nat (x := 31 * Int32.ofNat c + Int32.ofNat day) (by omega)
  exact ⟨by omega, dp_in (lo := 0) (hi := 371) ⟨by show (0 : Int) ≤ _; omega, by show _ ≤ (371 : Int); omega⟩ (by decide) (by decide)⟩
/-- what is the same all through: the men, the days, the pay of each -/
def Bk (d : Nat) (h : Hp_) (M D : Nat) (P : Nat → Nat → Int32) : Prop := Iv h ∧ M ≤ 12 ∧ D ≤ 13 ∧ h_i h 1 7 = Int32.ofNat M ∧ h_i h 1 0 / 1440 = Int32.ofNat D ∧ ∀ c day, c < 12 → ∀ h2, Iv h2 → Fr wzE h h2 → Ci (m_X12_payOf (d + 7) 0 0) [.ref 1, .int (Int32.ofNat c), .int (Int32.ofNat day), .int (h_i h 1 0)] h2 (Dp (P c day) h2)
abbrev bK (h : Hp_) : Option Value → Hp_ → Prop := kI (fun _ h' => Iv h' ∧ Fr wzE h h')
/-- behind day and man the books are as they were -/
def Bo (h : Hp_) (day c : Nat) (h2 : Hp_) : Prop := Iv h2 ∧ Fr wzE h h2 ∧ ∀ c' day', c' < 12 → day' < 31 → (day < day' ∨ (day' = day ∧ c ≤ c')) → h_i h2 293 (31 * c' + day') = h_i h 293 (31 * c' + day')
theorem lines_in {h : Hp_} (I : Iv h) : rin (h_i h 1 127).toInt (0, 600) := by
  have := I.2.1 1 127
  rwa [show tf 1 127 = (0, 600) by decide +kernel] at this
theorem bk_100 (d : Nat) {h : Hp_} {M D : Nat} {P : Nat → Nat → Int32} (B : Bk d h M D P) (x1 : Int32) (day : Nat) (hd : day < D) (R : Nat)
    (O : ∀ h3, Bo h (day + 1) 0 h3 → (h_i h3 1 127).toInt + (R : Int) ≤ 600 → AW (m_X12_book (d + 8) 0 0) 0 0 86 [(0, .ref 1), (1, .int x1), (2, .int (Int32.ofNat (day + 1)))] [] h3 (bK h)) :
    ∀ (n c : Nat) (h2 : Hp_), c + n = M → Bo h day c h2 → (h_i h2 1 127).toInt + ((bkR P (h_i h 293) day n c + R : Nat) : Int) ≤ 600 → AW (m_X12_book (d + 8) 0 0) 0 0 100 [(0, .ref 1), (1, .int x1), (2, .int (Int32.ofNat day)), (3, .int (Int32.ofNat c))] [] h2 (bK h) := by
  obtain ⟨I, lM, lD, e7, eD, hP⟩ := B
  have oM := on_j (n := M) (by omega)
  have t1 : (1 : Int32).toInt = 1 := rfl
  intro n
  induction n with
  | zero =>
    intro c h2 e b m
    have oc := on_j (n := c) (by omega)
    refine t_X12_book_100 d h2 b.1.1 x1 _ _ _ ⟨fun _ => ?_, fun z => ?_⟩
    · rw [on_s (by omega)]
      refine O h2 ⟨b.1, b.2.1, fun c' day' h1 h2' o => b.2.2 c' day' h1 h2' ?_⟩ ?_
      · rcases o with u | u
        · exact Or.inl (by omega)
        · exact Or.inl (by omega)
      · have m' : (h_i h2 1 127).toInt + ((0 + R : Nat) : Int) ≤ 600 := m
        omega
    · rw [(b.2.1.2 1 7 (by decide +kernel)).1, e7] at z
      have z := q_nle z
      omega
  | succ n ih =>
    intro c h2 e b m
    have oc := on_j (n := c) (by omega)
    obtain ⟨jx, vx⟩ := ix31 (c := c) (day := day) (by omega) (by omega)
    have m' : (h_i h2 1 127).toInt + ((((if P c day = h_i h 293 (31 * c + day) then 0 else 1) + bkR P (h_i h 293) day n (c + 1)) + R : Nat) : Int) ≤ 600 := m
    refine t_X12_book_100 d h2 b.1.1 x1 _ _ _ ⟨fun z => ?_, fun _ => ?_⟩
    · rw [(b.2.1.2 1 7 (by decide +kernel)).1, e7] at z
      have z := q_le.mp z
      omega
    · rw [(b.2.1.2 1 0 (by decide +kernel)).1]
      refine Ci.mono (hP c day (by omega) h2 b.1 b.2.1) (fun r h3 k => ?_)
      obtain ⟨kr, I3, F3⟩ := k
      have F' : Fr wzE h h3 := b.2.1.tr (F3.more (by decide +kernel))
      have l3 : h_i h3 1 127 = h_i h2 1 127 := (F3.2 1 127 (by decide +kernel)).1
      have b3 : ∀ k, h_i h3 293 k = h_i h2 293 k := fun k => fr_i F3 (by decide +kernel) k
      have bc := b.2.2 c day (by omega) (by omega) (Or.inr ⟨rfl, Nat.le_refl _⟩)
      refine ⟨I3.1, vx, fun er => ?_, fun nr => ?_⟩
      · rw [jx, b3, bc, kr] at er
        rw [if_pos er] at m'
        rw [on_s (by omega)]
        refine ih (c + 1) h3 (by omega) ⟨I3, F', fun c' day' h1 h2' o => ?_⟩ (by rw [l3]; omega)
        rw [b3]
        refine b.2.2 c' day' h1 h2' ?_
        rcases o with u | u
        · exact Or.inl u
        · exact Or.inr ⟨u.1, by omega⟩
      · rw [jx, b3, bc, kr] at nr
        rw [if_neg nr] at m'
        have lr := lines_in I3
        have l0 : 0 ≤ (h_i h3 1 127).toInt := lr.1
        have l1 : (h_i h3 1 127).toInt ≤ 599 := by rw [l3]; omega
        have vl : vp_in (h_i h3 1 127) 600 := dp_in (lo := 0) (hi := 599) ⟨l0, by show _ ≤ (599 : Int); omega⟩ (by decide) (by decide)
        have ex : (h_i h3 1 127 + 1).toInt = (h_i h3 1 127).toInt + 1 := by rw [tx_add (by rw [t1]; omega) (by rw [t1]; omega), t1]
        refine ⟨vl, vl, vx, vl, vl, vx, ?_⟩
        rw [jx, on_s (by omega)]
        have l5 : (h_i h2 1 127).toInt = (h_i h3 1 127).toInt := by rw [l3]
        generalize (r - h_i h3 293 (31 * c + day)) = x9
        generalize (h_i h3 1 127).toNatClampNeg = kl
        have I4 : Iv (h_im (h_im (h_im (h_im (h_im (h_im h3 294 kl (Int32.ofNat c)) 295 kl (Int32.ofNat day)) 296 kl x9) 297 kl (h_i h3 1 0)) 1 127 ((h_i h3 1 127) + 1)) 293 (31 * c + day) r) := i2xx 293 (by decide +kernel) (by decide) (by decide) ((i2xx 297 (by decide +kernel) (by decide) (by decide) (i2xx 296 (by decide +kernel) (by decide) (by decide) (i2xx 295 (by decide +kernel) (by decide) (by decide) (i2xx 294 (by decide +kernel) (by decide) (by decide) I3 _ _) _ _) _ _) _ _).im (a := 1) (k := 127) (by rw [show tf 1 127 = (0, 600) by decide +kernel, ex]; exact ⟨by show (0 : Int) ≤ _; omega, by show _ ≤ (600 : Int); omega⟩) (by decide)) _ _
        refine ih (c + 1) _ (by omega) ⟨I4, (((((F'.im (inw_row (by decide +kernel) _)).im (inw_row (by decide +kernel) _)).im (inw_row (by decide +kernel) _)).im (inw_row (by decide +kernel) _)).im (by decide +kernel)).im (inw_row (by decide +kernel) _), fun c' day' h1 h2' o => ?_⟩ ?_
        · rw [h_i_im, if_neg (fun u => by
            have := u.2
            rcases o with v | v
            · omega
            · omega), im_ne (by decide), im_ne (by decide), im_ne (by decide), im_ne (by decide), im_ne (by decide), b3]
          refine b.2.2 c' day' h1 h2' ?_
          rcases o with u | u
          · exact Or.inl u
          · exact Or.inr ⟨u.1, by omega⟩
        · rw [im_ne (by decide), im_at, ex]
          omega
theorem bk_86 (d : Nat) {h : Hp_} {M D : Nat} {P : Nat → Nat → Int32} (B : Bk d h M D P) (x1 : Int32) :
    ∀ (n day : Nat) (h2 : Hp_), day + n = D → Bo h day 0 h2 → (h_i h2 1 127).toInt + (bkT P (h_i h 293) M n day : Int) ≤ 600 → AW (m_X12_book (d + 8) 0 0) 0 0 86 [(0, .ref 1), (1, .int x1), (2, .int (Int32.ofNat day))] [] h2 (bK h) := by
  have B' := B
  obtain ⟨I, lM, lD, e7, eD, hP⟩ := B'
  have oD := on_j (n := D) (by omega)
  intro n
  induction n with
  | zero =>
    intro day h2 e b m
    have od := on_j (n := day) (by omega)
    refine t_X12_book_86 d h2 b.1.1 x1 _ _ ⟨fun _ => ⟨b.1, b.2.1⟩, fun z => ?_⟩
    rw [(b.2.1.2 1 0 (by decide +kernel)).1, eD] at z
    have z := q_nle z
    omega
  | succ n ih =>
    intro day h2 e b m
    have od := on_j (n := day) (by omega)
    refine t_X12_book_86 d h2 b.1.1 x1 _ _ ⟨fun z => ?_, fun _ => ?_⟩
    · rw [(b.2.1.2 1 0 (by decide +kernel)).1, eD] at z
      have z := q_le.mp z
      omega
    · exact bk_100 d B x1 day (by omega) (bkT P (h_i h 293) M n (day + 1)) (fun h3 b3 m3 => ih (day + 1) h3 (by omega) b3 m3) M 0 h2 (by omega) b m
theorem bk_18 (d : Nat) {h : Hp_} {M D : Nat} {P : Nat → Nat → Int32} (B : Bk d h M D P) (T day : Nat) (hT : T ≤ 156) (hd : day < D) (R : Nat)
    (O : ∀ (x1 : Int32) (h3 : Hp_), Iv h3 → Fr wzL h h3 → 0 ≤ x1.toInt → x1.toInt + (R : Int) = T → AW (m_X12_book (d + 8) 0 0) 0 0 4 [(0, .ref 1), (1, .int x1), (2, .int (Int32.ofNat (day + 1)))] [] h3 (bK h)) :
    ∀ (n c : Nat) (x1 : Int32) (h2 : Hp_), c + n = M → Iv h2 → Fr wzL h h2 → 0 ≤ x1.toInt → x1.toInt + ((bkR P (h_i h 293) day n c + R : Nat) : Int) = T → AW (m_X12_book (d + 8) 0 0) 0 0 18 [(0, .ref 1), (1, .int x1), (2, .int (Int32.ofNat day)), (3, .int (Int32.ofNat c))] [] h2 (bK h) := by
  obtain ⟨I, lM, lD, e7, eD, hP⟩ := B
  have oM := on_j (n := M) (by omega)
  have t1 : (1 : Int32).toInt = 1 := rfl
  have t0 : (0 : Int32).toInt = 0 := rfl
  intro n
  induction n with
  | zero =>
    intro c x1 h2 e I2 F p m
    have oc := on_j (n := c) (by omega)
    refine t_X12_book_18 d h2 I2.1 x1 _ _ _ ⟨fun _ => ?_, fun z => ?_⟩
    · rw [on_s (by omega)]
      have m' : x1.toInt + ((0 + R : Nat) : Int) = T := m
      exact O x1 h2 I2 F p (by omega)
    · rw [(F.2 1 7 (by decide +kernel)).1, e7] at z
      have z := q_nle z
      omega
  | succ n ih =>
    intro c x1 h2 e I2 F p m
    have oc := on_j (n := c) (by omega)
    obtain ⟨jx, vx⟩ := ix31 (c := c) (day := day) (by omega) (by omega)
    have m' : x1.toInt + ((((if P c day = h_i h 293 (31 * c + day) then 0 else 1) + bkR P (h_i h 293) day n (c + 1)) + R : Nat) : Int) = T := m
    refine t_X12_book_18 d h2 I2.1 x1 _ _ _ ⟨fun z => ?_, fun _ => ?_⟩
    · rw [(F.2 1 7 (by decide +kernel)).1, e7] at z
      have z := q_le.mp z
      omega
    · rw [(F.2 1 0 (by decide +kernel)).1]
      refine Ci.mono (hP c day (by omega) h2 I2 (F.more (by decide +kernel))) (fun r h3 k => ?_)
      obtain ⟨kr, I3, F3⟩ := k
      have F' : Fr wzL h h3 := F.tr F3
      have b3 : h_i h3 293 (31 * c + day) = h_i h 293 (31 * c + day) := fr_i F' (by decide +kernel) _
      refine ⟨I3.1, vx, fun er => ?_, fun nr => ?_⟩
      · rw [jx, b3, kr] at er
        rw [if_pos er] at m'
        have ea : (x1 + 0).toInt = x1.toInt := by rw [tx_add (by rw [t0]; omega) (by rw [t0]; omega), t0]; omega
        rw [on_s (by omega)]
        exact ih (c + 1) _ h3 (by omega) I3 F' (by omega) (by rw [ea]; omega)
      · rw [jx, b3, kr] at nr
        rw [if_neg nr] at m'
        have ea : (x1 + 1).toInt = x1.toInt + 1 := by rw [tx_add (by rw [t1]; omega) (by rw [t1]; omega), t1]
        rw [on_s (by omega)]
        exact ih (c + 1) _ h3 (by omega) I3 F' (by omega) (by rw [ea]; omega)
theorem bk_4 (d : Nat) {h : Hp_} {M D : Nat} {P : Nat → Nat → Int32} (B : Bk d h M D P) :
    ∀ (n day : Nat) (x1 : Int32) (h2 : Hp_), day + n = D → Iv h2 → Fr wzL h h2 → 0 ≤ x1.toInt → x1.toInt + (bkT P (h_i h 293) M n day : Int) = (bkT P (h_i h 293) M D 0 : Int) → AW (m_X12_book (d + 8) 0 0) 0 0 4 [(0, .ref 1), (1, .int x1), (2, .int (Int32.ofNat day))] [] h2 (bK h) := by
  have B' := B
  obtain ⟨I, lM, lD, e7, eD, hP⟩ := B'
  have oD := on_j (n := D) (by omega)
  have tl := bkT_le (P := P) (bk := h_i h 293) lM (n := D) (day := 0)
  intro n
  induction n with
  | zero =>
    intro day x1 h2 e I2 F p m
    have od := on_j (n := day) (by omega)
    have m' : x1.toInt + ((0 : Nat) : Int) = (bkT P (h_i h 293) M D 0 : Int) := m
    have F' : Fr wzE h h2 := F.more (by decide +kernel)
    have l2 : h_i h2 1 127 = h_i h 1 127 := (F.2 1 127 (by decide +kernel)).1
    refine t_X12_book_4 d h2 I2.1 x1 _ _ ⟨fun _ => ⟨fun le => ?_, fun _ => ⟨I2, F'⟩⟩, fun z => ?_⟩
    · have le := q_le.mp le
      have lr := lines_in I2
      have l0 : 0 ≤ (h_i h2 1 127).toInt := lr.1
      have l1 : (h_i h2 1 127).toInt ≤ 600 := lr.2
      have ea : (h_i h2 1 127 + x1).toInt = (h_i h2 1 127).toInt + x1.toInt := tx_add (by omega) (by omega)
      have t6 : (600 : Int32).toInt = 600 := rfl
      rw [ea, t6] at le
      exact bk_86 d B x1 D 0 h2 (by omega) ⟨I2, F', fun c' day' _ _ _ => fr_i F (by decide +kernel) _⟩ (by omega)
    · rw [(F.2 1 0 (by decide +kernel)).1, eD] at z
      have z := q_nle z
      omega
  | succ n ih =>
    intro day x1 h2 e I2 F p m
    have od := on_j (n := day) (by omega)
    refine t_X12_book_4 d h2 I2.1 x1 _ _ ⟨fun z => ?_, fun _ => ?_⟩
    · rw [(F.2 1 0 (by decide +kernel)).1, eD] at z
      have z := q_le.mp z
      omega
    · exact bk_18 d B (bkT P (h_i h 293) M D 0) day (by omega) (by omega) (bkT P (h_i h 293) M n (day + 1)) (fun x1' h3 I3 F3 p3 m3 => ih (day + 1) x1' h3 (by omega) I3 F3 p3 m3) M 0 x1 h2 (by omega) I2 F p m
theorem c_book (d : Nat) {h : Hp_} (I : Iv h) : Ci (m_X12_book (d + 8) 0 0) [.ref 1] h (fun _ h' => Iv h' ∧ Fr wzE h h') := by
  have mr := men_in I
  have m0 : 0 ≤ (h_i h 1 7).toInt := mr.1
  have m1 : (h_i h 1 7).toInt ≤ 12 := mr.2
  have nm := n_nat m0
  have nr := I.2.1 1 0
  rw [show tf 1 0 = (0, 20000) by decide +kernel] at nr
  have n0 : 0 ≤ (h_i h 1 0).toInt := nr.1
  have n1 : (h_i h 1 0).toInt ≤ 20000 := nr.2
  have t14 : (1440 : Int32).toInt = 1440 := rfl
  have dv : (h_i h 1 0 / 1440).toInt = (h_i h 1 0).toInt / 1440 := by rw [ti_div n0 (by rw [t14]; decide), t14]
  have d0 : 0 ≤ (h_i h 1 0 / 1440).toInt := by rw [dv]; omega
  have d1 : (h_i h 1 0 / 1440).toInt ≤ 13 := by rw [dv]; omega
  have nd := n_nat d0
  obtain ⟨P, hP⟩ : ∃ P : Nat → Nat → Int32, ∀ c day, c < 12 → ∀ h2, Iv h2 → Fr wzE h h2 → Ci (m_X12_payOf (d + 7) 0 0) [.ref 1, .int (Int32.ofNat c), .int (Int32.ofNat day), .int (h_i h 1 0)] h2 (Dp (P c day) h2) := by
    have q : ∀ c day, ∃ r, c < 12 → ∀ h2, Iv h2 → Fr wzE h h2 → Ci (m_X12_payOf (d + 7) 0 0) [.ref 1, .int (Int32.ofNat c), .int (Int32.ofNat day), .int (h_i h 1 0)] h2 (Dp r h2) := by
      intro c day
      by_cases hc : c < 12
      · obtain ⟨r, hr⟩ := d_payOf d I c hc (Int32.ofNat day) (h_i h 1 0)
        exact ⟨r, fun _ => hr⟩
      · exact ⟨0, fun y => absurd y hc⟩
    exact ⟨fun c day => Classical.choose (q c day), fun c day => Classical.choose_spec (q c day)⟩
  have B : Bk d h (h_i h 1 7).toNatClampNeg (h_i h 1 0 / 1440).toNatClampNeg P := ⟨I, by omega, by omega, (of_nat32 m0).symm, (of_nat32 d0).symm, hP⟩
  exact t_X12_book d h _ (bk_4 d B (h_i h 1 0 / 1440).toNatClampNeg 0 0 h (by omega) I (Fr.rf _ _) (by decide) (by rw [show (0 : Int32).toInt = 0 from rfl]; omega))
end
section
/-! p1: words for the walks on a fresh object -/
section PB
variable {M : Mc_} {kc ks pc : Nat} {lv : List (Nat × Value)} {st : List Value} {h : Hp_} {K : Option Value → Hp_ → Prop}
end PB
theorem Wf_rm {h : Hp_} {a k : Nat} {x : Option Nat} (w : Wf h) (hf : rfL.all (fun q => !(q.1 == a && q.2.1 == k)) = true) : Wf (h_rm h a k x) := by
  refine ⟨w.1, fun q hq => ?_⟩
  rw [h_r_rm, if_neg]
  · exact w.2 q hq
  · intro z
    have h1 := List.all_eq_true.mp hf q hq
    rw [z.1, z.2] at h1
    simp at h1
theorem i32_lt {x y : Int32} (h : x < y) : x.toInt < y.toInt := Int32.lt_iff_toInt_lt.mp h
theorem i32_le {x y : Int32} (h : x ≤ y) : x.toInt ≤ y.toInt := Int32.le_iff_toInt_le.mp h
theorem i32_nlt {x y : Int32} (h : ¬ x < y) : y.toInt ≤ x.toInt := Int32.le_iff_toInt_le.mp (Int32.not_lt.mp h)
theorem i32_nle {x y : Int32} (h : ¬ x ≤ y) : y.toInt < x.toInt := Int32.lt_iff_toInt_lt.mp (Int32.not_le.mp h)
theorem i32_ne {x y : Int32} (h : ¬ x = y) : x.toInt ≠ y.toInt := fun z => h (Int32.toInt_inj.mp z)
theorem vin_of {x lo hi : Int32} {n : Nat} (h : lo ≤ x ∧ x ≤ hi) (h0 : (0 : Int) ≤ lo.toInt) (h1 : hi.toInt < (n : Int)) : vp_in x n := by
  unfold vp_in
  have a1 := i32_le h.1
  have a2 := i32_le h.2
  rintro (z | z)
  · have := i32_lt z
    rw [show (0 : Int32).toInt = 0 from by decide] at this
    omega
  · unfold Int32.toNatClampNeg at z
    omega
theorem vin_lt {x : Int32} {n : Nat} (h : vp_in x n) : x.toNatClampNeg < n := by
  unfold vp_in at h
  omega
theorem rr1 {y' y : MethodName} {cc' cc : ByteArray} {nL' nL : Nat} {ret' ret : Option FieldType} {d h' H mc ms mc' ms' kc ks : Nat} (h1 : h' + 1 ≤ H) (h2 : nL' ≤ 81) (h3 : kc + mc' ≤ mc) (h4 : ks + ms' ≤ ms) : rr_ (fun _ _ _ => True, y', cc', nL', ret', { frames := d + h', cells := mc', slots := ms', locals := 100 * (d + h') }) (fun _ _ _ => True, y, cc, nL, ret, { frames := d + H, cells := mc, slots := ms, locals := 100 * (d + H) }) kc ks :=
  ⟨⟨(show d + h' + 1 ≤ d + H by omega), (show 8 + (nL' + 11) + 100 * (d + h') ≤ 100 * (d + H) by omega)⟩, h3, h4⟩
/-- the first i places of a row are told anew -/
def fl_ (f g : Nat → Int32) (i : Nat) : Nat → Int32 := fun k => if k < i then f k else g k
theorem fl_0 (f g : Nat → Int32) : fl_ f g 0 = g := by funext k; unfold fl_; rw [if_neg (by omega)]
theorem iw_id (h : Hp_) (a : Nat) : h_iw h a (h_i h a) = h := by
  unfold h_iw
  have e : va_up h.2.1 a (h_i h a) = h.2.1 := by
    funext b
    by_cases z : b = a
    · subst z; rw [va_up_at]; rfl
    · rw [va_up_off _ _ z]
  rw [e]
theorem iw_0 (h : Hp_) (a : Nat) (f : Nat → Int32) : h_iw h a (fl_ f (h_i h a) 0) = h := by rw [fl_0, iw_id]
theorem iw_iw (h : Hp_) (a : Nat) (f g : Nat → Int32) : h_iw (h_iw h a f) a g = h_iw h a g := by
  unfold h_iw
  have e : va_up (va_up h.2.1 a f) a g = va_up h.2.1 a g := by
    funext b
    by_cases z : b = a
    · subst z; rw [va_up_at, va_up_at]
    · rw [va_up_off _ _ z, va_up_off _ _ z, va_up_off _ _ z]
  rw [e]
theorem iw_st (h : Hp_) (a i : Nat) (f g : Nat → Int32) : h_im (h_iw h a (fl_ f g i)) a i (f i) = h_iw h a (fl_ f g (i + 1)) := by
  rw [h_im_iw, iw_iw]
  congr 1
  funext k
  rw [h_i_iw, if_pos rfl]
  show (if k = i then f i else fl_ f g i k) = fl_ f g (i + 1) k
  unfold fl_
  by_cases z : k = i
  · subst z; rw [if_pos rfl, if_pos (by omega)]
  · rw [if_neg z]
    by_cases y : k < i
    · rw [if_pos y, if_pos (by omega)]
    · rw [if_neg y, if_neg (by omega)]
/-- a counter of a loop, as an int -/
theorem on_nat {i : Nat} (h : i < 2147483648) : (Int32.ofNat i).toNatClampNeg = i := by
  unfold Int32.toNatClampNeg
  rw [Int32.toInt_ofNat_of_lt h]
  omega
theorem on_int {i : Nat} (h : i < 2147483648) : (Int32.ofNat i).toInt = (i : Int) := Int32.toInt_ofNat_of_lt h
theorem on_suc (i : Nat) : Int32.ofNat i + 1 = Int32.ofNat (i + 1) := (Int32.ofNat_add i 1).symm
theorem on_inp {i n : Nat} (h : i < n) (hn : n < 2147483648) : vp_in (Int32.ofNat i) n := by
  unfold vp_in
  rintro (z | z)
  · have z1 := i32_lt z
    rw [on_int (by omega), show (0 : Int32).toInt = 0 from by decide] at z1
    omega
  · rw [on_nat (by omega)] at z
    omega
theorem on_le {i j : Nat} (hi : i < 2147483648) (hj : j < 2147483648) : Int32.ofNat i ≤ Int32.ofNat j ↔ i ≤ j := by
  rw [Int32.le_iff_toInt_le, on_int hi, on_int hj]
  omega
theorem on_lt {i j : Nat} (hi : i < 2147483648) (hj : j < 2147483648) : Int32.ofNat i < Int32.ofNat j ↔ i < j := by
  rw [Int32.lt_iff_toInt_lt, on_int hi, on_int hj]
  omega
theorem nn_step {h : Hp_} {k hi t n c s : Nat} {r : Option Nat} (hn : ∀ a, k ≤ a → a < hi → h_sh h a = none) : ∀ a, k + 1 ≤ a → a < hi → h_sh (h_rm (h_nw h k t n) c s r) a = none := fun a h1 h2 => by
  rw [h_sh_rm, h_sh_nw, if_neg (by omega)]
  exact hn a (by omega) h2
theorem ss_step {h : Hp_} {k t n c c' s : Nat} {r : Option Nat} {x : Option (Nat × Nat)} (hs : h_sh h c = x) (hk : c ≠ k) : h_sh (h_rm (h_nw h k t n) c' s r) c = x := by
  rw [h_sh_rm, h_sh_nw, if_neg hk]
  exact hs
theorem s_J7_fill (d : Nat) (h : Hp_) (a n : Nat) (v : Int32) (hs : h_sh h a = some (0, n)) (hn : n < 2147483648) : Cv (m_J7_fill_53178 (d + 0) 0 0) [.ref a, .int v] h (fun h' => h' = h_iw h a (fl_ (fun _ => v) (h_i h a) n)) := by
  refine Ct.of (fun _ _ _ => trivial) rfl (Nat.le_of_ble_eq_true rfl) ?_
  show AW (m_J7_fill_53178 (d + 0) 0 0) 0 0 0 [(0, .ref a), (1, .int v)] [] h (kV _)
  refine aw_iconst (v := 0) d_J7_fill_53178_0 ic_0 ?_
  refine aw_istore_n (i := 2) rfl [(0, .ref a), (1, .int v), (2, .int 0)] d_J7_fill_53178_1 (Nat.le_of_ble_eq_true rfl) rfl rfl ?_
  refine aw_aload_n (i := 0) rfl d_J7_fill_53178_2 0 rfl ?_
  refine aw_alen (v := Int32.ofNat n) hs (Nat.le_of_ble_eq_true rfl) rfl d_J7_fill_53178_3 ?_
  refine aw_istore_n (i := 3) rfl [(0, .ref a), (1, .int v), (2, .int 0), (3, .int (Int32.ofNat n))] d_J7_fill_53178_4 (Nat.le_of_ble_eq_true rfl) rfl rfl ?_
  have key : ∀ r i : Nat, r + i = n → AW (m_J7_fill_53178 (d + 0) 0 0) 0 0 5 [(0, .ref a), (1, .int v), (2, .int (Int32.ofNat i)), (3, .int (Int32.ofNat n))] [] (h_iw h a (fl_ (fun _ => v) (h_i h a) i)) (kV (fun h' => h' = h_iw h a (fl_ (fun _ => v) (h_i h a) n))) := by
    intro r
    induction r with
    | zero =>
      intro i hi
      have e : i = n := by omega
      subst e
      refine aw_iload_n (i := 2) rfl d_J7_fill_53178_5 2 rfl ?_
      refine aw_iload_n (i := 3) rfl d_J7_fill_53178_6 3 rfl ?_
      refine aw_icmp_ge (tgt := 20) d_J7_fill_53178_7 rfl (fun _ => ?_) (fun c => absurd (Int32.le_refl _) c)
      exact aw_vret rfl d_J7_fill_53178_20 ⟨Nat.le_refl _, Nat.le_refl _⟩ ⟨rfl, rfl⟩
    | succ r ih =>
      intro i hi
      refine aw_iload_n (i := 2) rfl d_J7_fill_53178_5 2 rfl ?_
      refine aw_iload_n (i := 3) rfl d_J7_fill_53178_6 3 rfl ?_
      refine aw_icmp_ge (tgt := 20) d_J7_fill_53178_7 rfl (fun c => absurd ((on_le hn (by omega)).mp c) (by omega)) (fun _ => ?_)
      refine aw_aload_n (i := 0) rfl d_J7_fill_53178_10 0 rfl ?_
      refine aw_iload_n (i := 2) rfl d_J7_fill_53178_11 2 rfl ?_
      refine aw_iload_n (i := 1) rfl d_J7_fill_53178_12 1 rfl ?_
      refine aw_iast hs (on_inp (by omega) hn) d_J7_fill_53178_13 ?_
      refine aw_iinc (v := Int32.ofNat (i + 1)) [(0, .ref a), (1, .int v), (2, .int (Int32.ofNat (i + 1))), (3, .int (Int32.ofNat n))] d_J7_fill_53178_14 2 rfl (on_suc i) (Nat.le_of_ble_eq_true rfl) rfl rfl ?_
      refine aw_goto (tgt := 5) d_J7_fill_53178_17 rfl ?_
      rw [on_nat (by omega), iw_st h a i (fun _ => v) (h_i h a)]
      exact ih (i + 1) (by omega)
  have k := key n 0 (by omega)
  rw [iw_0] at k
  exact k
theorem vin_c {x : Int32} {n : Nat} (h : ¬ (x < 0 ∨ n ≤ x.toNatClampNeg)) : vp_in x n := h
end
